theorem k5w_0 : (Cond.classLink "LayerDesk$Chooser" 39 "LayerDesk$Layer") ∈ wT := wT_t (List.mem_append_right _ (List.mem_append_right _ (List.mem_append_left _ (List.mem_of_getElem? (i := 131) rfl)))) rfl
theorem k5w_1 : (Cond.instantiable "LayerDesk$Layer" 4) ∈ wT := wT_t (List.mem_append_right _ (List.mem_append_right _ (List.mem_append_left _ (List.mem_of_getElem? (i := 132) rfl)))) rfl
theorem k5w_2 : (Cond.initialized "LayerDesk$Layer") ∈ wT := wT_t (List.mem_append_left _ (List.mem_of_getElem? (i := 19) rfl)) rfl
theorem k5w_3 : (Cond.fieldLink "LayerDesk$Chooser" 24 "LayerDesk$Chooser" "parent" "LLayerDesk$Layer;") ∈ wT := wT_t (List.mem_append_left _ (List.mem_of_getElem? (i := 85) rfl)) rfl
theorem k5w_4 : (Cond.fieldLink "LayerDesk$Chooser" 17 "LayerDesk$Chooser" "size" "I") ∈ wT := wT_t (List.mem_append_left _ (List.mem_of_getElem? (i := 83) rfl)) rfl
theorem k5w_5 : (Cond.code xy_Ly_init xb_Ly_init 4 none) ∈ wT := wT_t (List.mem_append_right _ (List.mem_append_right _ (List.mem_append_left _ (List.mem_of_getElem? (i := 135) rfl)))) rfl
theorem k5w_6 : (Cond.methodLink "LayerDesk$Chooser" 41 xy_Ly_init) ∈ wT := wT_t (List.mem_append_right _ (List.mem_append_right _ (List.mem_append_left _ (List.mem_of_getElem? (i := 133) rfl)))) rfl
theorem k5w_7 : (Cond.instanceMethod xy_Ly_init) ∈ wT := wT_t (List.mem_append_right _ (List.mem_append_right _ (List.mem_append_left _ (List.mem_of_getElem? (i := 134) rfl)))) rfl
theorem k5w_8 : (Cond.code xy_Ly_connect xb_Ly_connect 4 none) ∈ wT := wT_t (List.mem_append_right _ (List.mem_append_right _ (List.mem_append_left _ (List.mem_of_getElem? (i := 209) rfl)))) rfl
theorem k5w_9 : (Cond.methodLink "LayerDesk$Chooser" 53 xy_Ly_connect) ∈ wT := wT_t (List.mem_append_right _ (List.mem_append_right _ (List.mem_append_left _ (List.mem_of_getElem? (i := 206) rfl)))) rfl
theorem k5w_10 : (Cond.instanceMethod xy_Ly_connect) ∈ wT := wT_t (List.mem_append_right _ (List.mem_append_right _ (List.mem_append_left _ (List.mem_of_getElem? (i := 207) rfl)))) rfl
theorem k5w_11 : (Cond.selects "LayerDesk$Layer" xy_Ly_connect xy_Ly_connect) ∈ wT := wT_t (List.mem_append_right _ (List.mem_append_right _ (List.mem_append_left _ (List.mem_of_getElem? (i := 208) rfl)))) rfl
theorem k5w_12 : (Cond.fieldLink "LayerDesk$Chooser" 44 "LayerDesk$Layer" "members" "[LLayerDesk$Member;") ∈ wT := wT_t (List.mem_append_right _ (List.mem_append_right _ (List.mem_append_left _ (List.mem_of_getElem? (i := 149) rfl)))) rfl
theorem k5w_13 : (Cond.classLink "LayerDesk$Chooser" 48 "LayerDesk$Member") ∈ wT := wT_t (List.mem_append_right _ (List.mem_append_right _ (List.mem_append_left _ (List.mem_of_getElem? (i := 162) rfl)))) rfl
theorem k5w_14 : (Cond.instantiable "LayerDesk$Member" 6) ∈ wT := wT_t (List.mem_append_right _ (List.mem_append_right _ (List.mem_append_left _ (List.mem_of_getElem? (i := 163) rfl)))) rfl
theorem k5w_15 : (Cond.initialized "LayerDesk$Member") ∈ wT := wT_t (List.mem_append_left _ (List.mem_of_getElem? (i := 20) rfl)) rfl
theorem k5w_16 : (Cond.fieldLink "LayerDesk$Chooser" 11 "LayerDesk$Chooser" "chosen" "[LLayerDesk$Descriptor;") ∈ wT := wT_t (List.mem_append_left _ (List.mem_of_getElem? (i := 82) rfl)) rfl
theorem k5w_17 : (Cond.code xy_Me_init xb_Me_init 3 none) ∈ wT := wT_t (List.mem_append_right _ (List.mem_append_right _ (List.mem_append_left _ (List.mem_of_getElem? (i := 166) rfl)))) rfl
theorem k5w_18 : (Cond.methodLink "LayerDesk$Chooser" 50 xy_Me_init) ∈ wT := wT_t (List.mem_append_right _ (List.mem_append_right _ (List.mem_append_left _ (List.mem_of_getElem? (i := 164) rfl)))) rfl
theorem k5w_19 : (Cond.instanceMethod xy_Me_init) ∈ wT := wT_t (List.mem_append_right _ (List.mem_append_right _ (List.mem_append_left _ (List.mem_of_getElem? (i := 165) rfl)))) rfl
set_option maxHeartbeats 4000000 in
set_option maxRecDepth 100000 in
theorem xc_Ch_draftX (l : Launch) (D : va_G) (kA : Nat → ClassId) (sz : Nat) (ad : Nat → Nat → Nat) (E : Nat → Nat → va_E) (RL : List (Nat × Nat)) (g : Nat → Nat → Int32) (ml : Nat) (nd : Nat) (len : Nat) (wn : Nat) (fi : Int32) (lq : Nat) (L : List Nat) (hCI : CI kA ad E RL ml nd len wn L.length) (hCX : CX ad E nd fi lq L) (hTD : TDs g E nd) (hTL : TLas g ad E nd ml) (hlqm : lq ≤ ml) (hCB : CBs g E ml) : Met l xy_Ch_draft (.code xy_Ch_draft xb_Ch_draft 4 (some (.object "LayerDesk$Layer")) :: wT) { frames := 8, cells := 100, slots := 424, locals := 400 } (va_Pc [.ref (ad 0 7), .int (nI ml)] (xPre D kA sz (rp ad E RL))) (va_Qq (fun (r : Option Nat) (u : (Nat → Nat → Nat) × (Nat → Nat → va_E) × List (Nat × Nat)) => ((r = some (u.1 (20 + ml) 0) ∧ CI kA u.1 u.2.1 u.2.2 ml nd len wn L.length ∧ LI kA u.1 u.2.1 u.2.2 nd ml) ∧ TLas (gDr g ml lq L) u.1 u.2.1 nd (ml + 1) ∧ CBs (gDr g ml lq L) u.2.1 (ml + 1) ∧ LBs (gDr g ml lq L) u.2.1 ml ∧ RBs (gDr g ml lq L) u.2.1 ml) ∧ ((∀ b2 o2, ¬ (b2 = 20 + ml) → u.2.1 b2 o2 = E b2 o2)) ∧ ((∀ b2 o2, ¬ (b2 = 20 + ml) → u.1 b2 o2 = ad b2 o2)) ∧ ((∀ x ∈ RL, x ∈ u.2.2))) (fun (u : (Nat → Nat → Nat) × (Nat → Nat → va_E) × List (Nat × Nat)) t => va_P D xcl (rp u.1 u.2.1 u.2.2) t.heap ∧ va_D (va_A (rp ad E RL) sz) (rp u.1 u.2.1 u.2.2)) (va_A (rp ad E RL) sz)) 100 424 (va_A (rp ad E RL) sz) := by
  refine Met.ofW (cc := xb_Ch_draft) (maxL := 4) (ret := (some (.object "LayerDesk$Layer"))) (by decide) rfl ?_
  intro p e s m args below meth c s₁ B hml hv
  obtain ⟨rfl, hsz, hP, hK, hD0⟩ := hv
  have hx := B.exec
  have hb := B.bytes
  have hr := B.returns
  have hT := x_hT B.pre
  have hown : s.vm.findClass xR_Ch = some m.cls := findClass_of_methodNamed B.named
  have hlocks := B.notSynchronized
  subst hsz
  have hD := hD0.self (sz := s.heap.size)
  generalize hAe : va_A (rp ad E RL) s.heap.size = A at hD ⊢
  have hA : ∀ q : Nat, s.heap.size ≤ q → A q := fun q h => by rw [← hAe]; exact Or.inr h
  have hS : va_S A s.heap s.heap [] := va_S.rf
  have hl := lv_entry ([.ref (ad 0 7), .int (nI ml)]) (n := 4) (Nat.le_of_ble_eq_true rfl)
  rw [lg_entry_eq]
  generalize (lg_sl ([.ref (ad 0 7), .int (nI ml)]) ++ List.replicate (4 - (lg_sl ([.ref (ad 0 7), .int (nI ml)])).length) Slot.unset).toArray = ls at hl ⊢
  have hl : lv_has ls 4 [(0, .ref (ad 0 7)), (1, .int (nI ml))] := hl
  have hP : va_P D xcl (rp ad E RL) s.heap := hP
  obtain ⟨hmB, hDk, hLi, hSh, hCh, hLa, hDIs, hLIs⟩ := id hCI
  obtain ⟨lf_1, q_1⟩ := id (hDk)
  have c_2 : E 0 0 = .inr (0, [.ref (ad 0 1), .ref (ad 0 5), .ref (ad 0 7), .ref (ad 0 9), .int (nI ml), .int lf_1]) := q_1
  have m_3 : (0, 0) ∈ RL := hmB 0 (by omega)
  obtain ⟨tx_4, fb_4, fe_4, hl1_4, hw2_4, q1_4, q2_4, q3_4, q4_4, hws_4⟩ := id (hLi)
  have c_5 : E 0 1 = .inr (1, [.ref (ad 0 2), .ref (ad 0 3), .ref (ad 0 4), .int (nI len), .int (nI wn)]) := q1_4
  have m_6 : (0, 1) ∈ RL := hmB 1 (by omega)
  have c_7 : E 0 2 = .inl (kA 1, 40, .inl tx_4) := q2_4
  have m_8 : (0, 2) ∈ RL := hmB 2 (by omega)
  have c_9 : E 0 3 = .inl (kA 0, 20, .inl fb_4) := q3_4
  have m_10 : (0, 3) ∈ RL := hmB 3 (by omega)
  have c_11 : E 0 4 = .inl (kA 0, 20, .inl fe_4) := q4_4
  have m_12 : (0, 4) ∈ RL := hmB 4 (by omega)
  obtain ⟨fd_13, hnd_13, q5_13, q6_13, hds_13⟩ := id (hSh)
  have c_14 : E 0 5 = .inr (2, [.ref (ad 0 6), .int (nI nd)]) := q5_13
  have m_15 : (0, 5) ∈ RL := hmB 5 (by omega)
  have c_16 : E 0 6 = .inl (kA 4, 12, .inr (.inr (.inr (.inr fd_13)))) := q6_13
  have m_17 : (0, 6) ∈ RL := hmB 6 (by omega)
  obtain ⟨cf_18, pv_18, fc_18, hcs_18, hpv_18, q7_18, q8_18, hfc_18⟩ := id (hCh)
  have c_19 : E 0 7 = .inr (3, [.ref (ad 0 5), .ref (ad 0 8), .int (nI (L.length)), .int cf_18, pv_18]) := q7_18
  have m_20 : (0, 7) ∈ RL := hmB 7 (by omega)
  have c_21 : E 0 8 = .inl (kA 4, 12, .inr (.inr (.inr (.inr fc_18)))) := q8_18
  have m_22 : (0, 8) ∈ RL := hmB 8 (by omega)
  obtain ⟨fl_23, hml_23, q9_23, hla_23⟩ := id (hLa)
  have c_24 : E 0 9 = .inl (kA 5, 5, .inr (.inr (.inr (.inr fl_23)))) := q9_23
  have m_25 : (0, 9) ∈ RL := hmB 9 (by omega)
  obtain ⟨xfi_18, xpv_18, xfc_18, xGL_18⟩ := id hCX
  rw [c_19] at xfi_18 xpv_18
  rw [c_21] at xfc_18
  have xfi_18 : cf_18 = fi := xfi_18
  have xpv_18 : pv_18 = lyv ad lq := xpv_18
  have xfc_18 : ∀ k, k < L.length → fc_18 k = some (ad (1 + L.getD k 0) 0) := xfc_18
  have xln_18 := GL_len xGL_18
  have hDIs0 := hDIs
  have hLIs0 := hLIs
  have hmB0 := hmB
  have hfc0 := hfc_18
  have hws0 := hws_4
  have hds0 := hds_13
  have hla0 := hla_23
  have hnd12 : nd ≤ 12 := by omega
  have hml5 : ml ≤ 5 := by omega
  have hxfc := xfc_18
  have hxGL := xGL_18
  rcases (show (lq = 0 ∧ pv_18 = .null) ∨ ∃ xp, xp < ml ∧ lq = xp + 1 ∧ pv_18 = .ref (ad (20 + xp) 0) from by rcases Nat.eq_zero_or_pos lq with q | q; exact Or.inl ⟨q, by rw [xpv_18, lyv_0 q]⟩; exact Or.inr ⟨lq - 1, by omega, by omega, by rw [xpv_18, lyv_s (show lq = lq - 1 + 1 by omega)]⟩) with ⟨hyq, rfl⟩ | ⟨xp, hxp, hyq, rfl⟩
  · have hd0 := hDIs0
    refine px_new (ci := 5) (fs := [.int 0, .null, .null, .int 0]) (C := xR_Ly) (T := xT_Ly) (N := 4) (20 + ml) 0 hx hb hT xi_Ly xt_Ly xt_Ly_ok hown (hT _ k5w_0) (hT _ k5w_1) (hT _ k5w_2) hK.1 hP hD hS hA rfl (by decide +kernel) (Nat.le_of_ble_eq_true rfl) (Nat.le_of_ble_eq_true rfl) xd_Ch_draft_0 (fun ad26 E27 RL28 H hA1 hE1 hs1 hm1 hP hD hS => ?_)
    have fE29 : ∀ b2 o2, ¬ (b2 = 20 + ml ∧ o2 = 0) → E27 b2 o2 = E b2 o2 := fun b2 o2 h9 => by rw [hE1]; exact up2_ne (by omega)
    have fA30 : ∀ b2 o2, ¬ (b2 = 20 + ml ∧ o2 = 0) → ad26 b2 o2 = ad b2 o2 := fun b2 o2 h9 => by rw [hA1]; exact up2_ne (by omega)
    have hs31 := hs1
    have c_32 : E27 (20 + ml) 0 = .inr (5, [.int 0, .null, .null, .int 0]) := by rw [hE1]; exact up2_eq
    have hl : lv_has ls 4 [(0, .ref (ad26 0 7)), (1, .int (nI ml))] := by
      rw [fA30 0 7 (by omega)]; exact hl
    have m_34 : (0, 0) ∈ RL28 := hs31 _ m_3
    have m_35 : (0, 1) ∈ RL28 := hs31 _ m_6
    have m_36 : (0, 2) ∈ RL28 := hs31 _ m_8
    have m_37 : (0, 3) ∈ RL28 := hs31 _ m_10
    have m_38 : (0, 4) ∈ RL28 := hs31 _ m_12
    have m_39 : (0, 5) ∈ RL28 := hs31 _ m_15
    have m_40 : (0, 6) ∈ RL28 := hs31 _ m_17
    have m_41 : (0, 7) ∈ RL28 := hs31 _ m_20
    have m_42 : (0, 8) ∈ RL28 := hs31 _ m_22
    have m_43 : (0, 9) ∈ RL28 := hs31 _ m_25
    have c_44 : E27 0 0 = .inr (0, [.ref (ad26 0 1), .ref (ad26 0 5), .ref (ad26 0 7), .ref (ad26 0 9), .int (nI ml), .int lf_1]) := by rw [fE29 0 0 (by omega), fA30 0 1 (by omega), fA30 0 5 (by omega), fA30 0 7 (by omega), fA30 0 9 (by omega)]; exact c_2
    have c_45 : E27 0 1 = .inr (1, [.ref (ad26 0 2), .ref (ad26 0 3), .ref (ad26 0 4), .int (nI len), .int (nI wn)]) := by rw [fE29 0 1 (by omega), fA30 0 2 (by omega), fA30 0 3 (by omega), fA30 0 4 (by omega)]; exact c_5
    have c_46 : E27 0 2 = .inl (kA 1, 40, .inl tx_4) := by rw [fE29 0 2 (by omega)]; exact c_7
    have c_47 : E27 0 3 = .inl (kA 0, 20, .inl fb_4) := by rw [fE29 0 3 (by omega)]; exact c_9
    have c_48 : E27 0 4 = .inl (kA 0, 20, .inl fe_4) := by rw [fE29 0 4 (by omega)]; exact c_11
    have c_49 : E27 0 5 = .inr (2, [.ref (ad26 0 6), .int (nI nd)]) := by rw [fE29 0 5 (by omega), fA30 0 6 (by omega)]; exact c_14
    have c_50 : E27 0 6 = .inl (kA 4, 12, .inr (.inr (.inr (.inr fd_13)))) := by rw [fE29 0 6 (by omega)]; exact c_16
    have c_51 : E27 0 7 = .inr (3, [.ref (ad26 0 5), .ref (ad26 0 8), .int (nI (L.length)), .int cf_18, .null]) := by rw [fE29 0 7 (by omega), fA30 0 5 (by omega), fA30 0 8 (by omega)]; exact c_19
    have c_52 : E27 0 8 = .inl (kA 4, 12, .inr (.inr (.inr (.inr fc_18)))) := by rw [fE29 0 8 (by omega)]; exact c_21
    have c_53 : E27 0 9 = .inl (kA 5, 5, .inr (.inr (.inr (.inr fl_23)))) := by rw [fE29 0 9 (by omega)]; exact c_24
    have m_33 : (20 + ml, 0) ∈ RL28 := hm1
    have hP : va_P D xcl (rp ad26 E27 RL28) H := hP
    have hD : va_D A (rp ad26 E27 RL28) := hD
    refine lv_dup hx hb xd_Ch_draft_3 rfl ?_
    refine lv_iload_n hx hb xd_Ch_draft_4 rfl (lv_at hl 1 rfl) ?_
    refine lv_aload_n hx hb xd_Ch_draft_5 rfl (lv_at hl 0 rfl) ?_
    refine px_get (D := D) (ci := 3) (v := .null) (C := xR_Ch) (T := xT_Ch) (N := 5) hx hb hT xi_Ch hown hK.1 hP m_41 c_51 rfl 4 (by decide) (hT _ k5w_3) (fun _ h9 => h9) rfl xd_Ch_draft_6 ?_
    refine lv_aload_n hx hb xd_Ch_draft_9 rfl (lv_at hl 0 rfl) ?_
    refine px_get (D := D) (ci := 3) (v := .int (nI (L.length))) (C := xR_Ch) (T := xT_Ch) (N := 5) hx hb hT xi_Ch hown hK.1 hP m_41 c_51 rfl 2 (by decide) (hT _ k5w_4) (fun _ h9 => h9) rfl xd_Ch_draft_10 ?_
    have hFc := px_free hD hS hA
    refine va_callv (va_runI (As := [.int (nI ml), .null, .int (nI (L.length))]) (rest := [.ref (ad26 (20 + ml) 0)]) ⟨hx, hb, hml, hown, hT⟩ (xc_Ly_initN l D kA H.size ad26 E27 RL28 ml L.length m_33 c_32 (by first | assumption | omega)) (cwI 3 hT (wT_I k5w_5) rfl rfl rfl (hT _ k5w_2) (hT _ k5w_6) (hT _ k5w_7) rfl (by decide +kernel) ⟨Nat.le_of_ble_eq_true rfl, Nat.le_of_ble_eq_true rfl⟩) (x_preS hK hP hD) rfl rfl hl.1 rfl (lv_room (Nat.le_of_ble_eq_true rfl)) xd_Ch_draft_13 ⟨(Nat.le_of_ble_eq_true rfl), (Nat.le_of_ble_eq_true rfl)⟩) hS (fun q _ h => hFc q h) hFc (fun u55 t H1 locs ht hvm hp56 hB hz1 hk1 hS => ?_)
    obtain ⟨hP1, hD1⟩ := hB
    rw [ht] at hP1
    have hD1 := hD1.weaken (fun _ _ _ h => hFc _ h)
    generalize H1 = H at hP1 hS ⊢
    have hP := hP1
    have hD := hD1
    obtain ⟨ad57, E58, RL59⟩ := u55
    obtain ⟨hp66, p_60, p_61, p_62, p_63, p_64, p_65⟩ := hp56
    have p_60 : E58 (20 + ml) 0 = .inr (5, [.int (nI ml), .null, .ref (ad57 (20 + ml) 1), .int 1]) := p_60
    have p_61 : E58 (20 + ml) 1 = .inl (kA 6, L.length, .inr (.inr (.inr (.inr (fun _ => none))))) := p_61
    have p_62 : (∀ b2 o2, ¬ (b2 = 20 + ml ∧ o2 = 0) → ¬ (b2 = 20 + ml ∧ o2 = 1) → E58 b2 o2 = E27 b2 o2) := p_62
    have p_63 : (∀ b2 o2, ¬ (b2 = 20 + ml ∧ o2 = 1) → ad57 b2 o2 = ad26 b2 o2) := p_63
    have p_64 : (∀ x ∈ RL28, x ∈ RL59) := p_64
    have p_65 : (20 + ml, 1) ∈ RL59 := p_65
    refine W.eq (g2 := F0 m 16 ls [.ref (ad57 (20 + ml) 0)]) (by rw [p_63 (20 + ml) 0 (by omega)]) ?_
    have hl : lv_has ls 4 [(0, .ref (ad57 0 7)), (1, .int (nI ml))] := by
      rw [p_63 0 7 (by omega)]; exact hl
    have m_67 : (0, 0) ∈ RL59 := p_64 _ m_34
    have m_68 : (0, 1) ∈ RL59 := p_64 _ m_35
    have m_69 : (0, 2) ∈ RL59 := p_64 _ m_36
    have m_70 : (0, 3) ∈ RL59 := p_64 _ m_37
    have m_71 : (0, 4) ∈ RL59 := p_64 _ m_38
    have m_72 : (0, 5) ∈ RL59 := p_64 _ m_39
    have m_73 : (0, 6) ∈ RL59 := p_64 _ m_40
    have m_74 : (0, 7) ∈ RL59 := p_64 _ m_41
    have m_75 : (0, 8) ∈ RL59 := p_64 _ m_42
    have m_76 : (0, 9) ∈ RL59 := p_64 _ m_43
    have m_77 : (20 + ml, 0) ∈ RL59 := p_64 _ m_33
    have c_78 : E58 0 0 = .inr (0, [.ref (ad57 0 1), .ref (ad57 0 5), .ref (ad57 0 7), .ref (ad57 0 9), .int (nI ml), .int lf_1]) := by rw [p_62 0 0 (by omega) (by omega), p_63 0 1 (by omega), p_63 0 5 (by omega), p_63 0 7 (by omega), p_63 0 9 (by omega)]; exact c_44
    have c_79 : E58 0 1 = .inr (1, [.ref (ad57 0 2), .ref (ad57 0 3), .ref (ad57 0 4), .int (nI len), .int (nI wn)]) := by rw [p_62 0 1 (by omega) (by omega), p_63 0 2 (by omega), p_63 0 3 (by omega), p_63 0 4 (by omega)]; exact c_45
    have c_80 : E58 0 2 = .inl (kA 1, 40, .inl tx_4) := by rw [p_62 0 2 (by omega) (by omega)]; exact c_46
    have c_81 : E58 0 3 = .inl (kA 0, 20, .inl fb_4) := by rw [p_62 0 3 (by omega) (by omega)]; exact c_47
    have c_82 : E58 0 4 = .inl (kA 0, 20, .inl fe_4) := by rw [p_62 0 4 (by omega) (by omega)]; exact c_48
    have c_83 : E58 0 5 = .inr (2, [.ref (ad57 0 6), .int (nI nd)]) := by rw [p_62 0 5 (by omega) (by omega), p_63 0 6 (by omega)]; exact c_49
    have c_84 : E58 0 6 = .inl (kA 4, 12, .inr (.inr (.inr (.inr fd_13)))) := by rw [p_62 0 6 (by omega) (by omega)]; exact c_50
    have c_85 : E58 0 7 = .inr (3, [.ref (ad57 0 5), .ref (ad57 0 8), .int (nI (L.length)), .int cf_18, .null]) := by rw [p_62 0 7 (by omega) (by omega), p_63 0 5 (by omega), p_63 0 8 (by omega)]; exact c_51
    have c_86 : E58 0 8 = .inl (kA 4, 12, .inr (.inr (.inr (.inr fc_18)))) := by rw [p_62 0 8 (by omega) (by omega)]; exact c_52
    have c_87 : E58 0 9 = .inl (kA 5, 5, .inr (.inr (.inr (.inr fl_23)))) := by rw [p_62 0 9 (by omega) (by omega)]; exact c_53
    have hP : va_P D xcl (rp ad57 E58 RL59) H := hP
    have hD : va_D A (rp ad57 E58 RL59) := hD
    refine lv_astore_n hx hb xd_Ch_draft_16 rfl hl (Nat.le_of_ble_eq_true rfl) rfl (fun ls hl => ?_)
    have hl : lv_has ls 4 [(2, .ref (ad57 (20 + ml) 0)), (0, .ref (ad57 0 7)), (1, .int (nI ml))] := hl
    refine lv_iconst (v := 0) hx hb xd_Ch_draft_17 (by decide) ?_
    refine lv_istore_n hx hb xd_Ch_draft_18 rfl hl (Nat.le_of_ble_eq_true rfl) rfl (fun ls hl => ?_)
    have hl : lv_has ls 4 [(3, .int 0), (2, .ref (ad57 (20 + ml) 0)), (0, .ref (ad57 0 7)), (1, .int (nI ml))] := hl
    refine xlabC (σ := Nat × (Nat → Nat → Nat) × (Nat → Nat → va_E) × (List (Nat × Nat)) × Value × (Nat → Option Nat)) (ml := 4) 19 (fun (k, ad1, E1, RL1, pv1, fm1) => [(3, .int (nI k)), (2, .ref (ad1 (20 + ml) 0)), (0, .ref (ad1 0 7))]) (fun (k, ad1, E1, RL1, pv1, fm1) => []) (fun (k, ad1, E1, RL1, pv1, fm1) => rp ad1 E1 RL1) (fun (k, ad1, E1, RL1, pv1, fm1) => 2 + 8 * k) (fun (k, ad1, E1, RL1, pv1, fm1) => 16 + 32 * k) (fun (k, ad1, E1, RL1, pv1, fm1) => (k ≤ L.length) ∧ ((∀ b2 o2, ¬ (b2 = 20 + ml) → E1 b2 o2 = E b2 o2)) ∧ ((∀ b2 o2, ¬ (b2 = 20 + ml) → ad1 b2 o2 = ad b2 o2)) ∧ (∀ x ∈ RL, x ∈ RL1) ∧ ((20 + ml, 0) ∈ RL1) ∧ ((20 + ml, 1) ∈ RL1) ∧ (pv1 = .null ∨ ∃ x, x < ml ∧ pv1 = .ref (ad1 (20 + x) 0)) ∧ (pv1 = lyv ad1 lq) ∧ (E1 (20 + ml) 0 = .inr (5, [.int (nI ml), pv1, .ref (ad1 (20 + ml) 1), .int 1])) ∧ (E1 (20 + ml) 1 = .inl (kA 6, L.length, .inr (.inr (.inr (.inr fm1))))) ∧ (∀ j, j < k → fm1 j = some (ad1 (20 + ml) (10 + 10 * j)) ∧ MEI kA ad1 E1 RL1 nd ml j) ∧ (∀ j, j < k → DX g ad1 E1 L ml j)) (fun (k, ad1, E1, RL1, pv1, fm1) => L.length - k) ?_ (0, ad57, E58, RL59, Value.null, (fun _ => none)) _ _ _ (lv_sub hl [0, 1, 2] rfl) hP hD hS ⟨(show 0 ≤ L.length from by first | assumption | omega), (show (∀ b2 o2, ¬ (b2 = 20 + ml) → E58 b2 o2 = E b2 o2) from fun b2 o2 h9 => by show E58 b2 o2 = _; rw [p_62 b2 o2 (by omega) (by omega), fE29 b2 o2 (by omega)]), (show (∀ b2 o2, ¬ (b2 = 20 + ml) → ad57 b2 o2 = ad b2 o2) from fun b2 o2 h9 => by show ad57 b2 o2 = _; rw [p_63 b2 o2 (by omega), fA30 b2 o2 (by omega)]), (show ∀ x ∈ RL, x ∈ RL59 from fun _ h9 => p_64 _ (hs31 _ h9)), (show (20 + ml, 0) ∈ RL59 from m_77), (show (20 + ml, 1) ∈ RL59 from p_65), (show Value.null = .null ∨ ∃ x, x < ml ∧ Value.null = .ref (ad57 (20 + x) 0) from Or.inl rfl), (show Value.null = lyv ad57 lq from (lyv_0 hyq).symm), (show E58 (20 + ml) 0 = .inr (5, [.int (nI ml), Value.null, .ref (ad57 (20 + ml) 1), .int 1]) from p_60), (show E58 (20 + ml) 1 = .inl (kA 6, L.length, .inr (.inr (.inr (.inr (fun _ => none))))) from p_61), (show ∀ j, j < 0 → (fun _ => none) j = some (ad57 (20 + ml) (10 + 10 * j)) ∧ MEI kA ad57 E58 RL59 nd ml j from fun j hj => absurd hj (by omega)), (show ∀ j, j < 0 → DX g ad57 E58 L ml j from fun j hj => absurd hj (by omega))⟩
    intro n9 ih88 a9 ls H locs hμ hl hP hD hS hI
    subst hμ
    obtain ⟨k, ad1, E1, RL1, pv1, fm1⟩ := a9
    obtain ⟨hk0, hfE, hfA, hfS, hmz0, hmz1, hpv1, hpx, hcA0, hcA1, hMM, hMX⟩ := hI
    have hk0 : k ≤ L.length := hk0
    have hfE : (∀ b2 o2, ¬ (b2 = 20 + ml) → E1 b2 o2 = E b2 o2) := hfE
    have hfA : (∀ b2 o2, ¬ (b2 = 20 + ml) → ad1 b2 o2 = ad b2 o2) := hfA
    have hfS : ∀ x ∈ RL, x ∈ RL1 := hfS
    have hmz0 : (20 + ml, 0) ∈ RL1 := hmz0
    have hmz1 : (20 + ml, 1) ∈ RL1 := hmz1
    have hpv1 : pv1 = .null ∨ ∃ x, x < ml ∧ pv1 = .ref (ad1 (20 + x) 0) := hpv1
    have hpx : pv1 = lyv ad1 lq := hpx
    have hcA0 : E1 (20 + ml) 0 = .inr (5, [.int (nI ml), pv1, .ref (ad1 (20 + ml) 1), .int 1]) := hcA0
    have hcA1 : E1 (20 + ml) 1 = .inl (kA 6, L.length, .inr (.inr (.inr (.inr fm1)))) := hcA1
    have hMM : ∀ j, j < k → fm1 j = some (ad1 (20 + ml) (10 + 10 * j)) ∧ MEI kA ad1 E1 RL1 nd ml j := hMM
    have hMX : ∀ j, j < k → DX g ad1 E1 L ml j := hMX
    have hl : lv_has ls 4 [(3, .int (nI k)), (2, .ref (ad1 (20 + ml) 0)), (0, .ref (ad1 0 7))] := hl
    have hP : va_P D xcl (rp ad1 E1 RL1) H := hP
    have hD : va_D A (rp ad1 E1 RL1) := hD
    have hTD1 : TDs g E1 nd := TDs_same (fun d9 hd9 => fun2 fun o9 => hfE (1 + d9) o9 (by omega)) hTD
    have hDIs : DIs kA ad1 E1 RL1 nd := (DIs_same (fun d9 hd9 => fun2 fun o9 => by show E1 (1 + d9) o9 = _; rw [hfE (1 + d9) o9 (by omega)]) (fun d9 hd9 => fun2 fun o9 => by show ad1 (1 + d9) o9 = _; rw [hfA (1 + d9) o9 (by omega)]) (fun _ h9 => hfS _ h9) hDIs0)
    have hLIs : LIs kA ad1 E1 RL1 nd ml := (LIs_same (Nat.le_refl _) (fun n9 hn9 => fun2 fun o9 => by show E1 (20 + n9) o9 = _; rw [hfE (20 + n9) o9 (by omega)]) (fun n9 hn9 => fun2 fun o9 => by show ad1 (20 + n9) o9 = _; rw [hfA (20 + n9) o9 (by omega)]) (fun d9 hd9 => by show ad1 (1 + d9) 0 = _; rw [hfA (1 + d9) 0 (by omega)]) (fun _ h9 => hfS _ h9) hLIs0)
    have hmB : ∀ o, o < 10 → (0, o) ∈ RL1 := fun o9 h9 => hfS _ (hmB0 o9 h9)
    have c_89 : E1 0 0 = .inr (0, [.ref (ad1 0 1), .ref (ad1 0 5), .ref (ad1 0 7), .ref (ad1 0 9), .int (nI ml), .int lf_1]) := by rw [hfE 0 0 (by omega), hfA 0 1 (by omega), hfA 0 5 (by omega), hfA 0 7 (by omega), hfA 0 9 (by omega)]; exact c_2
    have m_90 : (0, 0) ∈ RL1 := hmB 0 (by omega)
    have c_91 : E1 0 1 = .inr (1, [.ref (ad1 0 2), .ref (ad1 0 3), .ref (ad1 0 4), .int (nI len), .int (nI wn)]) := by rw [hfE 0 1 (by omega), hfA 0 2 (by omega), hfA 0 3 (by omega), hfA 0 4 (by omega)]; exact c_5
    have m_92 : (0, 1) ∈ RL1 := hmB 1 (by omega)
    have c_93 : E1 0 2 = .inl (kA 1, 40, .inl tx_4) := by rw [hfE 0 2 (by omega)]; exact c_7
    have m_94 : (0, 2) ∈ RL1 := hmB 2 (by omega)
    have c_95 : E1 0 3 = .inl (kA 0, 20, .inl fb_4) := by rw [hfE 0 3 (by omega)]; exact c_9
    have m_96 : (0, 3) ∈ RL1 := hmB 3 (by omega)
    have c_97 : E1 0 4 = .inl (kA 0, 20, .inl fe_4) := by rw [hfE 0 4 (by omega)]; exact c_11
    have m_98 : (0, 4) ∈ RL1 := hmB 4 (by omega)
    have c_99 : E1 0 5 = .inr (2, [.ref (ad1 0 6), .int (nI nd)]) := by rw [hfE 0 5 (by omega), hfA 0 6 (by omega)]; exact c_14
    have m_100 : (0, 5) ∈ RL1 := hmB 5 (by omega)
    have c_101 : E1 0 6 = .inl (kA 4, 12, .inr (.inr (.inr (.inr fd_13)))) := by rw [hfE 0 6 (by omega)]; exact c_16
    have m_102 : (0, 6) ∈ RL1 := hmB 6 (by omega)
    have c_103 : E1 0 7 = .inr (3, [.ref (ad1 0 5), .ref (ad1 0 8), .int (nI (L.length)), .int cf_18, .null]) := by rw [hfE 0 7 (by omega), hfA 0 5 (by omega), hfA 0 8 (by omega)]; exact c_19
    have m_104 : (0, 7) ∈ RL1 := hmB 7 (by omega)
    have c_105 : E1 0 8 = .inl (kA 4, 12, .inr (.inr (.inr (.inr fc_18)))) := by rw [hfE 0 8 (by omega)]; exact c_21
    have m_106 : (0, 8) ∈ RL1 := hmB 8 (by omega)
    have c_107 : E1 0 9 = .inl (kA 5, 5, .inr (.inr (.inr (.inr fl_23)))) := by rw [hfE 0 9 (by omega)]; exact c_24
    have m_108 : (0, 9) ∈ RL1 := hmB 9 (by omega)
    refine lv_iload_n hx hb xd_Ch_draft_19 rfl (lv_at hl 0 rfl) ?_
    refine lv_aload_n hx hb xd_Ch_draft_20 rfl (lv_at hl 2 rfl) ?_
    refine px_get (D := D) (ci := 3) (v := .int (nI (L.length))) (C := xR_Ch) (T := xT_Ch) (N := 5) hx hb hT xi_Ch hown hK.1 hP m_104 c_103 rfl 2 (by decide) (hT _ k5w_4) (fun _ h9 => h9) rfl xd_Ch_draft_21 ?_
    refine xn_ge (a := k) (b := L.length) (tgt := 53) hx hb xd_Ch_draft_24 (by decide) (by omega) (by omega) (fun hc109 => ?_) (fun hc109 => ?_)
    · have hLI : LI kA ad1 E1 RL1 nd ml := ⟨hmz0, hmz1, pv1, 1, L.length, fm1, by omega, hpv1, hcA0, hcA1, fun j hj => hMM j (by omega)⟩
      have hkL : k = L.length := by omega
      have hTL1 : TLas g ad1 E1 nd ml := TLas_same (Nat.le_refl _) (fun n9 hn9 => fun2 fun o9 => hfE (20 + n9) o9 (by omega)) (fun d9 hd9 => hfA (1 + d9) 0 (by omega)) (fun n9 hn9 => hfA (20 + n9) 0 (by omega)) hTL
      have hCB1 : CBs g E1 ml := CBs_same (fun la o9 hla => hfE (20 + la) o9 (by omega)) hCB
      have hLKP : LKP g ml := LKP_L (by omega) hnd12 hLIs hTL1
      have hTLr : TLas (gDr g ml lq L) ad1 E1 nd (ml + 1) := TLas_gDn hLIs hTL1 hxGL hlqm (by rw [← hpx]; exact hcA0) hcA1 (fun j hj => hMX j (by omega))
      have hTDr : TDs (gDr g ml lq L) E1 nd := TDs_gDr hDIs hTD1
      have hCBr : CBs (gDr g ml lq L) E1 ml := CBs_VQ hLKP (VQ_gDr hLKP) hCB1
      have hinjr : ∀ a b, a < L.length → b < L.length → mdv (gDr g ml lq L) ml a = mdv (gDr g ml lq L) ml b → a = b := fun a b ha hb e => by rw [gDr_md hxGL hnd12 ha, gDr_md hxGL hnd12 hb] at e; exact getD_inj hxGL.2 ha hb e
      have hC0r : ∀ j, j < L.length → CN0 (gDr g ml lq L) E1 ml j := fun j hj => (CN0_DX hxGL hnd12 hj (hMX j (by omega))).1
      have hC7r : ∀ j, j < L.length → CN7 E1 ml j := fun j hj => (CN0_DX (g := g) (ad := ad1) (lq := lq) hxGL hnd12 hj (hMX j (by omega))).2
      have hLIs := LIs_add hLIs hLI
      refine lv_aload_n hx hb xd_Ch_draft_53 rfl (lv_at hl 1 rfl) ?_
      have hFc := px_free hD hS hA
      refine va_callv (va_runV (As := []) (rest := []) ⟨hx, hb, hml, hown, hT⟩ (xc_Ly_connectX l D kA H.size ad1 E1 RL1 (gDr g ml lq L) nd (ml + 1) ml pv1 1 L.length fm1 hmz0 hcA0 hmz1 hcA1 (by first | assumption | omega) (by first | assumption | omega) (by first | assumption | omega) (by first | assumption | omega) (by first | assumption | omega) (by first | assumption | omega) (fun j hj => hMM j (by omega)) hTDr hTLr hCBr hinjr hC0r hC7r) (cwV 0 hT (wT_V k5w_9 k5w_10 k5w_11 k5w_2 k5w_8) rfl rfl rfl (by decide +kernel) ⟨Nat.le_of_ble_eq_true rfl, Nat.le_of_ble_eq_true rfl⟩) (px_preV hK hP hD hmz0 hcA0 rfl) rfl rfl hl.1 rfl (lv_room (Nat.le_of_ble_eq_true rfl)) xd_Ch_draft_54 ⟨(show 2 + 8 * k + 2 ≤ 100 by omega), (show 16 + 32 * k + 24 ≤ 424 by omega)⟩) hS (fun q _ h => hFc q h) hFc (fun u111 t H1 locs ht hvm hp112 hB hz1 hk1 hS => ?_)
      obtain ⟨hP1, hD1⟩ := hB
      rw [ht] at hP1
      have hD1 := hD1.weaken (fun _ _ _ h => hFc _ h)
      generalize H1 = H at hP1 hS ⊢
      have hP := hP1
      have hD := hD1
      obtain ⟨ad113, E114, RL115⟩ := u111
      obtain ⟨hp121, p_116, p_117, p_118, p_119, p_120⟩ := hp112
      have p_116 : (∀ b2 o2, ¬ (b2 = 20 + ml) → E114 b2 o2 = E1 b2 o2) := p_116
      have p_117 : (∀ b2 o2, ¬ (b2 = 20 + ml ∧ o2 = 2) → ¬ (b2 = 20 + ml ∧ o2 = 3) → ad113 b2 o2 = ad1 b2 o2) := p_117
      have p_118 : (∀ x ∈ RL1, x ∈ RL115) := p_118
      have p_119 : (20 + ml, 2) ∈ RL115 := p_119
      have p_120 : (20 + ml, 3) ∈ RL115 := p_120
      have hl : lv_has ls 4 [(3, .int (nI k)), (2, .ref (ad113 (20 + ml) 0)), (0, .ref (ad113 0 7))] := by
        rw [p_117 (20 + ml) 0 (by omega) (by omega), p_117 0 7 (by omega) (by omega)]; exact hl
      have m_122 : (0, 0) ∈ RL115 := p_118 _ m_90
      have m_123 : (0, 1) ∈ RL115 := p_118 _ m_92
      have m_124 : (0, 2) ∈ RL115 := p_118 _ m_94
      have m_125 : (0, 3) ∈ RL115 := p_118 _ m_96
      have m_126 : (0, 4) ∈ RL115 := p_118 _ m_98
      have m_127 : (0, 5) ∈ RL115 := p_118 _ m_100
      have m_128 : (0, 6) ∈ RL115 := p_118 _ m_102
      have m_129 : (0, 7) ∈ RL115 := p_118 _ m_104
      have m_130 : (0, 8) ∈ RL115 := p_118 _ m_106
      have m_131 : (0, 9) ∈ RL115 := p_118 _ m_108
      have m_132 : (20 + ml, 0) ∈ RL115 := p_118 _ hmz0
      have m_133 : (20 + ml, 1) ∈ RL115 := p_118 _ hmz1
      have c_134 : E114 0 0 = .inr (0, [.ref (ad113 0 1), .ref (ad113 0 5), .ref (ad113 0 7), .ref (ad113 0 9), .int (nI ml), .int lf_1]) := by rw [p_116 0 0 (by omega), p_117 0 1 (by omega) (by omega), p_117 0 5 (by omega) (by omega), p_117 0 7 (by omega) (by omega), p_117 0 9 (by omega) (by omega)]; exact c_89
      have c_135 : E114 0 1 = .inr (1, [.ref (ad113 0 2), .ref (ad113 0 3), .ref (ad113 0 4), .int (nI len), .int (nI wn)]) := by rw [p_116 0 1 (by omega), p_117 0 2 (by omega) (by omega), p_117 0 3 (by omega) (by omega), p_117 0 4 (by omega) (by omega)]; exact c_91
      have c_136 : E114 0 2 = .inl (kA 1, 40, .inl tx_4) := by rw [p_116 0 2 (by omega)]; exact c_93
      have c_137 : E114 0 3 = .inl (kA 0, 20, .inl fb_4) := by rw [p_116 0 3 (by omega)]; exact c_95
      have c_138 : E114 0 4 = .inl (kA 0, 20, .inl fe_4) := by rw [p_116 0 4 (by omega)]; exact c_97
      have c_139 : E114 0 5 = .inr (2, [.ref (ad113 0 6), .int (nI nd)]) := by rw [p_116 0 5 (by omega), p_117 0 6 (by omega) (by omega)]; exact c_99
      have c_140 : E114 0 6 = .inl (kA 4, 12, .inr (.inr (.inr (.inr fd_13)))) := by rw [p_116 0 6 (by omega)]; exact c_101
      have c_141 : E114 0 7 = .inr (3, [.ref (ad113 0 5), .ref (ad113 0 8), .int (nI (L.length)), .int cf_18, .null]) := by rw [p_116 0 7 (by omega), p_117 0 5 (by omega) (by omega), p_117 0 8 (by omega) (by omega)]; exact c_103
      have c_142 : E114 0 8 = .inl (kA 4, 12, .inr (.inr (.inr (.inr fc_18)))) := by rw [p_116 0 8 (by omega)]; exact c_105
      have c_143 : E114 0 9 = .inl (kA 5, 5, .inr (.inr (.inr (.inr fl_23)))) := by rw [p_116 0 9 (by omega)]; exact c_107
      have hP : va_P D xcl (rp ad113 E114 RL115) H := hP
      have hD : va_D A (rp ad113 E114 RL115) := hD
      obtain ⟨⟨hDIs9, hLIs9⟩, hTL9, hCB9, hLB9, hRB9⟩ := hp121
      refine lv_aload_n hx hb xd_Ch_draft_57 rfl (lv_at hl 1 rfl) ?_
      refine W.widen (k := 100) (n := 424) (show 2 + 8 * k + 2 ≤ 100 by omega) (show 16 + 32 * k + 24 ≤ 424 by omega) ?_
      exact W.aret (v := .ref (ad113 (20 + ml) 0)) hx hb hr (Or.inl ⟨_, rfl⟩) (Or.inr ⟨_, rfl⟩) (fun t ht hW => ⟨⟨(some (ad113 (20 + ml) 0)), (ad113, E114, RL115), rfl, ⟨⟨⟨rfl, (show CI kA ad113 E114 RL115 ml nd len wn L.length from ⟨(fun o9 h9 => p_118 _ (hfS _ (hmB0 o9 h9))), ⟨lf_1, c_134⟩, ⟨tx_4, fb_4, fe_4, (by omega), (by omega), c_135, c_136, c_137, c_138, hws0⟩, ⟨fd_13, (by omega), c_139, c_140, (fun d9 hd9 => (hds0 d9 hd9).trans (by rw [p_117 (1 + d9) 0 (by omega) (by omega), hfA (1 + d9) 0 (by omega)]))⟩, ⟨cf_18, .null, fc_18, (by omega), (Or.inl rfl), c_141, c_142, (fun k9 hk9 => by obtain ⟨d8, q1, q2⟩ := hfc0 k9 hk9; exact ⟨d8, q1, q2.trans (by rw [p_117 (1 + d8) 0 (by omega) (by omega), hfA (1 + d8) 0 (by omega)])⟩)⟩, ⟨fl_23, (by omega), c_143, (fun n9 hn9 => (hla0 n9 hn9).trans (by rw [p_117 (20 + n9) 0 (by omega) (by omega), hfA (20 + n9) 0 (by omega)]))⟩, hDIs9, (fun n9 hn9 => hLIs9 n9 (by omega))⟩), (show LI kA ad113 E114 RL115 nd ml from hLIs9 ml (by omega))⟩, hTL9, hCB9, hLB9, hRB9⟩, (fun b2 o2 h09 => by show E114 b2 o2 = _; rw [p_116 b2 o2 (by omega), hfE b2 o2 (by omega)]), (fun b2 o2 h09 => by show ad113 b2 o2 = _; rw [p_117 b2 o2 (by omega) (by omega), hfA b2 o2 (by omega)]), (fun x9 hx9 => p_118 _ (hfS _ hx9))⟩, by rw [ht]; exact hP, hD⟩, hS.F ht⟩) hS.2.2 xd_Ch_draft_58
    · obtain ⟨d9, hd9e⟩ : ∃ z, z = L.getD k 0 := ⟨_, rfl⟩
      have hd9 : d9 < nd := by rw [hd9e]; exact hxGL.1 _ (getD_mem (by omega))
      have hf9 := hxfc k (by omega)
      rw [← hd9e] at hf9
      obtain ⟨hm_144, fd_144, nm_144, sd_144, k0_144, k1_144, k2_144, k3_144, f0_144, f1_144, f2_144, f3_144, fe_144, fo_144, tr_144, op_144, hk0_144, hk1_144, hk2_144, hk3_144, q0_144, q1_144, q2_144, q3_144, q4_144, q5_144, q6_144, q7_144, q8_144, q9_144, q10_144, q11_144, q12_144, hg_144⟩ := id (hDIs d9 (by omega))
      have c_145 : E1 (1 + d9) 0 = .inr (7, [.int (nI d9), .int fd_144, .int nm_144, .ref (ad1 (1 + d9) 1), .ref (ad1 (1 + d9) 9), .ref (ad1 (1 + d9) 10), .ref (ad1 (1 + d9) 2), .ref (ad1 (1 + d9) 11), .ref (ad1 (1 + d9) 12), .ref (ad1 (1 + d9) 3), .ref (ad1 (1 + d9) 4), .int sd_144]) := q0_144
      have m_146 : (1 + d9, 0) ∈ RL1 := hm_144 0 (by omega)
      have c_147 : E1 (1 + d9) 1 = .inr (8, [.ref (ad1 (1 + d9) 5), .int (nI k0_144)]) := q1_144
      have m_148 : (1 + d9, 1) ∈ RL1 := hm_144 1 (by omega)
      have c_149 : E1 (1 + d9) 2 = .inr (8, [.ref (ad1 (1 + d9) 6), .int (nI k1_144)]) := q2_144
      have m_150 : (1 + d9, 2) ∈ RL1 := hm_144 2 (by omega)
      have c_151 : E1 (1 + d9) 3 = .inr (8, [.ref (ad1 (1 + d9) 7), .int (nI k2_144)]) := q3_144
      have m_152 : (1 + d9, 3) ∈ RL1 := hm_144 3 (by omega)
      have c_153 : E1 (1 + d9) 4 = .inr (8, [.ref (ad1 (1 + d9) 8), .int (nI k3_144)]) := q4_144
      have m_154 : (1 + d9, 4) ∈ RL1 := hm_144 4 (by omega)
      have c_155 : E1 (1 + d9) 5 = .inl (kA 0, 6, .inl f0_144) := q5_144
      have m_156 : (1 + d9, 5) ∈ RL1 := hm_144 5 (by omega)
      have c_157 : E1 (1 + d9) 6 = .inl (kA 0, 5, .inl f1_144) := q6_144
      have m_158 : (1 + d9, 6) ∈ RL1 := hm_144 6 (by omega)
      have c_159 : E1 (1 + d9) 7 = .inl (kA 0, 3, .inl f2_144) := q7_144
      have m_160 : (1 + d9, 7) ∈ RL1 := hm_144 7 (by omega)
      have c_161 : E1 (1 + d9) 8 = .inl (kA 0, 3, .inl f3_144) := q8_144
      have m_162 : (1 + d9, 8) ∈ RL1 := hm_144 8 (by omega)
      have c_163 : E1 (1 + d9) 9 = .inl (kA 8, 6, .inr (.inr (.inr (.inr fe_144)))) := q9_144
      have m_164 : (1 + d9, 9) ∈ RL1 := hm_144 9 (by omega)
      have c_165 : E1 (1 + d9) 10 = .inl (kA 8, 6, .inr (.inr (.inr (.inr fo_144)))) := q10_144
      have m_166 : (1 + d9, 10) ∈ RL1 := hm_144 10 (by omega)
      have c_167 : E1 (1 + d9) 11 = .inl (kA 2, 5, .inl tr_144) := q11_144
      have m_168 : (1 + d9, 11) ∈ RL1 := hm_144 11 (by omega)
      have c_169 : E1 (1 + d9) 12 = .inl (kA 2, 5, .inl op_144) := q12_144
      have m_170 : (1 + d9, 12) ∈ RL1 := hm_144 12 (by omega)
      have hg_144 : ∀ w9, w9 < k0_144 → fe_144 w9 = some (ad1 (1 + d9) (20 + 3 * w9)) ∧ fo_144 w9 = some (ad1 (1 + d9) (38 + 3 * w9)) ∧ GI kA (ad1 (1 + d9)) (E1 (1 + d9)) (fun o => (1 + d9, o) ∈ RL1) (20 + 3 * w9) (21 + 3 * w9) (22 + 3 * w9) ∧ GI kA (ad1 (1 + d9)) (E1 (1 + d9)) (fun o => (1 + d9, o) ∈ RL1) (38 + 3 * w9) (39 + 3 * w9) (40 + 3 * w9) := hg_144
      obtain ⟨hTT_144, tgr_144⟩ := TD_get hk0_144 hk1_144 hk2_144 hk3_144 c_145 c_147 c_149 c_151 c_153 c_155 c_157 c_159 c_161 c_167 c_169 (hTD1 d9 (by omega))
      obtain ⟨tfd_144, tnm_144, tsd_144, tk0_144, tf0_144, tk1_144, tf1_144, tk2_144, tk3_144⟩ := id hTT_144
      have ik0_144 : iN (g 5 d9) = k0_144 := by rw [← tk0_144, iN_nI (by omega)]
      have ik1_144 : iN (g 12 d9) = k1_144 := by rw [← tk1_144, iN_nI (by omega)]
      refine lv_aload_n hx hb xd_Ch_draft_27 rfl (lv_at hl 1 rfl) ?_
      refine px_get (D := D) (ci := 5) (v := .ref (ad1 (20 + ml) 1)) (C := xR_Ly) (T := xT_Ly) (N := 4) hx hb hT xi_Ly hown hK.1 hP hmz0 hcA0 rfl 2 (by decide) (hT _ k5w_12) (fun _ h9 => h9) rfl xd_Ch_draft_28 ?_
      refine lv_iload_n hx hb xd_Ch_draft_31 rfl (lv_at hl 0 rfl) ?_
      refine px_new (ci := 6) (fs := [.null, .null, .null, .null, .null, .null]) (C := xR_Me) (T := xT_Me) (N := 6) (20 + ml) (10 + 10 * k) hx hb hT xi_Me xt_Me xt_Me_ok hown (hT _ k5w_13) (hT _ k5w_14) (hT _ k5w_15) hK.1 hP hD hS hA rfl (by decide +kernel) (show 2 + 8 * k + 1 ≤ 100 by omega) (show 16 + 32 * k + 6 ≤ 424 by omega) xd_Ch_draft_32 (fun ad171 E172 RL173 H hA1 hE1 hs1 hm1 hP hD hS => ?_)
      have fE174 : ∀ b2 o2, ¬ (b2 = 20 + ml ∧ o2 = 10 + 10 * k) → E172 b2 o2 = E1 b2 o2 := fun b2 o2 h9 => by rw [hE1]; exact up2_ne (by omega)
      have fA175 : ∀ b2 o2, ¬ (b2 = 20 + ml ∧ o2 = 10 + 10 * k) → ad171 b2 o2 = ad1 b2 o2 := fun b2 o2 h9 => by rw [hA1]; exact up2_ne (by omega)
      have hs176 := hs1
      refine W.eq (g2 := F0 m _ ls [.ref (ad171 (20 + ml) (10 + 10 * k)), .int (nI k), .ref (ad171 (20 + ml) 1)]) (by rw [fA175 (20 + ml) 1 (by omega)]) ?_
      have c_177 : E172 (20 + ml) (10 + 10 * k) = .inr (6, [.null, .null, .null, .null, .null, .null]) := by rw [hE1]; exact up2_eq
      have hl : lv_has ls 4 [(3, .int (nI k)), (2, .ref (ad171 (20 + ml) 0)), (0, .ref (ad171 0 7))] := by
        rw [fA175 (20 + ml) 0 (by omega), fA175 0 7 (by omega)]; exact hl
      have m_179 : (0, 0) ∈ RL173 := hs176 _ m_90
      have m_180 : (0, 1) ∈ RL173 := hs176 _ m_92
      have m_181 : (0, 2) ∈ RL173 := hs176 _ m_94
      have m_182 : (0, 3) ∈ RL173 := hs176 _ m_96
      have m_183 : (0, 4) ∈ RL173 := hs176 _ m_98
      have m_184 : (0, 5) ∈ RL173 := hs176 _ m_100
      have m_185 : (0, 6) ∈ RL173 := hs176 _ m_102
      have m_186 : (0, 7) ∈ RL173 := hs176 _ m_104
      have m_187 : (0, 8) ∈ RL173 := hs176 _ m_106
      have m_188 : (0, 9) ∈ RL173 := hs176 _ m_108
      have m_189 : (20 + ml, 0) ∈ RL173 := hs176 _ hmz0
      have m_190 : (20 + ml, 1) ∈ RL173 := hs176 _ hmz1
      have m_191 : (1 + d9, 0) ∈ RL173 := hs176 _ m_146
      have m_192 : (1 + d9, 1) ∈ RL173 := hs176 _ m_148
      have m_193 : (1 + d9, 2) ∈ RL173 := hs176 _ m_150
      have m_194 : (1 + d9, 3) ∈ RL173 := hs176 _ m_152
      have m_195 : (1 + d9, 4) ∈ RL173 := hs176 _ m_154
      have m_196 : (1 + d9, 5) ∈ RL173 := hs176 _ m_156
      have m_197 : (1 + d9, 6) ∈ RL173 := hs176 _ m_158
      have m_198 : (1 + d9, 7) ∈ RL173 := hs176 _ m_160
      have m_199 : (1 + d9, 8) ∈ RL173 := hs176 _ m_162
      have m_200 : (1 + d9, 9) ∈ RL173 := hs176 _ m_164
      have m_201 : (1 + d9, 10) ∈ RL173 := hs176 _ m_166
      have m_202 : (1 + d9, 11) ∈ RL173 := hs176 _ m_168
      have m_203 : (1 + d9, 12) ∈ RL173 := hs176 _ m_170
      have c_204 : E172 0 0 = .inr (0, [.ref (ad171 0 1), .ref (ad171 0 5), .ref (ad171 0 7), .ref (ad171 0 9), .int (nI ml), .int lf_1]) := by rw [fE174 0 0 (by omega), fA175 0 1 (by omega), fA175 0 5 (by omega), fA175 0 7 (by omega), fA175 0 9 (by omega)]; exact c_89
      have c_205 : E172 0 1 = .inr (1, [.ref (ad171 0 2), .ref (ad171 0 3), .ref (ad171 0 4), .int (nI len), .int (nI wn)]) := by rw [fE174 0 1 (by omega), fA175 0 2 (by omega), fA175 0 3 (by omega), fA175 0 4 (by omega)]; exact c_91
      have c_206 : E172 0 2 = .inl (kA 1, 40, .inl tx_4) := by rw [fE174 0 2 (by omega)]; exact c_93
      have c_207 : E172 0 3 = .inl (kA 0, 20, .inl fb_4) := by rw [fE174 0 3 (by omega)]; exact c_95
      have c_208 : E172 0 4 = .inl (kA 0, 20, .inl fe_4) := by rw [fE174 0 4 (by omega)]; exact c_97
      have c_209 : E172 0 5 = .inr (2, [.ref (ad171 0 6), .int (nI nd)]) := by rw [fE174 0 5 (by omega), fA175 0 6 (by omega)]; exact c_99
      have c_210 : E172 0 6 = .inl (kA 4, 12, .inr (.inr (.inr (.inr fd_13)))) := by rw [fE174 0 6 (by omega)]; exact c_101
      have c_211 : E172 0 7 = .inr (3, [.ref (ad171 0 5), .ref (ad171 0 8), .int (nI (L.length)), .int cf_18, .null]) := by rw [fE174 0 7 (by omega), fA175 0 5 (by omega), fA175 0 8 (by omega)]; exact c_103
      have c_212 : E172 0 8 = .inl (kA 4, 12, .inr (.inr (.inr (.inr fc_18)))) := by rw [fE174 0 8 (by omega)]; exact c_105
      have c_213 : E172 0 9 = .inl (kA 5, 5, .inr (.inr (.inr (.inr fl_23)))) := by rw [fE174 0 9 (by omega)]; exact c_107
      have c_214 : E172 (20 + ml) 0 = .inr (5, [.int (nI ml), pv1, .ref (ad171 (20 + ml) 1), .int 1]) := by rw [fE174 (20 + ml) 0 (by omega), fA175 (20 + ml) 1 (by omega)]; exact hcA0
      have c_215 : E172 (20 + ml) 1 = .inl (kA 6, L.length, .inr (.inr (.inr (.inr fm1)))) := by rw [fE174 (20 + ml) 1 (by omega)]; exact hcA1
      have c_216 : E172 (1 + d9) 0 = .inr (7, [.int (nI d9), .int fd_144, .int nm_144, .ref (ad171 (1 + d9) 1), .ref (ad171 (1 + d9) 9), .ref (ad171 (1 + d9) 10), .ref (ad171 (1 + d9) 2), .ref (ad171 (1 + d9) 11), .ref (ad171 (1 + d9) 12), .ref (ad171 (1 + d9) 3), .ref (ad171 (1 + d9) 4), .int sd_144]) := by rw [fE174 (1 + d9) 0 (by omega), fA175 (1 + d9) 1 (by omega), fA175 (1 + d9) 9 (by omega), fA175 (1 + d9) 10 (by omega), fA175 (1 + d9) 2 (by omega), fA175 (1 + d9) 11 (by omega), fA175 (1 + d9) 12 (by omega), fA175 (1 + d9) 3 (by omega), fA175 (1 + d9) 4 (by omega)]; exact c_145
      have c_217 : E172 (1 + d9) 1 = .inr (8, [.ref (ad171 (1 + d9) 5), .int (nI k0_144)]) := by rw [fE174 (1 + d9) 1 (by omega), fA175 (1 + d9) 5 (by omega)]; exact c_147
      have c_218 : E172 (1 + d9) 2 = .inr (8, [.ref (ad171 (1 + d9) 6), .int (nI k1_144)]) := by rw [fE174 (1 + d9) 2 (by omega), fA175 (1 + d9) 6 (by omega)]; exact c_149
      have c_219 : E172 (1 + d9) 3 = .inr (8, [.ref (ad171 (1 + d9) 7), .int (nI k2_144)]) := by rw [fE174 (1 + d9) 3 (by omega), fA175 (1 + d9) 7 (by omega)]; exact c_151
      have c_220 : E172 (1 + d9) 4 = .inr (8, [.ref (ad171 (1 + d9) 8), .int (nI k3_144)]) := by rw [fE174 (1 + d9) 4 (by omega), fA175 (1 + d9) 8 (by omega)]; exact c_153
      have c_221 : E172 (1 + d9) 5 = .inl (kA 0, 6, .inl f0_144) := by rw [fE174 (1 + d9) 5 (by omega)]; exact c_155
      have c_222 : E172 (1 + d9) 6 = .inl (kA 0, 5, .inl f1_144) := by rw [fE174 (1 + d9) 6 (by omega)]; exact c_157
      have c_223 : E172 (1 + d9) 7 = .inl (kA 0, 3, .inl f2_144) := by rw [fE174 (1 + d9) 7 (by omega)]; exact c_159
      have c_224 : E172 (1 + d9) 8 = .inl (kA 0, 3, .inl f3_144) := by rw [fE174 (1 + d9) 8 (by omega)]; exact c_161
      have c_225 : E172 (1 + d9) 9 = .inl (kA 8, 6, .inr (.inr (.inr (.inr fe_144)))) := by rw [fE174 (1 + d9) 9 (by omega)]; exact c_163
      have c_226 : E172 (1 + d9) 10 = .inl (kA 8, 6, .inr (.inr (.inr (.inr fo_144)))) := by rw [fE174 (1 + d9) 10 (by omega)]; exact c_165
      have c_227 : E172 (1 + d9) 11 = .inl (kA 2, 5, .inl tr_144) := by rw [fE174 (1 + d9) 11 (by omega)]; exact c_167
      have c_228 : E172 (1 + d9) 12 = .inl (kA 2, 5, .inl op_144) := by rw [fE174 (1 + d9) 12 (by omega)]; exact c_169
      have m_178 : (20 + ml, 10 + 10 * k) ∈ RL173 := hm1
      have hP : va_P D xcl (rp ad171 E172 RL173) H := hP
      have hD : va_D A (rp ad171 E172 RL173) := hD
      refine lv_dup hx hb xd_Ch_draft_35 rfl ?_
      refine lv_aload_n hx hb xd_Ch_draft_36 rfl (lv_at hl 1 rfl) ?_
      refine lv_aload_n hx hb xd_Ch_draft_37 rfl (lv_at hl 2 rfl) ?_
      refine px_get (D := D) (ci := 3) (v := .ref (ad171 0 8)) (C := xR_Ch) (T := xT_Ch) (N := 5) hx hb hT xi_Ch hown hK.1 hP m_186 c_211 rfl 1 (by decide) (hT _ k5w_16) (fun _ h9 => h9) rfl xd_Ch_draft_38 ?_
      refine lv_iload_n hx hb xd_Ch_draft_41 rfl (lv_at hl 0 rfl) ?_
      refine px_aald (i := k) (x := (some (ad171 (1 + d9) 0))) hx hb hK.1 hP m_187 c_212 4 rfl ((hf9.trans (by rw [fA175 (1 + d9) 0 (by omega), hfA (1 + d9) 0 (by omega)]))) (by omega) (by decide) xd_Ch_draft_42 ?_
      have hFc := px_free hD hS hA
      refine va_callv (va_runI (As := [.ref (ad171 (20 + ml) 0), .ref (ad171 (1 + d9) 0)]) (rest := [.ref (ad171 (20 + ml) (10 + 10 * k)), .int (nI k), .ref (ad171 (20 + ml) 1)]) ⟨hx, hb, hml, hown, hT⟩ (xc_Me_init l D kA H.size ad171 E172 RL173 ml k d9 fd_144 nm_144 sd_144 k1_144 m_178 c_177 m_191 c_216 m_193 c_218 (by omega) (by first | assumption | omega)) (cwI 2 hT (wT_I k5w_17) rfl rfl rfl (hT _ k5w_15) (hT _ k5w_18) (hT _ k5w_19) rfl (by decide +kernel) ⟨Nat.le_of_ble_eq_true rfl, Nat.le_of_ble_eq_true rfl⟩) (x_preS hK hP hD) rfl rfl hl.1 rfl (lv_room (Nat.le_of_ble_eq_true rfl)) xd_Ch_draft_43 ⟨(show 2 + 8 * k + 1 + 7 ≤ 100 by omega), (show 16 + 32 * k + 6 + 26 ≤ 424 by omega)⟩) hS (fun q _ h => hFc q h) hFc (fun u230 t H1 locs ht hvm hp231 hB hz1 hk1 hS => ?_)
      obtain ⟨hP1, hD1⟩ := hB
      rw [ht] at hP1
      have hD1 := hD1.weaken (fun _ _ _ h => hFc _ h)
      generalize H1 = H at hP1 hS ⊢
      have hP := hP1
      have hD := hD1
      obtain ⟨ad232, E233, RL234⟩ := u230
      obtain ⟨hp253, p_235, p_236, p_237, p_238, p_239, p_240, p_241, p_242, p_243, p_244, p_245, p_246, p_247, p_248, p_249, p_250, p_251, p_252⟩ := hp231
      have p_235 : E233 (20 + ml) (10 + 10 * k) = .inr (6, [.ref (ad232 (20 + ml) 0), .ref (ad232 (1 + d9) 0), .ref (ad232 (20 + ml) (11 + 10 * k)), .ref (ad232 (20 + ml) (12 + 10 * k)), .ref (ad232 (20 + ml) (13 + 10 * k)), .ref (ad232 (20 + ml) (14 + 10 * k))]) := p_235
      have p_236 : E233 (20 + ml) (11 + 10 * k) = .inl (kA 6, k1_144, .inr (.inr (.inr (.inr (fun _ => none))))) := p_236
      have p_237 : E233 (20 + ml) (12 + 10 * k) = .inr (10, [.ref (ad232 (20 + ml) (15 + 10 * k))]) := p_237
      have p_238 : E233 (20 + ml) (13 + 10 * k) = .inr (10, [.ref (ad232 (20 + ml) (16 + 10 * k))]) := p_238
      have p_239 : E233 (20 + ml) (14 + 10 * k) = .inr (10, [.ref (ad232 (20 + ml) (17 + 10 * k))]) := p_239
      have p_240 : E233 (20 + ml) (15 + 10 * k) = .inl (kA 0, 6, .inl (fun _ => 0)) := p_240
      have p_241 : E233 (20 + ml) (16 + 10 * k) = .inl (kA 0, 6, .inl (fun _ => 0)) := p_241
      have p_242 : E233 (20 + ml) (17 + 10 * k) = .inl (kA 0, 6, .inl (fun _ => 0)) := p_242
      have p_243 : (∀ b2 o2, ¬ (b2 = 20 + ml ∧ o2 = 10 + 10 * k) → ¬ (b2 = 20 + ml ∧ o2 = 11 + 10 * k) → ¬ (b2 = 20 + ml ∧ o2 = 12 + 10 * k) → ¬ (b2 = 20 + ml ∧ o2 = 13 + 10 * k) → ¬ (b2 = 20 + ml ∧ o2 = 14 + 10 * k) → ¬ (b2 = 20 + ml ∧ o2 = 15 + 10 * k) → ¬ (b2 = 20 + ml ∧ o2 = 16 + 10 * k) → ¬ (b2 = 20 + ml ∧ o2 = 17 + 10 * k) → E233 b2 o2 = E172 b2 o2) := p_243
      have p_244 : (∀ b2 o2, ¬ (b2 = 20 + ml ∧ o2 = 11 + 10 * k) → ¬ (b2 = 20 + ml ∧ o2 = 12 + 10 * k) → ¬ (b2 = 20 + ml ∧ o2 = 13 + 10 * k) → ¬ (b2 = 20 + ml ∧ o2 = 14 + 10 * k) → ¬ (b2 = 20 + ml ∧ o2 = 15 + 10 * k) → ¬ (b2 = 20 + ml ∧ o2 = 16 + 10 * k) → ¬ (b2 = 20 + ml ∧ o2 = 17 + 10 * k) → ad232 b2 o2 = ad171 b2 o2) := p_244
      have p_245 : (∀ x ∈ RL173, x ∈ RL234) := p_245
      have p_246 : (20 + ml, 11 + 10 * k) ∈ RL234 := p_246
      have p_247 : (20 + ml, 12 + 10 * k) ∈ RL234 := p_247
      have p_248 : (20 + ml, 13 + 10 * k) ∈ RL234 := p_248
      have p_249 : (20 + ml, 14 + 10 * k) ∈ RL234 := p_249
      have p_250 : (20 + ml, 15 + 10 * k) ∈ RL234 := p_250
      have p_251 : (20 + ml, 16 + 10 * k) ∈ RL234 := p_251
      have p_252 : (20 + ml, 17 + 10 * k) ∈ RL234 := p_252
      refine W.eq (g2 := F0 m 46 ls [.ref (ad232 (20 + ml) (10 + 10 * k)), .int (nI k), .ref (ad232 (20 + ml) 1)]) (by rw [p_244 (20 + ml) (10 + 10 * k) (by omega) (by omega) (by omega) (by omega) (by omega) (by omega) (by omega), p_244 (20 + ml) 1 (by omega) (by omega) (by omega) (by omega) (by omega) (by omega) (by omega)]) ?_
      have hl : lv_has ls 4 [(3, .int (nI k)), (2, .ref (ad232 (20 + ml) 0)), (0, .ref (ad232 0 7))] := by
        rw [p_244 (20 + ml) 0 (by omega) (by omega) (by omega) (by omega) (by omega) (by omega) (by omega), p_244 0 7 (by omega) (by omega) (by omega) (by omega) (by omega) (by omega) (by omega)]; exact hl
      have m_254 : (0, 0) ∈ RL234 := p_245 _ m_179
      have m_255 : (0, 1) ∈ RL234 := p_245 _ m_180
      have m_256 : (0, 2) ∈ RL234 := p_245 _ m_181
      have m_257 : (0, 3) ∈ RL234 := p_245 _ m_182
      have m_258 : (0, 4) ∈ RL234 := p_245 _ m_183
      have m_259 : (0, 5) ∈ RL234 := p_245 _ m_184
      have m_260 : (0, 6) ∈ RL234 := p_245 _ m_185
      have m_261 : (0, 7) ∈ RL234 := p_245 _ m_186
      have m_262 : (0, 8) ∈ RL234 := p_245 _ m_187
      have m_263 : (0, 9) ∈ RL234 := p_245 _ m_188
      have m_264 : (20 + ml, 0) ∈ RL234 := p_245 _ m_189
      have m_265 : (20 + ml, 1) ∈ RL234 := p_245 _ m_190
      have m_266 : (1 + d9, 0) ∈ RL234 := p_245 _ m_191
      have m_267 : (1 + d9, 1) ∈ RL234 := p_245 _ m_192
      have m_268 : (1 + d9, 2) ∈ RL234 := p_245 _ m_193
      have m_269 : (1 + d9, 3) ∈ RL234 := p_245 _ m_194
      have m_270 : (1 + d9, 4) ∈ RL234 := p_245 _ m_195
      have m_271 : (1 + d9, 5) ∈ RL234 := p_245 _ m_196
      have m_272 : (1 + d9, 6) ∈ RL234 := p_245 _ m_197
      have m_273 : (1 + d9, 7) ∈ RL234 := p_245 _ m_198
      have m_274 : (1 + d9, 8) ∈ RL234 := p_245 _ m_199
      have m_275 : (1 + d9, 9) ∈ RL234 := p_245 _ m_200
      have m_276 : (1 + d9, 10) ∈ RL234 := p_245 _ m_201
      have m_277 : (1 + d9, 11) ∈ RL234 := p_245 _ m_202
      have m_278 : (1 + d9, 12) ∈ RL234 := p_245 _ m_203
      have m_279 : (20 + ml, 10 + 10 * k) ∈ RL234 := p_245 _ m_178
      have c_280 : E233 0 0 = .inr (0, [.ref (ad232 0 1), .ref (ad232 0 5), .ref (ad232 0 7), .ref (ad232 0 9), .int (nI ml), .int lf_1]) := by rw [p_243 0 0 (by omega) (by omega) (by omega) (by omega) (by omega) (by omega) (by omega) (by omega), p_244 0 1 (by omega) (by omega) (by omega) (by omega) (by omega) (by omega) (by omega), p_244 0 5 (by omega) (by omega) (by omega) (by omega) (by omega) (by omega) (by omega), p_244 0 7 (by omega) (by omega) (by omega) (by omega) (by omega) (by omega) (by omega), p_244 0 9 (by omega) (by omega) (by omega) (by omega) (by omega) (by omega) (by omega)]; exact c_204
      have c_281 : E233 0 1 = .inr (1, [.ref (ad232 0 2), .ref (ad232 0 3), .ref (ad232 0 4), .int (nI len), .int (nI wn)]) := by rw [p_243 0 1 (by omega) (by omega) (by omega) (by omega) (by omega) (by omega) (by omega) (by omega), p_244 0 2 (by omega) (by omega) (by omega) (by omega) (by omega) (by omega) (by omega), p_244 0 3 (by omega) (by omega) (by omega) (by omega) (by omega) (by omega) (by omega), p_244 0 4 (by omega) (by omega) (by omega) (by omega) (by omega) (by omega) (by omega)]; exact c_205
      have c_282 : E233 0 2 = .inl (kA 1, 40, .inl tx_4) := by rw [p_243 0 2 (by omega) (by omega) (by omega) (by omega) (by omega) (by omega) (by omega) (by omega)]; exact c_206
      have c_283 : E233 0 3 = .inl (kA 0, 20, .inl fb_4) := by rw [p_243 0 3 (by omega) (by omega) (by omega) (by omega) (by omega) (by omega) (by omega) (by omega)]; exact c_207
      have c_284 : E233 0 4 = .inl (kA 0, 20, .inl fe_4) := by rw [p_243 0 4 (by omega) (by omega) (by omega) (by omega) (by omega) (by omega) (by omega) (by omega)]; exact c_208
      have c_285 : E233 0 5 = .inr (2, [.ref (ad232 0 6), .int (nI nd)]) := by rw [p_243 0 5 (by omega) (by omega) (by omega) (by omega) (by omega) (by omega) (by omega) (by omega), p_244 0 6 (by omega) (by omega) (by omega) (by omega) (by omega) (by omega) (by omega)]; exact c_209
      have c_286 : E233 0 6 = .inl (kA 4, 12, .inr (.inr (.inr (.inr fd_13)))) := by rw [p_243 0 6 (by omega) (by omega) (by omega) (by omega) (by omega) (by omega) (by omega) (by omega)]; exact c_210
      have c_287 : E233 0 7 = .inr (3, [.ref (ad232 0 5), .ref (ad232 0 8), .int (nI (L.length)), .int cf_18, .null]) := by rw [p_243 0 7 (by omega) (by omega) (by omega) (by omega) (by omega) (by omega) (by omega) (by omega), p_244 0 5 (by omega) (by omega) (by omega) (by omega) (by omega) (by omega) (by omega), p_244 0 8 (by omega) (by omega) (by omega) (by omega) (by omega) (by omega) (by omega)]; exact c_211
      have c_288 : E233 0 8 = .inl (kA 4, 12, .inr (.inr (.inr (.inr fc_18)))) := by rw [p_243 0 8 (by omega) (by omega) (by omega) (by omega) (by omega) (by omega) (by omega) (by omega)]; exact c_212
      have c_289 : E233 0 9 = .inl (kA 5, 5, .inr (.inr (.inr (.inr fl_23)))) := by rw [p_243 0 9 (by omega) (by omega) (by omega) (by omega) (by omega) (by omega) (by omega) (by omega)]; exact c_213
      have c_290 : E233 (20 + ml) 0 = .inr (5, [.int (nI ml), pv1, .ref (ad232 (20 + ml) 1), .int 1]) := by rw [p_243 (20 + ml) 0 (by omega) (by omega) (by omega) (by omega) (by omega) (by omega) (by omega) (by omega), p_244 (20 + ml) 1 (by omega) (by omega) (by omega) (by omega) (by omega) (by omega) (by omega)]; exact c_214
      have c_291 : E233 (20 + ml) 1 = .inl (kA 6, L.length, .inr (.inr (.inr (.inr fm1)))) := by rw [p_243 (20 + ml) 1 (by omega) (by omega) (by omega) (by omega) (by omega) (by omega) (by omega) (by omega)]; exact c_215
      have c_292 : E233 (1 + d9) 0 = .inr (7, [.int (nI d9), .int fd_144, .int nm_144, .ref (ad232 (1 + d9) 1), .ref (ad232 (1 + d9) 9), .ref (ad232 (1 + d9) 10), .ref (ad232 (1 + d9) 2), .ref (ad232 (1 + d9) 11), .ref (ad232 (1 + d9) 12), .ref (ad232 (1 + d9) 3), .ref (ad232 (1 + d9) 4), .int sd_144]) := by rw [p_243 (1 + d9) 0 (by omega) (by omega) (by omega) (by omega) (by omega) (by omega) (by omega) (by omega), p_244 (1 + d9) 1 (by omega) (by omega) (by omega) (by omega) (by omega) (by omega) (by omega), p_244 (1 + d9) 9 (by omega) (by omega) (by omega) (by omega) (by omega) (by omega) (by omega), p_244 (1 + d9) 10 (by omega) (by omega) (by omega) (by omega) (by omega) (by omega) (by omega), p_244 (1 + d9) 2 (by omega) (by omega) (by omega) (by omega) (by omega) (by omega) (by omega), p_244 (1 + d9) 11 (by omega) (by omega) (by omega) (by omega) (by omega) (by omega) (by omega), p_244 (1 + d9) 12 (by omega) (by omega) (by omega) (by omega) (by omega) (by omega) (by omega), p_244 (1 + d9) 3 (by omega) (by omega) (by omega) (by omega) (by omega) (by omega) (by omega), p_244 (1 + d9) 4 (by omega) (by omega) (by omega) (by omega) (by omega) (by omega) (by omega)]; exact c_216
      have c_293 : E233 (1 + d9) 1 = .inr (8, [.ref (ad232 (1 + d9) 5), .int (nI k0_144)]) := by rw [p_243 (1 + d9) 1 (by omega) (by omega) (by omega) (by omega) (by omega) (by omega) (by omega) (by omega), p_244 (1 + d9) 5 (by omega) (by omega) (by omega) (by omega) (by omega) (by omega) (by omega)]; exact c_217
      have c_294 : E233 (1 + d9) 2 = .inr (8, [.ref (ad232 (1 + d9) 6), .int (nI k1_144)]) := by rw [p_243 (1 + d9) 2 (by omega) (by omega) (by omega) (by omega) (by omega) (by omega) (by omega) (by omega), p_244 (1 + d9) 6 (by omega) (by omega) (by omega) (by omega) (by omega) (by omega) (by omega)]; exact c_218
      have c_295 : E233 (1 + d9) 3 = .inr (8, [.ref (ad232 (1 + d9) 7), .int (nI k2_144)]) := by rw [p_243 (1 + d9) 3 (by omega) (by omega) (by omega) (by omega) (by omega) (by omega) (by omega) (by omega), p_244 (1 + d9) 7 (by omega) (by omega) (by omega) (by omega) (by omega) (by omega) (by omega)]; exact c_219
      have c_296 : E233 (1 + d9) 4 = .inr (8, [.ref (ad232 (1 + d9) 8), .int (nI k3_144)]) := by rw [p_243 (1 + d9) 4 (by omega) (by omega) (by omega) (by omega) (by omega) (by omega) (by omega) (by omega), p_244 (1 + d9) 8 (by omega) (by omega) (by omega) (by omega) (by omega) (by omega) (by omega)]; exact c_220
      have c_297 : E233 (1 + d9) 5 = .inl (kA 0, 6, .inl f0_144) := by rw [p_243 (1 + d9) 5 (by omega) (by omega) (by omega) (by omega) (by omega) (by omega) (by omega) (by omega)]; exact c_221
      have c_298 : E233 (1 + d9) 6 = .inl (kA 0, 5, .inl f1_144) := by rw [p_243 (1 + d9) 6 (by omega) (by omega) (by omega) (by omega) (by omega) (by omega) (by omega) (by omega)]; exact c_222
      have c_299 : E233 (1 + d9) 7 = .inl (kA 0, 3, .inl f2_144) := by rw [p_243 (1 + d9) 7 (by omega) (by omega) (by omega) (by omega) (by omega) (by omega) (by omega) (by omega)]; exact c_223
      have c_300 : E233 (1 + d9) 8 = .inl (kA 0, 3, .inl f3_144) := by rw [p_243 (1 + d9) 8 (by omega) (by omega) (by omega) (by omega) (by omega) (by omega) (by omega) (by omega)]; exact c_224
      have c_301 : E233 (1 + d9) 9 = .inl (kA 8, 6, .inr (.inr (.inr (.inr fe_144)))) := by rw [p_243 (1 + d9) 9 (by omega) (by omega) (by omega) (by omega) (by omega) (by omega) (by omega) (by omega)]; exact c_225
      have c_302 : E233 (1 + d9) 10 = .inl (kA 8, 6, .inr (.inr (.inr (.inr fo_144)))) := by rw [p_243 (1 + d9) 10 (by omega) (by omega) (by omega) (by omega) (by omega) (by omega) (by omega) (by omega)]; exact c_226
      have c_303 : E233 (1 + d9) 11 = .inl (kA 2, 5, .inl tr_144) := by rw [p_243 (1 + d9) 11 (by omega) (by omega) (by omega) (by omega) (by omega) (by omega) (by omega) (by omega)]; exact c_227
      have c_304 : E233 (1 + d9) 12 = .inl (kA 2, 5, .inl op_144) := by rw [p_243 (1 + d9) 12 (by omega) (by omega) (by omega) (by omega) (by omega) (by omega) (by omega) (by omega)]; exact c_228
      have hP : va_P D xcl (rp ad232 E233 RL234) H := hP
      have hD : va_D A (rp ad232 E233 RL234) := hD
      refine px_aast (i := k) (r := (xR_Me, xT_Me, 6)) hx hb hK.1 hP hD hS m_265 c_291 6 rfl m_279 p_235 rfl (by omega) (by omega) xd_Ch_draft_46 (fun H locs hP hD hS => ?_)
      have hP : va_P D xcl (rp ad232 (up2 E233 (20 + ml) 1 (.inl (kA 6, L.length, .inr (.inr (.inr (.inr (va_up fm1 k (some (ad232 (20 + ml) (10 + 10 * k)))))))))) RL234) H := hP
      have hD : va_D A (rp ad232 (up2 E233 (20 + ml) 1 (.inl (kA 6, L.length, .inr (.inr (.inr (.inr (va_up fm1 k (some (ad232 (20 + ml) (10 + 10 * k)))))))))) RL234) := hD
      generalize hE306 : up2 E233 (20 + ml) 1 (.inl (kA 6, L.length, .inr (.inr (.inr (.inr (va_up fm1 k (some (ad232 (20 + ml) (10 + 10 * k))))))))) = E305 at hP hD
      have fE307 : ∀ b2 o2, ¬ (b2 = 20 + ml ∧ o2 = 1) → E305 b2 o2 = E233 b2 o2 := fun b2 o2 h9 => by rw [← hE306]; exact up2_ne (by omega)
      have c_308 : E305 (20 + ml) 1 = .inl (kA 6, L.length, .inr (.inr (.inr (.inr (va_up fm1 k (some (ad232 (20 + ml) (10 + 10 * k)))))))) := by rw [← hE306]; exact up2_eq
      have c_309 : E305 (20 + ml) (10 + 10 * k) = .inr (6, [.ref (ad232 (20 + ml) 0), .ref (ad232 (1 + d9) 0), .ref (ad232 (20 + ml) (11 + 10 * k)), .ref (ad232 (20 + ml) (12 + 10 * k)), .ref (ad232 (20 + ml) (13 + 10 * k)), .ref (ad232 (20 + ml) (14 + 10 * k))]) := (fE307 (20 + ml) (10 + 10 * k) (by omega)).trans p_235
      have c_310 : E305 (20 + ml) (11 + 10 * k) = .inl (kA 6, k1_144, .inr (.inr (.inr (.inr (fun _ => none))))) := (fE307 (20 + ml) (11 + 10 * k) (by omega)).trans p_236
      have c_311 : E305 (20 + ml) (12 + 10 * k) = .inr (10, [.ref (ad232 (20 + ml) (15 + 10 * k))]) := (fE307 (20 + ml) (12 + 10 * k) (by omega)).trans p_237
      have c_312 : E305 (20 + ml) (13 + 10 * k) = .inr (10, [.ref (ad232 (20 + ml) (16 + 10 * k))]) := (fE307 (20 + ml) (13 + 10 * k) (by omega)).trans p_238
      have c_313 : E305 (20 + ml) (14 + 10 * k) = .inr (10, [.ref (ad232 (20 + ml) (17 + 10 * k))]) := (fE307 (20 + ml) (14 + 10 * k) (by omega)).trans p_239
      have c_314 : E305 (20 + ml) (15 + 10 * k) = .inl (kA 0, 6, .inl (fun _ => 0)) := (fE307 (20 + ml) (15 + 10 * k) (by omega)).trans p_240
      have c_315 : E305 (20 + ml) (16 + 10 * k) = .inl (kA 0, 6, .inl (fun _ => 0)) := (fE307 (20 + ml) (16 + 10 * k) (by omega)).trans p_241
      have c_316 : E305 (20 + ml) (17 + 10 * k) = .inl (kA 0, 6, .inl (fun _ => 0)) := (fE307 (20 + ml) (17 + 10 * k) (by omega)).trans p_242
      have c_317 : E305 0 0 = .inr (0, [.ref (ad232 0 1), .ref (ad232 0 5), .ref (ad232 0 7), .ref (ad232 0 9), .int (nI ml), .int lf_1]) := (fE307 0 0 (by omega)).trans c_280
      have c_318 : E305 0 1 = .inr (1, [.ref (ad232 0 2), .ref (ad232 0 3), .ref (ad232 0 4), .int (nI len), .int (nI wn)]) := (fE307 0 1 (by omega)).trans c_281
      have c_319 : E305 0 2 = .inl (kA 1, 40, .inl tx_4) := (fE307 0 2 (by omega)).trans c_282
      have c_320 : E305 0 3 = .inl (kA 0, 20, .inl fb_4) := (fE307 0 3 (by omega)).trans c_283
      have c_321 : E305 0 4 = .inl (kA 0, 20, .inl fe_4) := (fE307 0 4 (by omega)).trans c_284
      have c_322 : E305 0 5 = .inr (2, [.ref (ad232 0 6), .int (nI nd)]) := (fE307 0 5 (by omega)).trans c_285
      have c_323 : E305 0 6 = .inl (kA 4, 12, .inr (.inr (.inr (.inr fd_13)))) := (fE307 0 6 (by omega)).trans c_286
      have c_324 : E305 0 7 = .inr (3, [.ref (ad232 0 5), .ref (ad232 0 8), .int (nI (L.length)), .int cf_18, .null]) := (fE307 0 7 (by omega)).trans c_287
      have c_325 : E305 0 8 = .inl (kA 4, 12, .inr (.inr (.inr (.inr fc_18)))) := (fE307 0 8 (by omega)).trans c_288
      have c_326 : E305 0 9 = .inl (kA 5, 5, .inr (.inr (.inr (.inr fl_23)))) := (fE307 0 9 (by omega)).trans c_289
      have c_327 : E305 (20 + ml) 0 = .inr (5, [.int (nI ml), pv1, .ref (ad232 (20 + ml) 1), .int 1]) := (fE307 (20 + ml) 0 (by omega)).trans c_290
      have c_328 : E305 (1 + d9) 0 = .inr (7, [.int (nI d9), .int fd_144, .int nm_144, .ref (ad232 (1 + d9) 1), .ref (ad232 (1 + d9) 9), .ref (ad232 (1 + d9) 10), .ref (ad232 (1 + d9) 2), .ref (ad232 (1 + d9) 11), .ref (ad232 (1 + d9) 12), .ref (ad232 (1 + d9) 3), .ref (ad232 (1 + d9) 4), .int sd_144]) := (fE307 (1 + d9) 0 (by omega)).trans c_292
      have c_329 : E305 (1 + d9) 1 = .inr (8, [.ref (ad232 (1 + d9) 5), .int (nI k0_144)]) := (fE307 (1 + d9) 1 (by omega)).trans c_293
      have c_330 : E305 (1 + d9) 2 = .inr (8, [.ref (ad232 (1 + d9) 6), .int (nI k1_144)]) := (fE307 (1 + d9) 2 (by omega)).trans c_294
      have c_331 : E305 (1 + d9) 3 = .inr (8, [.ref (ad232 (1 + d9) 7), .int (nI k2_144)]) := (fE307 (1 + d9) 3 (by omega)).trans c_295
      have c_332 : E305 (1 + d9) 4 = .inr (8, [.ref (ad232 (1 + d9) 8), .int (nI k3_144)]) := (fE307 (1 + d9) 4 (by omega)).trans c_296
      have c_333 : E305 (1 + d9) 5 = .inl (kA 0, 6, .inl f0_144) := (fE307 (1 + d9) 5 (by omega)).trans c_297
      have c_334 : E305 (1 + d9) 6 = .inl (kA 0, 5, .inl f1_144) := (fE307 (1 + d9) 6 (by omega)).trans c_298
      have c_335 : E305 (1 + d9) 7 = .inl (kA 0, 3, .inl f2_144) := (fE307 (1 + d9) 7 (by omega)).trans c_299
      have c_336 : E305 (1 + d9) 8 = .inl (kA 0, 3, .inl f3_144) := (fE307 (1 + d9) 8 (by omega)).trans c_300
      have c_337 : E305 (1 + d9) 9 = .inl (kA 8, 6, .inr (.inr (.inr (.inr fe_144)))) := (fE307 (1 + d9) 9 (by omega)).trans c_301
      have c_338 : E305 (1 + d9) 10 = .inl (kA 8, 6, .inr (.inr (.inr (.inr fo_144)))) := (fE307 (1 + d9) 10 (by omega)).trans c_302
      have c_339 : E305 (1 + d9) 11 = .inl (kA 2, 5, .inl tr_144) := (fE307 (1 + d9) 11 (by omega)).trans c_303
      have c_340 : E305 (1 + d9) 12 = .inl (kA 2, 5, .inl op_144) := (fE307 (1 + d9) 12 (by omega)).trans c_304
      refine lv_iinc (k := 0) (x := (nI k)) (v := (nI (k + 1))) hx hb xd_Ch_draft_47 hl rfl (xb_inc k 1) (Nat.le_of_ble_eq_true rfl) rfl (fun ls hl => ?_)
      have hl : lv_has ls 4 [(3, .int (nI (k + 1))), (2, .ref (ad232 (20 + ml) 0)), (0, .ref (ad232 0 7))] := hl
      refine lv_goto (tgt := 19) hx hb xd_Ch_draft_50 (by decide) ?_
      exact ih88 (k + 1, ad232, E305, RL234, pv1, (va_up fm1 k (some (ad232 (20 + ml) (10 + 10 * k))))) _ _ _ (show L.length - (k + 1) < L.length - k by omega) (lv_sub hl [0, 1, 2] rfl) hP hD hS ⟨(show (k + 1) ≤ L.length from by first | assumption | omega), (show (∀ b2 o2, ¬ (b2 = 20 + ml) → E305 b2 o2 = E b2 o2) from fun b2 o2 h9 => by show E305 b2 o2 = _; rw [fE307 b2 o2 (by omega), p_243 b2 o2 (by omega) (by omega) (by omega) (by omega) (by omega) (by omega) (by omega) (by omega), fE174 b2 o2 (by omega), hfE b2 o2 (by omega)]), (show (∀ b2 o2, ¬ (b2 = 20 + ml) → ad232 b2 o2 = ad b2 o2) from fun b2 o2 h9 => by show ad232 b2 o2 = _; rw [p_244 b2 o2 (by omega) (by omega) (by omega) (by omega) (by omega) (by omega) (by omega), fA175 b2 o2 (by omega), hfA b2 o2 (by omega)]), (show ∀ x ∈ RL, x ∈ RL234 from fun _ h9 => p_245 _ (hs176 _ (hfS _ h9))), (show (20 + ml, 0) ∈ RL234 from m_264), (show (20 + ml, 1) ∈ RL234 from m_265), (show pv1 = .null ∨ ∃ x, x < ml ∧ pv1 = .ref (ad232 (20 + x) 0) from by rcases hpv1 with h | ⟨x, hx9, h⟩; exact Or.inl h; exact Or.inr ⟨x, hx9, by rw [p_244 (20 + x) 0 (by omega) (by omega) (by omega) (by omega) (by omega) (by omega) (by omega), fA175 (20 + x) 0 (by omega)]; exact h⟩), (show pv1 = lyv ad232 lq from hpx.trans (lyv_same (fun x hx9 => by rw [p_244 (20 + x) 0 (by omega) (by omega) (by omega) (by omega) (by omega) (by omega) (by omega), fA175 (20 + x) 0 (by omega)])).symm), (show E305 (20 + ml) 0 = .inr (5, [.int (nI ml), pv1, .ref (ad232 (20 + ml) 1), .int 1]) from c_327), (show E305 (20 + ml) 1 = .inl (kA 6, L.length, .inr (.inr (.inr (.inr (va_up fm1 k (some (ad232 (20 + ml) (10 + 10 * k)))))))) from c_308), (show ∀ j, j < (k + 1) → (va_up fm1 k (some (ad232 (20 + ml) (10 + 10 * k)))) j = some (ad232 (20 + ml) (10 + 10 * j)) ∧ MEI kA ad232 E305 RL234 nd ml j from fun j hj => by
          by_cases q : j = k
          · subst q; exact ⟨vu_eq, ⟨(fun j9 hj9 => by
              have hj8 : j9 = 0 ∨ j9 = 1 ∨ j9 = 2 ∨ j9 = 3 ∨ j9 = 4 ∨ j9 = 5 ∨ j9 = 6 ∨ j9 = 7 := by omega
              rcases hj8 with rfl | rfl | rfl | rfl | rfl | rfl | rfl | rfl
              · exact m_279
              · exact p_246
              · exact p_247
              · exact p_248
              · exact p_249
              · exact p_250
              · exact p_251
              · exact p_252), d9, k1_144, (fun _ => none), (fun _ => 0), (fun _ => 0), (fun _ => 0), hd9, by omega, c_309, c_310, c_311, c_312, c_313, c_314, c_315, c_316⟩⟩
          · exact ⟨(vu_ne q).trans ((hMM j (by omega)).1.trans (by rw [p_244 (20 + ml) (10 + 10 * j) (by omega) (by omega) (by omega) (by omega) (by omega) (by omega) (by omega), fA175 (20 + ml) (10 + 10 * j) (by omega)])), MEI_at (fun j9 hj9 => by rw [fE307 (20 + ml) (10 + j9 + 10 * j) (by omega), p_243 (20 + ml) (10 + j9 + 10 * j) (by omega) (by omega) (by omega) (by omega) (by omega) (by omega) (by omega) (by omega), fE174 (20 + ml) (10 + j9 + 10 * j) (by omega)]) (fun j9 hj9 => by rw [p_244 (20 + ml) (10 + j9 + 10 * j) (by omega) (by omega) (by omega) (by omega) (by omega) (by omega) (by omega), fA175 (20 + ml) (10 + j9 + 10 * j) (by omega)]) (by rw [p_244 (20 + ml) 0 (by omega) (by omega) (by omega) (by omega) (by omega) (by omega) (by omega), fA175 (20 + ml) 0 (by omega)]) (fun d8 hd8 => by rw [p_244 (1 + d8) 0 (by omega) (by omega) (by omega) (by omega) (by omega) (by omega) (by omega), fA175 (1 + d8) 0 (by omega)]) (fun _ h9 => p_245 _ (hs176 _ (h9))) (hMM j (by omega)).2⟩), (show ∀ j, j < (k + 1) → DX g ad232 E305 L ml j from fun j hj => by
        by_cases q : j = k
        · rw [q]; exact ⟨by rw [c_309, ← hd9e]; rfl, by rw [c_310, ← hd9e, ← tk1_144, iN_nI (by omega)]; rfl, by rw [c_314]; rfl, by rw [c_315]; rfl, by rw [c_316]; rfl⟩
        · exact DX_at (fun j9 hj9 => by rw [fE307 (20 + ml) (10 + j9 + 10 * j) (by omega), p_243 (20 + ml) (10 + j9 + 10 * j) (by omega) (by omega) (by omega) (by omega) (by omega) (by omega) (by omega) (by omega), fE174 (20 + ml) (10 + j9 + 10 * j) (by omega)]) (by
          have q9 := hxGL.1 _ (getD_mem (L := L) (k := j) (by omega))
          rw [p_244 (1 + L.getD j 0) 0 (by omega) (by omega) (by omega) (by omega) (by omega) (by omega) (by omega), fA175 (1 + L.getD j 0) 0 (by omega)]) (hMX j (by omega)))⟩
  · have hd0 := hDIs0
    refine px_new (ci := 5) (fs := [.int 0, .null, .null, .int 0]) (C := xR_Ly) (T := xT_Ly) (N := 4) (20 + ml) 0 hx hb hT xi_Ly xt_Ly xt_Ly_ok hown (hT _ k5w_0) (hT _ k5w_1) (hT _ k5w_2) hK.1 hP hD hS hA rfl (by decide +kernel) (Nat.le_of_ble_eq_true rfl) (Nat.le_of_ble_eq_true rfl) xd_Ch_draft_0 (fun ad341 E342 RL343 H hA1 hE1 hs1 hm1 hP hD hS => ?_)
    have fE344 : ∀ b2 o2, ¬ (b2 = 20 + ml ∧ o2 = 0) → E342 b2 o2 = E b2 o2 := fun b2 o2 h9 => by rw [hE1]; exact up2_ne (by omega)
    have fA345 : ∀ b2 o2, ¬ (b2 = 20 + ml ∧ o2 = 0) → ad341 b2 o2 = ad b2 o2 := fun b2 o2 h9 => by rw [hA1]; exact up2_ne (by omega)
    have hs346 := hs1
    have c_347 : E342 (20 + ml) 0 = .inr (5, [.int 0, .null, .null, .int 0]) := by rw [hE1]; exact up2_eq
    have hl : lv_has ls 4 [(0, .ref (ad341 0 7)), (1, .int (nI ml))] := by
      rw [fA345 0 7 (by omega)]; exact hl
    have m_349 : (0, 0) ∈ RL343 := hs346 _ m_3
    have m_350 : (0, 1) ∈ RL343 := hs346 _ m_6
    have m_351 : (0, 2) ∈ RL343 := hs346 _ m_8
    have m_352 : (0, 3) ∈ RL343 := hs346 _ m_10
    have m_353 : (0, 4) ∈ RL343 := hs346 _ m_12
    have m_354 : (0, 5) ∈ RL343 := hs346 _ m_15
    have m_355 : (0, 6) ∈ RL343 := hs346 _ m_17
    have m_356 : (0, 7) ∈ RL343 := hs346 _ m_20
    have m_357 : (0, 8) ∈ RL343 := hs346 _ m_22
    have m_358 : (0, 9) ∈ RL343 := hs346 _ m_25
    have c_359 : E342 0 0 = .inr (0, [.ref (ad341 0 1), .ref (ad341 0 5), .ref (ad341 0 7), .ref (ad341 0 9), .int (nI ml), .int lf_1]) := by rw [fE344 0 0 (by omega), fA345 0 1 (by omega), fA345 0 5 (by omega), fA345 0 7 (by omega), fA345 0 9 (by omega)]; exact c_2
    have c_360 : E342 0 1 = .inr (1, [.ref (ad341 0 2), .ref (ad341 0 3), .ref (ad341 0 4), .int (nI len), .int (nI wn)]) := by rw [fE344 0 1 (by omega), fA345 0 2 (by omega), fA345 0 3 (by omega), fA345 0 4 (by omega)]; exact c_5
    have c_361 : E342 0 2 = .inl (kA 1, 40, .inl tx_4) := by rw [fE344 0 2 (by omega)]; exact c_7
    have c_362 : E342 0 3 = .inl (kA 0, 20, .inl fb_4) := by rw [fE344 0 3 (by omega)]; exact c_9
    have c_363 : E342 0 4 = .inl (kA 0, 20, .inl fe_4) := by rw [fE344 0 4 (by omega)]; exact c_11
    have c_364 : E342 0 5 = .inr (2, [.ref (ad341 0 6), .int (nI nd)]) := by rw [fE344 0 5 (by omega), fA345 0 6 (by omega)]; exact c_14
    have c_365 : E342 0 6 = .inl (kA 4, 12, .inr (.inr (.inr (.inr fd_13)))) := by rw [fE344 0 6 (by omega)]; exact c_16
    have c_366 : E342 0 7 = .inr (3, [.ref (ad341 0 5), .ref (ad341 0 8), .int (nI (L.length)), .int cf_18, .ref (ad341 (20 + xp) 0)]) := by rw [fE344 0 7 (by omega), fA345 0 5 (by omega), fA345 0 8 (by omega), fA345 (20 + xp) 0 (by omega)]; exact c_19
    have c_367 : E342 0 8 = .inl (kA 4, 12, .inr (.inr (.inr (.inr fc_18)))) := by rw [fE344 0 8 (by omega)]; exact c_21
    have c_368 : E342 0 9 = .inl (kA 5, 5, .inr (.inr (.inr (.inr fl_23)))) := by rw [fE344 0 9 (by omega)]; exact c_24
    have m_348 : (20 + ml, 0) ∈ RL343 := hm1
    have hP : va_P D xcl (rp ad341 E342 RL343) H := hP
    have hD : va_D A (rp ad341 E342 RL343) := hD
    refine lv_dup hx hb xd_Ch_draft_3 rfl ?_
    refine lv_iload_n hx hb xd_Ch_draft_4 rfl (lv_at hl 1 rfl) ?_
    refine lv_aload_n hx hb xd_Ch_draft_5 rfl (lv_at hl 0 rfl) ?_
    refine px_get (D := D) (ci := 3) (v := .ref (ad341 (20 + xp) 0)) (C := xR_Ch) (T := xT_Ch) (N := 5) hx hb hT xi_Ch hown hK.1 hP m_356 c_366 rfl 4 (by decide) (hT _ k5w_3) (fun _ h9 => h9) rfl xd_Ch_draft_6 ?_
    refine lv_aload_n hx hb xd_Ch_draft_9 rfl (lv_at hl 0 rfl) ?_
    refine px_get (D := D) (ci := 3) (v := .int (nI (L.length))) (C := xR_Ch) (T := xT_Ch) (N := 5) hx hb hT xi_Ch hown hK.1 hP m_356 c_366 rfl 2 (by decide) (hT _ k5w_4) (fun _ h9 => h9) rfl xd_Ch_draft_10 ?_
    have hFc := px_free hD hS hA
    refine va_callv (va_runI (As := [.int (nI ml), .ref (ad341 (20 + xp) 0), .int (nI (L.length))]) (rest := [.ref (ad341 (20 + ml) 0)]) ⟨hx, hb, hml, hown, hT⟩ (xc_Ly_initR l D kA H.size ad341 E342 RL343 ml (ad341 (20 + xp) 0) L.length m_348 c_347 (by first | assumption | omega)) (cwI 3 hT (wT_I k5w_5) rfl rfl rfl (hT _ k5w_2) (hT _ k5w_6) (hT _ k5w_7) rfl (by decide +kernel) ⟨Nat.le_of_ble_eq_true rfl, Nat.le_of_ble_eq_true rfl⟩) (x_preS hK hP hD) rfl rfl hl.1 rfl (lv_room (Nat.le_of_ble_eq_true rfl)) xd_Ch_draft_13 ⟨(Nat.le_of_ble_eq_true rfl), (Nat.le_of_ble_eq_true rfl)⟩) hS (fun q _ h => hFc q h) hFc (fun u370 t H1 locs ht hvm hp371 hB hz1 hk1 hS => ?_)
    obtain ⟨hP1, hD1⟩ := hB
    rw [ht] at hP1
    have hD1 := hD1.weaken (fun _ _ _ h => hFc _ h)
    generalize H1 = H at hP1 hS ⊢
    have hP := hP1
    have hD := hD1
    obtain ⟨ad372, E373, RL374⟩ := u370
    obtain ⟨hp381, p_375, p_376, p_377, p_378, p_379, p_380⟩ := hp371
    have p_375 : E373 (20 + ml) 0 = .inr (5, [.int (nI ml), .ref (ad341 (20 + xp) 0), .ref (ad372 (20 + ml) 1), .int 1]) := p_375
    have p_376 : E373 (20 + ml) 1 = .inl (kA 6, L.length, .inr (.inr (.inr (.inr (fun _ => none))))) := p_376
    have p_377 : (∀ b2 o2, ¬ (b2 = 20 + ml ∧ o2 = 0) → ¬ (b2 = 20 + ml ∧ o2 = 1) → E373 b2 o2 = E342 b2 o2) := p_377
    have p_378 : (∀ b2 o2, ¬ (b2 = 20 + ml ∧ o2 = 1) → ad372 b2 o2 = ad341 b2 o2) := p_378
    have p_379 : (∀ x ∈ RL343, x ∈ RL374) := p_379
    have p_380 : (20 + ml, 1) ∈ RL374 := p_380
    refine W.eq (g2 := F0 m 16 ls [.ref (ad372 (20 + ml) 0)]) (by rw [p_378 (20 + ml) 0 (by omega)]) ?_
    have hl : lv_has ls 4 [(0, .ref (ad372 0 7)), (1, .int (nI ml))] := by
      rw [p_378 0 7 (by omega)]; exact hl
    have m_382 : (0, 0) ∈ RL374 := p_379 _ m_349
    have m_383 : (0, 1) ∈ RL374 := p_379 _ m_350
    have m_384 : (0, 2) ∈ RL374 := p_379 _ m_351
    have m_385 : (0, 3) ∈ RL374 := p_379 _ m_352
    have m_386 : (0, 4) ∈ RL374 := p_379 _ m_353
    have m_387 : (0, 5) ∈ RL374 := p_379 _ m_354
    have m_388 : (0, 6) ∈ RL374 := p_379 _ m_355
    have m_389 : (0, 7) ∈ RL374 := p_379 _ m_356
    have m_390 : (0, 8) ∈ RL374 := p_379 _ m_357
    have m_391 : (0, 9) ∈ RL374 := p_379 _ m_358
    have m_392 : (20 + ml, 0) ∈ RL374 := p_379 _ m_348
    have c_393 : E373 0 0 = .inr (0, [.ref (ad372 0 1), .ref (ad372 0 5), .ref (ad372 0 7), .ref (ad372 0 9), .int (nI ml), .int lf_1]) := by rw [p_377 0 0 (by omega) (by omega), p_378 0 1 (by omega), p_378 0 5 (by omega), p_378 0 7 (by omega), p_378 0 9 (by omega)]; exact c_359
    have c_394 : E373 0 1 = .inr (1, [.ref (ad372 0 2), .ref (ad372 0 3), .ref (ad372 0 4), .int (nI len), .int (nI wn)]) := by rw [p_377 0 1 (by omega) (by omega), p_378 0 2 (by omega), p_378 0 3 (by omega), p_378 0 4 (by omega)]; exact c_360
    have c_395 : E373 0 2 = .inl (kA 1, 40, .inl tx_4) := by rw [p_377 0 2 (by omega) (by omega)]; exact c_361
    have c_396 : E373 0 3 = .inl (kA 0, 20, .inl fb_4) := by rw [p_377 0 3 (by omega) (by omega)]; exact c_362
    have c_397 : E373 0 4 = .inl (kA 0, 20, .inl fe_4) := by rw [p_377 0 4 (by omega) (by omega)]; exact c_363
    have c_398 : E373 0 5 = .inr (2, [.ref (ad372 0 6), .int (nI nd)]) := by rw [p_377 0 5 (by omega) (by omega), p_378 0 6 (by omega)]; exact c_364
    have c_399 : E373 0 6 = .inl (kA 4, 12, .inr (.inr (.inr (.inr fd_13)))) := by rw [p_377 0 6 (by omega) (by omega)]; exact c_365
    have c_400 : E373 0 7 = .inr (3, [.ref (ad372 0 5), .ref (ad372 0 8), .int (nI (L.length)), .int cf_18, .ref (ad372 (20 + xp) 0)]) := by rw [p_377 0 7 (by omega) (by omega), p_378 0 5 (by omega), p_378 0 8 (by omega), p_378 (20 + xp) 0 (by omega)]; exact c_366
    have c_401 : E373 0 8 = .inl (kA 4, 12, .inr (.inr (.inr (.inr fc_18)))) := by rw [p_377 0 8 (by omega) (by omega)]; exact c_367
    have c_402 : E373 0 9 = .inl (kA 5, 5, .inr (.inr (.inr (.inr fl_23)))) := by rw [p_377 0 9 (by omega) (by omega)]; exact c_368
    have hP : va_P D xcl (rp ad372 E373 RL374) H := hP
    have hD : va_D A (rp ad372 E373 RL374) := hD
    have c_403 : E373 (20 + ml) 0 = .inr (5, [.int (nI ml), .ref (ad372 (20 + xp) 0), .ref (ad372 (20 + ml) 1), .int 1]) := by rw [p_378 (20 + xp) 0 (by omega)]; exact p_375
    refine lv_astore_n hx hb xd_Ch_draft_16 rfl hl (Nat.le_of_ble_eq_true rfl) rfl (fun ls hl => ?_)
    have hl : lv_has ls 4 [(2, .ref (ad372 (20 + ml) 0)), (0, .ref (ad372 0 7)), (1, .int (nI ml))] := hl
    refine lv_iconst (v := 0) hx hb xd_Ch_draft_17 (by decide) ?_
    refine lv_istore_n hx hb xd_Ch_draft_18 rfl hl (Nat.le_of_ble_eq_true rfl) rfl (fun ls hl => ?_)
    have hl : lv_has ls 4 [(3, .int 0), (2, .ref (ad372 (20 + ml) 0)), (0, .ref (ad372 0 7)), (1, .int (nI ml))] := hl
    refine xlabC (σ := Nat × (Nat → Nat → Nat) × (Nat → Nat → va_E) × (List (Nat × Nat)) × Value × (Nat → Option Nat)) (ml := 4) 19 (fun (k, ad1, E1, RL1, pv1, fm1) => [(3, .int (nI k)), (2, .ref (ad1 (20 + ml) 0)), (0, .ref (ad1 0 7))]) (fun (k, ad1, E1, RL1, pv1, fm1) => []) (fun (k, ad1, E1, RL1, pv1, fm1) => rp ad1 E1 RL1) (fun (k, ad1, E1, RL1, pv1, fm1) => 2 + 8 * k) (fun (k, ad1, E1, RL1, pv1, fm1) => 16 + 32 * k) (fun (k, ad1, E1, RL1, pv1, fm1) => (k ≤ L.length) ∧ ((∀ b2 o2, ¬ (b2 = 20 + ml) → E1 b2 o2 = E b2 o2)) ∧ ((∀ b2 o2, ¬ (b2 = 20 + ml) → ad1 b2 o2 = ad b2 o2)) ∧ (∀ x ∈ RL, x ∈ RL1) ∧ ((20 + ml, 0) ∈ RL1) ∧ ((20 + ml, 1) ∈ RL1) ∧ (pv1 = .null ∨ ∃ x, x < ml ∧ pv1 = .ref (ad1 (20 + x) 0)) ∧ (pv1 = lyv ad1 lq) ∧ (E1 (20 + ml) 0 = .inr (5, [.int (nI ml), pv1, .ref (ad1 (20 + ml) 1), .int 1])) ∧ (E1 (20 + ml) 1 = .inl (kA 6, L.length, .inr (.inr (.inr (.inr fm1))))) ∧ (∀ j, j < k → fm1 j = some (ad1 (20 + ml) (10 + 10 * j)) ∧ MEI kA ad1 E1 RL1 nd ml j) ∧ (∀ j, j < k → DX g ad1 E1 L ml j)) (fun (k, ad1, E1, RL1, pv1, fm1) => L.length - k) ?_ (0, ad372, E373, RL374, (Value.ref (ad372 (20 + xp) 0)), (fun _ => none)) _ _ _ (lv_sub hl [0, 1, 2] rfl) hP hD hS ⟨(show 0 ≤ L.length from by first | assumption | omega), (show (∀ b2 o2, ¬ (b2 = 20 + ml) → E373 b2 o2 = E b2 o2) from fun b2 o2 h9 => by show E373 b2 o2 = _; rw [p_377 b2 o2 (by omega) (by omega), fE344 b2 o2 (by omega)]), (show (∀ b2 o2, ¬ (b2 = 20 + ml) → ad372 b2 o2 = ad b2 o2) from fun b2 o2 h9 => by show ad372 b2 o2 = _; rw [p_378 b2 o2 (by omega), fA345 b2 o2 (by omega)]), (show ∀ x ∈ RL, x ∈ RL374 from fun _ h9 => p_379 _ (hs346 _ h9)), (show (20 + ml, 0) ∈ RL374 from m_392), (show (20 + ml, 1) ∈ RL374 from p_380), (show (Value.ref (ad372 (20 + xp) 0)) = .null ∨ ∃ x, x < ml ∧ (Value.ref (ad372 (20 + xp) 0)) = .ref (ad372 (20 + x) 0) from Or.inr ⟨_, by omega, rfl⟩), (show (Value.ref (ad372 (20 + xp) 0)) = lyv ad372 lq from (lyv_s hyq).symm), (show E373 (20 + ml) 0 = .inr (5, [.int (nI ml), (Value.ref (ad372 (20 + xp) 0)), .ref (ad372 (20 + ml) 1), .int 1]) from c_403), (show E373 (20 + ml) 1 = .inl (kA 6, L.length, .inr (.inr (.inr (.inr (fun _ => none))))) from p_376), (show ∀ j, j < 0 → (fun _ => none) j = some (ad372 (20 + ml) (10 + 10 * j)) ∧ MEI kA ad372 E373 RL374 nd ml j from fun j hj => absurd hj (by omega)), (show ∀ j, j < 0 → DX g ad372 E373 L ml j from fun j hj => absurd hj (by omega))⟩
    intro n9 ih404 a9 ls H locs hμ hl hP hD hS hI
    subst hμ
    obtain ⟨k, ad1, E1, RL1, pv1, fm1⟩ := a9
    obtain ⟨hk0, hfE, hfA, hfS, hmz0, hmz1, hpv1, hpx, hcA0, hcA1, hMM, hMX⟩ := hI
    have hk0 : k ≤ L.length := hk0
    have hfE : (∀ b2 o2, ¬ (b2 = 20 + ml) → E1 b2 o2 = E b2 o2) := hfE
    have hfA : (∀ b2 o2, ¬ (b2 = 20 + ml) → ad1 b2 o2 = ad b2 o2) := hfA
    have hfS : ∀ x ∈ RL, x ∈ RL1 := hfS
    have hmz0 : (20 + ml, 0) ∈ RL1 := hmz0
    have hmz1 : (20 + ml, 1) ∈ RL1 := hmz1
    have hpv1 : pv1 = .null ∨ ∃ x, x < ml ∧ pv1 = .ref (ad1 (20 + x) 0) := hpv1
    have hpx : pv1 = lyv ad1 lq := hpx
    have hcA0 : E1 (20 + ml) 0 = .inr (5, [.int (nI ml), pv1, .ref (ad1 (20 + ml) 1), .int 1]) := hcA0
    have hcA1 : E1 (20 + ml) 1 = .inl (kA 6, L.length, .inr (.inr (.inr (.inr fm1)))) := hcA1
    have hMM : ∀ j, j < k → fm1 j = some (ad1 (20 + ml) (10 + 10 * j)) ∧ MEI kA ad1 E1 RL1 nd ml j := hMM
    have hMX : ∀ j, j < k → DX g ad1 E1 L ml j := hMX
    have hl : lv_has ls 4 [(3, .int (nI k)), (2, .ref (ad1 (20 + ml) 0)), (0, .ref (ad1 0 7))] := hl
    have hP : va_P D xcl (rp ad1 E1 RL1) H := hP
    have hD : va_D A (rp ad1 E1 RL1) := hD
    have hTD1 : TDs g E1 nd := TDs_same (fun d9 hd9 => fun2 fun o9 => hfE (1 + d9) o9 (by omega)) hTD
    have hDIs : DIs kA ad1 E1 RL1 nd := (DIs_same (fun d9 hd9 => fun2 fun o9 => by show E1 (1 + d9) o9 = _; rw [hfE (1 + d9) o9 (by omega)]) (fun d9 hd9 => fun2 fun o9 => by show ad1 (1 + d9) o9 = _; rw [hfA (1 + d9) o9 (by omega)]) (fun _ h9 => hfS _ h9) hDIs0)
    have hLIs : LIs kA ad1 E1 RL1 nd ml := (LIs_same (Nat.le_refl _) (fun n9 hn9 => fun2 fun o9 => by show E1 (20 + n9) o9 = _; rw [hfE (20 + n9) o9 (by omega)]) (fun n9 hn9 => fun2 fun o9 => by show ad1 (20 + n9) o9 = _; rw [hfA (20 + n9) o9 (by omega)]) (fun d9 hd9 => by show ad1 (1 + d9) 0 = _; rw [hfA (1 + d9) 0 (by omega)]) (fun _ h9 => hfS _ h9) hLIs0)
    have hmB : ∀ o, o < 10 → (0, o) ∈ RL1 := fun o9 h9 => hfS _ (hmB0 o9 h9)
    have c_405 : E1 0 0 = .inr (0, [.ref (ad1 0 1), .ref (ad1 0 5), .ref (ad1 0 7), .ref (ad1 0 9), .int (nI ml), .int lf_1]) := by rw [hfE 0 0 (by omega), hfA 0 1 (by omega), hfA 0 5 (by omega), hfA 0 7 (by omega), hfA 0 9 (by omega)]; exact c_2
    have m_406 : (0, 0) ∈ RL1 := hmB 0 (by omega)
    have c_407 : E1 0 1 = .inr (1, [.ref (ad1 0 2), .ref (ad1 0 3), .ref (ad1 0 4), .int (nI len), .int (nI wn)]) := by rw [hfE 0 1 (by omega), hfA 0 2 (by omega), hfA 0 3 (by omega), hfA 0 4 (by omega)]; exact c_5
    have m_408 : (0, 1) ∈ RL1 := hmB 1 (by omega)
    have c_409 : E1 0 2 = .inl (kA 1, 40, .inl tx_4) := by rw [hfE 0 2 (by omega)]; exact c_7
    have m_410 : (0, 2) ∈ RL1 := hmB 2 (by omega)
    have c_411 : E1 0 3 = .inl (kA 0, 20, .inl fb_4) := by rw [hfE 0 3 (by omega)]; exact c_9
    have m_412 : (0, 3) ∈ RL1 := hmB 3 (by omega)
    have c_413 : E1 0 4 = .inl (kA 0, 20, .inl fe_4) := by rw [hfE 0 4 (by omega)]; exact c_11
    have m_414 : (0, 4) ∈ RL1 := hmB 4 (by omega)
    have c_415 : E1 0 5 = .inr (2, [.ref (ad1 0 6), .int (nI nd)]) := by rw [hfE 0 5 (by omega), hfA 0 6 (by omega)]; exact c_14
    have m_416 : (0, 5) ∈ RL1 := hmB 5 (by omega)
    have c_417 : E1 0 6 = .inl (kA 4, 12, .inr (.inr (.inr (.inr fd_13)))) := by rw [hfE 0 6 (by omega)]; exact c_16
    have m_418 : (0, 6) ∈ RL1 := hmB 6 (by omega)
    have c_419 : E1 0 7 = .inr (3, [.ref (ad1 0 5), .ref (ad1 0 8), .int (nI (L.length)), .int cf_18, .ref (ad1 (20 + xp) 0)]) := by rw [hfE 0 7 (by omega), hfA 0 5 (by omega), hfA 0 8 (by omega), hfA (20 + xp) 0 (by omega)]; exact c_19
    have m_420 : (0, 7) ∈ RL1 := hmB 7 (by omega)
    have c_421 : E1 0 8 = .inl (kA 4, 12, .inr (.inr (.inr (.inr fc_18)))) := by rw [hfE 0 8 (by omega)]; exact c_21
    have m_422 : (0, 8) ∈ RL1 := hmB 8 (by omega)
    have c_423 : E1 0 9 = .inl (kA 5, 5, .inr (.inr (.inr (.inr fl_23)))) := by rw [hfE 0 9 (by omega)]; exact c_24
    have m_424 : (0, 9) ∈ RL1 := hmB 9 (by omega)
    refine lv_iload_n hx hb xd_Ch_draft_19 rfl (lv_at hl 0 rfl) ?_
    refine lv_aload_n hx hb xd_Ch_draft_20 rfl (lv_at hl 2 rfl) ?_
    refine px_get (D := D) (ci := 3) (v := .int (nI (L.length))) (C := xR_Ch) (T := xT_Ch) (N := 5) hx hb hT xi_Ch hown hK.1 hP m_420 c_419 rfl 2 (by decide) (hT _ k5w_4) (fun _ h9 => h9) rfl xd_Ch_draft_21 ?_
    refine xn_ge (a := k) (b := L.length) (tgt := 53) hx hb xd_Ch_draft_24 (by decide) (by omega) (by omega) (fun hc425 => ?_) (fun hc425 => ?_)
    · have hLI : LI kA ad1 E1 RL1 nd ml := ⟨hmz0, hmz1, pv1, 1, L.length, fm1, by omega, hpv1, hcA0, hcA1, fun j hj => hMM j (by omega)⟩
      have hkL : k = L.length := by omega
      have hTL1 : TLas g ad1 E1 nd ml := TLas_same (Nat.le_refl _) (fun n9 hn9 => fun2 fun o9 => hfE (20 + n9) o9 (by omega)) (fun d9 hd9 => hfA (1 + d9) 0 (by omega)) (fun n9 hn9 => hfA (20 + n9) 0 (by omega)) hTL
      have hCB1 : CBs g E1 ml := CBs_same (fun la o9 hla => hfE (20 + la) o9 (by omega)) hCB
      have hLKP : LKP g ml := LKP_L (by omega) hnd12 hLIs hTL1
      have hTLr : TLas (gDr g ml lq L) ad1 E1 nd (ml + 1) := TLas_gDn hLIs hTL1 hxGL hlqm (by rw [← hpx]; exact hcA0) hcA1 (fun j hj => hMX j (by omega))
      have hTDr : TDs (gDr g ml lq L) E1 nd := TDs_gDr hDIs hTD1
      have hCBr : CBs (gDr g ml lq L) E1 ml := CBs_VQ hLKP (VQ_gDr hLKP) hCB1
      have hinjr : ∀ a b, a < L.length → b < L.length → mdv (gDr g ml lq L) ml a = mdv (gDr g ml lq L) ml b → a = b := fun a b ha hb e => by rw [gDr_md hxGL hnd12 ha, gDr_md hxGL hnd12 hb] at e; exact getD_inj hxGL.2 ha hb e
      have hC0r : ∀ j, j < L.length → CN0 (gDr g ml lq L) E1 ml j := fun j hj => (CN0_DX hxGL hnd12 hj (hMX j (by omega))).1
      have hC7r : ∀ j, j < L.length → CN7 E1 ml j := fun j hj => (CN0_DX (g := g) (ad := ad1) (lq := lq) hxGL hnd12 hj (hMX j (by omega))).2
      have hLIs := LIs_add hLIs hLI
      refine lv_aload_n hx hb xd_Ch_draft_53 rfl (lv_at hl 1 rfl) ?_
      have hFc := px_free hD hS hA
      refine va_callv (va_runV (As := []) (rest := []) ⟨hx, hb, hml, hown, hT⟩ (xc_Ly_connectX l D kA H.size ad1 E1 RL1 (gDr g ml lq L) nd (ml + 1) ml pv1 1 L.length fm1 hmz0 hcA0 hmz1 hcA1 (by first | assumption | omega) (by first | assumption | omega) (by first | assumption | omega) (by first | assumption | omega) (by first | assumption | omega) (by first | assumption | omega) (fun j hj => hMM j (by omega)) hTDr hTLr hCBr hinjr hC0r hC7r) (cwV 0 hT (wT_V k5w_9 k5w_10 k5w_11 k5w_2 k5w_8) rfl rfl rfl (by decide +kernel) ⟨Nat.le_of_ble_eq_true rfl, Nat.le_of_ble_eq_true rfl⟩) (px_preV hK hP hD hmz0 hcA0 rfl) rfl rfl hl.1 rfl (lv_room (Nat.le_of_ble_eq_true rfl)) xd_Ch_draft_54 ⟨(show 2 + 8 * k + 2 ≤ 100 by omega), (show 16 + 32 * k + 24 ≤ 424 by omega)⟩) hS (fun q _ h => hFc q h) hFc (fun u427 t H1 locs ht hvm hp428 hB hz1 hk1 hS => ?_)
      obtain ⟨hP1, hD1⟩ := hB
      rw [ht] at hP1
      have hD1 := hD1.weaken (fun _ _ _ h => hFc _ h)
      generalize H1 = H at hP1 hS ⊢
      have hP := hP1
      have hD := hD1
      obtain ⟨ad429, E430, RL431⟩ := u427
      obtain ⟨hp437, p_432, p_433, p_434, p_435, p_436⟩ := hp428
      have p_432 : (∀ b2 o2, ¬ (b2 = 20 + ml) → E430 b2 o2 = E1 b2 o2) := p_432
      have p_433 : (∀ b2 o2, ¬ (b2 = 20 + ml ∧ o2 = 2) → ¬ (b2 = 20 + ml ∧ o2 = 3) → ad429 b2 o2 = ad1 b2 o2) := p_433
      have p_434 : (∀ x ∈ RL1, x ∈ RL431) := p_434
      have p_435 : (20 + ml, 2) ∈ RL431 := p_435
      have p_436 : (20 + ml, 3) ∈ RL431 := p_436
      have hl : lv_has ls 4 [(3, .int (nI k)), (2, .ref (ad429 (20 + ml) 0)), (0, .ref (ad429 0 7))] := by
        rw [p_433 (20 + ml) 0 (by omega) (by omega), p_433 0 7 (by omega) (by omega)]; exact hl
      have m_438 : (0, 0) ∈ RL431 := p_434 _ m_406
      have m_439 : (0, 1) ∈ RL431 := p_434 _ m_408
      have m_440 : (0, 2) ∈ RL431 := p_434 _ m_410
      have m_441 : (0, 3) ∈ RL431 := p_434 _ m_412
      have m_442 : (0, 4) ∈ RL431 := p_434 _ m_414
      have m_443 : (0, 5) ∈ RL431 := p_434 _ m_416
      have m_444 : (0, 6) ∈ RL431 := p_434 _ m_418
      have m_445 : (0, 7) ∈ RL431 := p_434 _ m_420
      have m_446 : (0, 8) ∈ RL431 := p_434 _ m_422
      have m_447 : (0, 9) ∈ RL431 := p_434 _ m_424
      have m_448 : (20 + ml, 0) ∈ RL431 := p_434 _ hmz0
      have m_449 : (20 + ml, 1) ∈ RL431 := p_434 _ hmz1
      have c_450 : E430 0 0 = .inr (0, [.ref (ad429 0 1), .ref (ad429 0 5), .ref (ad429 0 7), .ref (ad429 0 9), .int (nI ml), .int lf_1]) := by rw [p_432 0 0 (by omega), p_433 0 1 (by omega) (by omega), p_433 0 5 (by omega) (by omega), p_433 0 7 (by omega) (by omega), p_433 0 9 (by omega) (by omega)]; exact c_405
      have c_451 : E430 0 1 = .inr (1, [.ref (ad429 0 2), .ref (ad429 0 3), .ref (ad429 0 4), .int (nI len), .int (nI wn)]) := by rw [p_432 0 1 (by omega), p_433 0 2 (by omega) (by omega), p_433 0 3 (by omega) (by omega), p_433 0 4 (by omega) (by omega)]; exact c_407
      have c_452 : E430 0 2 = .inl (kA 1, 40, .inl tx_4) := by rw [p_432 0 2 (by omega)]; exact c_409
      have c_453 : E430 0 3 = .inl (kA 0, 20, .inl fb_4) := by rw [p_432 0 3 (by omega)]; exact c_411
      have c_454 : E430 0 4 = .inl (kA 0, 20, .inl fe_4) := by rw [p_432 0 4 (by omega)]; exact c_413
      have c_455 : E430 0 5 = .inr (2, [.ref (ad429 0 6), .int (nI nd)]) := by rw [p_432 0 5 (by omega), p_433 0 6 (by omega) (by omega)]; exact c_415
      have c_456 : E430 0 6 = .inl (kA 4, 12, .inr (.inr (.inr (.inr fd_13)))) := by rw [p_432 0 6 (by omega)]; exact c_417
      have c_457 : E430 0 7 = .inr (3, [.ref (ad429 0 5), .ref (ad429 0 8), .int (nI (L.length)), .int cf_18, .ref (ad429 (20 + xp) 0)]) := by rw [p_432 0 7 (by omega), p_433 0 5 (by omega) (by omega), p_433 0 8 (by omega) (by omega), p_433 (20 + xp) 0 (by omega) (by omega)]; exact c_419
      have c_458 : E430 0 8 = .inl (kA 4, 12, .inr (.inr (.inr (.inr fc_18)))) := by rw [p_432 0 8 (by omega)]; exact c_421
      have c_459 : E430 0 9 = .inl (kA 5, 5, .inr (.inr (.inr (.inr fl_23)))) := by rw [p_432 0 9 (by omega)]; exact c_423
      have hP : va_P D xcl (rp ad429 E430 RL431) H := hP
      have hD : va_D A (rp ad429 E430 RL431) := hD
      obtain ⟨⟨hDIs9, hLIs9⟩, hTL9, hCB9, hLB9, hRB9⟩ := hp437
      refine lv_aload_n hx hb xd_Ch_draft_57 rfl (lv_at hl 1 rfl) ?_
      refine W.widen (k := 100) (n := 424) (show 2 + 8 * k + 2 ≤ 100 by omega) (show 16 + 32 * k + 24 ≤ 424 by omega) ?_
      exact W.aret (v := .ref (ad429 (20 + ml) 0)) hx hb hr (Or.inl ⟨_, rfl⟩) (Or.inr ⟨_, rfl⟩) (fun t ht hW => ⟨⟨(some (ad429 (20 + ml) 0)), (ad429, E430, RL431), rfl, ⟨⟨⟨rfl, (show CI kA ad429 E430 RL431 ml nd len wn L.length from ⟨(fun o9 h9 => p_434 _ (hfS _ (hmB0 o9 h9))), ⟨lf_1, c_450⟩, ⟨tx_4, fb_4, fe_4, (by omega), (by omega), c_451, c_452, c_453, c_454, hws0⟩, ⟨fd_13, (by omega), c_455, c_456, (fun d9 hd9 => (hds0 d9 hd9).trans (by rw [p_433 (1 + d9) 0 (by omega) (by omega), hfA (1 + d9) 0 (by omega)]))⟩, ⟨cf_18, (.ref (ad429 (20 + xp) 0)), fc_18, (by omega), (Or.inr ⟨_, by omega, rfl⟩), c_457, c_458, (fun k9 hk9 => by obtain ⟨d8, q1, q2⟩ := hfc0 k9 hk9; exact ⟨d8, q1, q2.trans (by rw [p_433 (1 + d8) 0 (by omega) (by omega), hfA (1 + d8) 0 (by omega)])⟩)⟩, ⟨fl_23, (by omega), c_459, (fun n9 hn9 => (hla0 n9 hn9).trans (by rw [p_433 (20 + n9) 0 (by omega) (by omega), hfA (20 + n9) 0 (by omega)]))⟩, hDIs9, (fun n9 hn9 => hLIs9 n9 (by omega))⟩), (show LI kA ad429 E430 RL431 nd ml from hLIs9 ml (by omega))⟩, hTL9, hCB9, hLB9, hRB9⟩, (fun b2 o2 h09 => by show E430 b2 o2 = _; rw [p_432 b2 o2 (by omega), hfE b2 o2 (by omega)]), (fun b2 o2 h09 => by show ad429 b2 o2 = _; rw [p_433 b2 o2 (by omega) (by omega), hfA b2 o2 (by omega)]), (fun x9 hx9 => p_434 _ (hfS _ hx9))⟩, by rw [ht]; exact hP, hD⟩, hS.F ht⟩) hS.2.2 xd_Ch_draft_58
    · obtain ⟨d9, hd9e⟩ : ∃ z, z = L.getD k 0 := ⟨_, rfl⟩
      have hd9 : d9 < nd := by rw [hd9e]; exact hxGL.1 _ (getD_mem (by omega))
      have hf9 := hxfc k (by omega)
      rw [← hd9e] at hf9
      obtain ⟨hm_460, fd_460, nm_460, sd_460, k0_460, k1_460, k2_460, k3_460, f0_460, f1_460, f2_460, f3_460, fe_460, fo_460, tr_460, op_460, hk0_460, hk1_460, hk2_460, hk3_460, q0_460, q1_460, q2_460, q3_460, q4_460, q5_460, q6_460, q7_460, q8_460, q9_460, q10_460, q11_460, q12_460, hg_460⟩ := id (hDIs d9 (by omega))
      have c_461 : E1 (1 + d9) 0 = .inr (7, [.int (nI d9), .int fd_460, .int nm_460, .ref (ad1 (1 + d9) 1), .ref (ad1 (1 + d9) 9), .ref (ad1 (1 + d9) 10), .ref (ad1 (1 + d9) 2), .ref (ad1 (1 + d9) 11), .ref (ad1 (1 + d9) 12), .ref (ad1 (1 + d9) 3), .ref (ad1 (1 + d9) 4), .int sd_460]) := q0_460
      have m_462 : (1 + d9, 0) ∈ RL1 := hm_460 0 (by omega)
      have c_463 : E1 (1 + d9) 1 = .inr (8, [.ref (ad1 (1 + d9) 5), .int (nI k0_460)]) := q1_460
      have m_464 : (1 + d9, 1) ∈ RL1 := hm_460 1 (by omega)
      have c_465 : E1 (1 + d9) 2 = .inr (8, [.ref (ad1 (1 + d9) 6), .int (nI k1_460)]) := q2_460
      have m_466 : (1 + d9, 2) ∈ RL1 := hm_460 2 (by omega)
      have c_467 : E1 (1 + d9) 3 = .inr (8, [.ref (ad1 (1 + d9) 7), .int (nI k2_460)]) := q3_460
      have m_468 : (1 + d9, 3) ∈ RL1 := hm_460 3 (by omega)
      have c_469 : E1 (1 + d9) 4 = .inr (8, [.ref (ad1 (1 + d9) 8), .int (nI k3_460)]) := q4_460
      have m_470 : (1 + d9, 4) ∈ RL1 := hm_460 4 (by omega)
      have c_471 : E1 (1 + d9) 5 = .inl (kA 0, 6, .inl f0_460) := q5_460
      have m_472 : (1 + d9, 5) ∈ RL1 := hm_460 5 (by omega)
      have c_473 : E1 (1 + d9) 6 = .inl (kA 0, 5, .inl f1_460) := q6_460
      have m_474 : (1 + d9, 6) ∈ RL1 := hm_460 6 (by omega)
      have c_475 : E1 (1 + d9) 7 = .inl (kA 0, 3, .inl f2_460) := q7_460
      have m_476 : (1 + d9, 7) ∈ RL1 := hm_460 7 (by omega)
      have c_477 : E1 (1 + d9) 8 = .inl (kA 0, 3, .inl f3_460) := q8_460
      have m_478 : (1 + d9, 8) ∈ RL1 := hm_460 8 (by omega)
      have c_479 : E1 (1 + d9) 9 = .inl (kA 8, 6, .inr (.inr (.inr (.inr fe_460)))) := q9_460
      have m_480 : (1 + d9, 9) ∈ RL1 := hm_460 9 (by omega)
      have c_481 : E1 (1 + d9) 10 = .inl (kA 8, 6, .inr (.inr (.inr (.inr fo_460)))) := q10_460
      have m_482 : (1 + d9, 10) ∈ RL1 := hm_460 10 (by omega)
      have c_483 : E1 (1 + d9) 11 = .inl (kA 2, 5, .inl tr_460) := q11_460
      have m_484 : (1 + d9, 11) ∈ RL1 := hm_460 11 (by omega)
      have c_485 : E1 (1 + d9) 12 = .inl (kA 2, 5, .inl op_460) := q12_460
      have m_486 : (1 + d9, 12) ∈ RL1 := hm_460 12 (by omega)
      have hg_460 : ∀ w9, w9 < k0_460 → fe_460 w9 = some (ad1 (1 + d9) (20 + 3 * w9)) ∧ fo_460 w9 = some (ad1 (1 + d9) (38 + 3 * w9)) ∧ GI kA (ad1 (1 + d9)) (E1 (1 + d9)) (fun o => (1 + d9, o) ∈ RL1) (20 + 3 * w9) (21 + 3 * w9) (22 + 3 * w9) ∧ GI kA (ad1 (1 + d9)) (E1 (1 + d9)) (fun o => (1 + d9, o) ∈ RL1) (38 + 3 * w9) (39 + 3 * w9) (40 + 3 * w9) := hg_460
      obtain ⟨hTT_460, tgr_460⟩ := TD_get hk0_460 hk1_460 hk2_460 hk3_460 c_461 c_463 c_465 c_467 c_469 c_471 c_473 c_475 c_477 c_483 c_485 (hTD1 d9 (by omega))
      obtain ⟨tfd_460, tnm_460, tsd_460, tk0_460, tf0_460, tk1_460, tf1_460, tk2_460, tk3_460⟩ := id hTT_460
      have ik0_460 : iN (g 5 d9) = k0_460 := by rw [← tk0_460, iN_nI (by omega)]
      have ik1_460 : iN (g 12 d9) = k1_460 := by rw [← tk1_460, iN_nI (by omega)]
      refine lv_aload_n hx hb xd_Ch_draft_27 rfl (lv_at hl 1 rfl) ?_
      refine px_get (D := D) (ci := 5) (v := .ref (ad1 (20 + ml) 1)) (C := xR_Ly) (T := xT_Ly) (N := 4) hx hb hT xi_Ly hown hK.1 hP hmz0 hcA0 rfl 2 (by decide) (hT _ k5w_12) (fun _ h9 => h9) rfl xd_Ch_draft_28 ?_
      refine lv_iload_n hx hb xd_Ch_draft_31 rfl (lv_at hl 0 rfl) ?_
      refine px_new (ci := 6) (fs := [.null, .null, .null, .null, .null, .null]) (C := xR_Me) (T := xT_Me) (N := 6) (20 + ml) (10 + 10 * k) hx hb hT xi_Me xt_Me xt_Me_ok hown (hT _ k5w_13) (hT _ k5w_14) (hT _ k5w_15) hK.1 hP hD hS hA rfl (by decide +kernel) (show 2 + 8 * k + 1 ≤ 100 by omega) (show 16 + 32 * k + 6 ≤ 424 by omega) xd_Ch_draft_32 (fun ad487 E488 RL489 H hA1 hE1 hs1 hm1 hP hD hS => ?_)
      have fE490 : ∀ b2 o2, ¬ (b2 = 20 + ml ∧ o2 = 10 + 10 * k) → E488 b2 o2 = E1 b2 o2 := fun b2 o2 h9 => by rw [hE1]; exact up2_ne (by omega)
      have fA491 : ∀ b2 o2, ¬ (b2 = 20 + ml ∧ o2 = 10 + 10 * k) → ad487 b2 o2 = ad1 b2 o2 := fun b2 o2 h9 => by rw [hA1]; exact up2_ne (by omega)
      have hs492 := hs1
      refine W.eq (g2 := F0 m _ ls [.ref (ad487 (20 + ml) (10 + 10 * k)), .int (nI k), .ref (ad487 (20 + ml) 1)]) (by rw [fA491 (20 + ml) 1 (by omega)]) ?_
      have c_493 : E488 (20 + ml) (10 + 10 * k) = .inr (6, [.null, .null, .null, .null, .null, .null]) := by rw [hE1]; exact up2_eq
      have hl : lv_has ls 4 [(3, .int (nI k)), (2, .ref (ad487 (20 + ml) 0)), (0, .ref (ad487 0 7))] := by
        rw [fA491 (20 + ml) 0 (by omega), fA491 0 7 (by omega)]; exact hl
      have m_495 : (0, 0) ∈ RL489 := hs492 _ m_406
      have m_496 : (0, 1) ∈ RL489 := hs492 _ m_408
      have m_497 : (0, 2) ∈ RL489 := hs492 _ m_410
      have m_498 : (0, 3) ∈ RL489 := hs492 _ m_412
      have m_499 : (0, 4) ∈ RL489 := hs492 _ m_414
      have m_500 : (0, 5) ∈ RL489 := hs492 _ m_416
      have m_501 : (0, 6) ∈ RL489 := hs492 _ m_418
      have m_502 : (0, 7) ∈ RL489 := hs492 _ m_420
      have m_503 : (0, 8) ∈ RL489 := hs492 _ m_422
      have m_504 : (0, 9) ∈ RL489 := hs492 _ m_424
      have m_505 : (20 + ml, 0) ∈ RL489 := hs492 _ hmz0
      have m_506 : (20 + ml, 1) ∈ RL489 := hs492 _ hmz1
      have m_507 : (1 + d9, 0) ∈ RL489 := hs492 _ m_462
      have m_508 : (1 + d9, 1) ∈ RL489 := hs492 _ m_464
      have m_509 : (1 + d9, 2) ∈ RL489 := hs492 _ m_466
      have m_510 : (1 + d9, 3) ∈ RL489 := hs492 _ m_468
      have m_511 : (1 + d9, 4) ∈ RL489 := hs492 _ m_470
      have m_512 : (1 + d9, 5) ∈ RL489 := hs492 _ m_472
      have m_513 : (1 + d9, 6) ∈ RL489 := hs492 _ m_474
      have m_514 : (1 + d9, 7) ∈ RL489 := hs492 _ m_476
      have m_515 : (1 + d9, 8) ∈ RL489 := hs492 _ m_478
      have m_516 : (1 + d9, 9) ∈ RL489 := hs492 _ m_480
      have m_517 : (1 + d9, 10) ∈ RL489 := hs492 _ m_482
      have m_518 : (1 + d9, 11) ∈ RL489 := hs492 _ m_484
      have m_519 : (1 + d9, 12) ∈ RL489 := hs492 _ m_486
      have c_520 : E488 0 0 = .inr (0, [.ref (ad487 0 1), .ref (ad487 0 5), .ref (ad487 0 7), .ref (ad487 0 9), .int (nI ml), .int lf_1]) := by rw [fE490 0 0 (by omega), fA491 0 1 (by omega), fA491 0 5 (by omega), fA491 0 7 (by omega), fA491 0 9 (by omega)]; exact c_405
      have c_521 : E488 0 1 = .inr (1, [.ref (ad487 0 2), .ref (ad487 0 3), .ref (ad487 0 4), .int (nI len), .int (nI wn)]) := by rw [fE490 0 1 (by omega), fA491 0 2 (by omega), fA491 0 3 (by omega), fA491 0 4 (by omega)]; exact c_407
      have c_522 : E488 0 2 = .inl (kA 1, 40, .inl tx_4) := by rw [fE490 0 2 (by omega)]; exact c_409
      have c_523 : E488 0 3 = .inl (kA 0, 20, .inl fb_4) := by rw [fE490 0 3 (by omega)]; exact c_411
      have c_524 : E488 0 4 = .inl (kA 0, 20, .inl fe_4) := by rw [fE490 0 4 (by omega)]; exact c_413
      have c_525 : E488 0 5 = .inr (2, [.ref (ad487 0 6), .int (nI nd)]) := by rw [fE490 0 5 (by omega), fA491 0 6 (by omega)]; exact c_415
      have c_526 : E488 0 6 = .inl (kA 4, 12, .inr (.inr (.inr (.inr fd_13)))) := by rw [fE490 0 6 (by omega)]; exact c_417
      have c_527 : E488 0 7 = .inr (3, [.ref (ad487 0 5), .ref (ad487 0 8), .int (nI (L.length)), .int cf_18, .ref (ad487 (20 + xp) 0)]) := by rw [fE490 0 7 (by omega), fA491 0 5 (by omega), fA491 0 8 (by omega), fA491 (20 + xp) 0 (by omega)]; exact c_419
      have c_528 : E488 0 8 = .inl (kA 4, 12, .inr (.inr (.inr (.inr fc_18)))) := by rw [fE490 0 8 (by omega)]; exact c_421
      have c_529 : E488 0 9 = .inl (kA 5, 5, .inr (.inr (.inr (.inr fl_23)))) := by rw [fE490 0 9 (by omega)]; exact c_423
      have c_530 : E488 (20 + ml) 0 = .inr (5, [.int (nI ml), pv1, .ref (ad487 (20 + ml) 1), .int 1]) := by rw [fE490 (20 + ml) 0 (by omega), fA491 (20 + ml) 1 (by omega)]; exact hcA0
      have c_531 : E488 (20 + ml) 1 = .inl (kA 6, L.length, .inr (.inr (.inr (.inr fm1)))) := by rw [fE490 (20 + ml) 1 (by omega)]; exact hcA1
      have c_532 : E488 (1 + d9) 0 = .inr (7, [.int (nI d9), .int fd_460, .int nm_460, .ref (ad487 (1 + d9) 1), .ref (ad487 (1 + d9) 9), .ref (ad487 (1 + d9) 10), .ref (ad487 (1 + d9) 2), .ref (ad487 (1 + d9) 11), .ref (ad487 (1 + d9) 12), .ref (ad487 (1 + d9) 3), .ref (ad487 (1 + d9) 4), .int sd_460]) := by rw [fE490 (1 + d9) 0 (by omega), fA491 (1 + d9) 1 (by omega), fA491 (1 + d9) 9 (by omega), fA491 (1 + d9) 10 (by omega), fA491 (1 + d9) 2 (by omega), fA491 (1 + d9) 11 (by omega), fA491 (1 + d9) 12 (by omega), fA491 (1 + d9) 3 (by omega), fA491 (1 + d9) 4 (by omega)]; exact c_461
      have c_533 : E488 (1 + d9) 1 = .inr (8, [.ref (ad487 (1 + d9) 5), .int (nI k0_460)]) := by rw [fE490 (1 + d9) 1 (by omega), fA491 (1 + d9) 5 (by omega)]; exact c_463
      have c_534 : E488 (1 + d9) 2 = .inr (8, [.ref (ad487 (1 + d9) 6), .int (nI k1_460)]) := by rw [fE490 (1 + d9) 2 (by omega), fA491 (1 + d9) 6 (by omega)]; exact c_465
      have c_535 : E488 (1 + d9) 3 = .inr (8, [.ref (ad487 (1 + d9) 7), .int (nI k2_460)]) := by rw [fE490 (1 + d9) 3 (by omega), fA491 (1 + d9) 7 (by omega)]; exact c_467
      have c_536 : E488 (1 + d9) 4 = .inr (8, [.ref (ad487 (1 + d9) 8), .int (nI k3_460)]) := by rw [fE490 (1 + d9) 4 (by omega), fA491 (1 + d9) 8 (by omega)]; exact c_469
      have c_537 : E488 (1 + d9) 5 = .inl (kA 0, 6, .inl f0_460) := by rw [fE490 (1 + d9) 5 (by omega)]; exact c_471
      have c_538 : E488 (1 + d9) 6 = .inl (kA 0, 5, .inl f1_460) := by rw [fE490 (1 + d9) 6 (by omega)]; exact c_473
      have c_539 : E488 (1 + d9) 7 = .inl (kA 0, 3, .inl f2_460) := by rw [fE490 (1 + d9) 7 (by omega)]; exact c_475
      have c_540 : E488 (1 + d9) 8 = .inl (kA 0, 3, .inl f3_460) := by rw [fE490 (1 + d9) 8 (by omega)]; exact c_477
      have c_541 : E488 (1 + d9) 9 = .inl (kA 8, 6, .inr (.inr (.inr (.inr fe_460)))) := by rw [fE490 (1 + d9) 9 (by omega)]; exact c_479
      have c_542 : E488 (1 + d9) 10 = .inl (kA 8, 6, .inr (.inr (.inr (.inr fo_460)))) := by rw [fE490 (1 + d9) 10 (by omega)]; exact c_481
      have c_543 : E488 (1 + d9) 11 = .inl (kA 2, 5, .inl tr_460) := by rw [fE490 (1 + d9) 11 (by omega)]; exact c_483
      have c_544 : E488 (1 + d9) 12 = .inl (kA 2, 5, .inl op_460) := by rw [fE490 (1 + d9) 12 (by omega)]; exact c_485
      have m_494 : (20 + ml, 10 + 10 * k) ∈ RL489 := hm1
      have hP : va_P D xcl (rp ad487 E488 RL489) H := hP
      have hD : va_D A (rp ad487 E488 RL489) := hD
      refine lv_dup hx hb xd_Ch_draft_35 rfl ?_
      refine lv_aload_n hx hb xd_Ch_draft_36 rfl (lv_at hl 1 rfl) ?_
      refine lv_aload_n hx hb xd_Ch_draft_37 rfl (lv_at hl 2 rfl) ?_
      refine px_get (D := D) (ci := 3) (v := .ref (ad487 0 8)) (C := xR_Ch) (T := xT_Ch) (N := 5) hx hb hT xi_Ch hown hK.1 hP m_502 c_527 rfl 1 (by decide) (hT _ k5w_16) (fun _ h9 => h9) rfl xd_Ch_draft_38 ?_
      refine lv_iload_n hx hb xd_Ch_draft_41 rfl (lv_at hl 0 rfl) ?_
      refine px_aald (i := k) (x := (some (ad487 (1 + d9) 0))) hx hb hK.1 hP m_503 c_528 4 rfl ((hf9.trans (by rw [fA491 (1 + d9) 0 (by omega), hfA (1 + d9) 0 (by omega)]))) (by omega) (by decide) xd_Ch_draft_42 ?_
      have hFc := px_free hD hS hA
      refine va_callv (va_runI (As := [.ref (ad487 (20 + ml) 0), .ref (ad487 (1 + d9) 0)]) (rest := [.ref (ad487 (20 + ml) (10 + 10 * k)), .int (nI k), .ref (ad487 (20 + ml) 1)]) ⟨hx, hb, hml, hown, hT⟩ (xc_Me_init l D kA H.size ad487 E488 RL489 ml k d9 fd_460 nm_460 sd_460 k1_460 m_494 c_493 m_507 c_532 m_509 c_534 (by omega) (by first | assumption | omega)) (cwI 2 hT (wT_I k5w_17) rfl rfl rfl (hT _ k5w_15) (hT _ k5w_18) (hT _ k5w_19) rfl (by decide +kernel) ⟨Nat.le_of_ble_eq_true rfl, Nat.le_of_ble_eq_true rfl⟩) (x_preS hK hP hD) rfl rfl hl.1 rfl (lv_room (Nat.le_of_ble_eq_true rfl)) xd_Ch_draft_43 ⟨(show 2 + 8 * k + 1 + 7 ≤ 100 by omega), (show 16 + 32 * k + 6 + 26 ≤ 424 by omega)⟩) hS (fun q _ h => hFc q h) hFc (fun u546 t H1 locs ht hvm hp547 hB hz1 hk1 hS => ?_)
      obtain ⟨hP1, hD1⟩ := hB
      rw [ht] at hP1
      have hD1 := hD1.weaken (fun _ _ _ h => hFc _ h)
      generalize H1 = H at hP1 hS ⊢
      have hP := hP1
      have hD := hD1
      obtain ⟨ad548, E549, RL550⟩ := u546
      obtain ⟨hp569, p_551, p_552, p_553, p_554, p_555, p_556, p_557, p_558, p_559, p_560, p_561, p_562, p_563, p_564, p_565, p_566, p_567, p_568⟩ := hp547
      have p_551 : E549 (20 + ml) (10 + 10 * k) = .inr (6, [.ref (ad548 (20 + ml) 0), .ref (ad548 (1 + d9) 0), .ref (ad548 (20 + ml) (11 + 10 * k)), .ref (ad548 (20 + ml) (12 + 10 * k)), .ref (ad548 (20 + ml) (13 + 10 * k)), .ref (ad548 (20 + ml) (14 + 10 * k))]) := p_551
      have p_552 : E549 (20 + ml) (11 + 10 * k) = .inl (kA 6, k1_460, .inr (.inr (.inr (.inr (fun _ => none))))) := p_552
      have p_553 : E549 (20 + ml) (12 + 10 * k) = .inr (10, [.ref (ad548 (20 + ml) (15 + 10 * k))]) := p_553
      have p_554 : E549 (20 + ml) (13 + 10 * k) = .inr (10, [.ref (ad548 (20 + ml) (16 + 10 * k))]) := p_554
      have p_555 : E549 (20 + ml) (14 + 10 * k) = .inr (10, [.ref (ad548 (20 + ml) (17 + 10 * k))]) := p_555
      have p_556 : E549 (20 + ml) (15 + 10 * k) = .inl (kA 0, 6, .inl (fun _ => 0)) := p_556
      have p_557 : E549 (20 + ml) (16 + 10 * k) = .inl (kA 0, 6, .inl (fun _ => 0)) := p_557
      have p_558 : E549 (20 + ml) (17 + 10 * k) = .inl (kA 0, 6, .inl (fun _ => 0)) := p_558
      have p_559 : (∀ b2 o2, ¬ (b2 = 20 + ml ∧ o2 = 10 + 10 * k) → ¬ (b2 = 20 + ml ∧ o2 = 11 + 10 * k) → ¬ (b2 = 20 + ml ∧ o2 = 12 + 10 * k) → ¬ (b2 = 20 + ml ∧ o2 = 13 + 10 * k) → ¬ (b2 = 20 + ml ∧ o2 = 14 + 10 * k) → ¬ (b2 = 20 + ml ∧ o2 = 15 + 10 * k) → ¬ (b2 = 20 + ml ∧ o2 = 16 + 10 * k) → ¬ (b2 = 20 + ml ∧ o2 = 17 + 10 * k) → E549 b2 o2 = E488 b2 o2) := p_559
      have p_560 : (∀ b2 o2, ¬ (b2 = 20 + ml ∧ o2 = 11 + 10 * k) → ¬ (b2 = 20 + ml ∧ o2 = 12 + 10 * k) → ¬ (b2 = 20 + ml ∧ o2 = 13 + 10 * k) → ¬ (b2 = 20 + ml ∧ o2 = 14 + 10 * k) → ¬ (b2 = 20 + ml ∧ o2 = 15 + 10 * k) → ¬ (b2 = 20 + ml ∧ o2 = 16 + 10 * k) → ¬ (b2 = 20 + ml ∧ o2 = 17 + 10 * k) → ad548 b2 o2 = ad487 b2 o2) := p_560
      have p_561 : (∀ x ∈ RL489, x ∈ RL550) := p_561
      have p_562 : (20 + ml, 11 + 10 * k) ∈ RL550 := p_562
      have p_563 : (20 + ml, 12 + 10 * k) ∈ RL550 := p_563
      have p_564 : (20 + ml, 13 + 10 * k) ∈ RL550 := p_564
      have p_565 : (20 + ml, 14 + 10 * k) ∈ RL550 := p_565
      have p_566 : (20 + ml, 15 + 10 * k) ∈ RL550 := p_566
      have p_567 : (20 + ml, 16 + 10 * k) ∈ RL550 := p_567
      have p_568 : (20 + ml, 17 + 10 * k) ∈ RL550 := p_568
      refine W.eq (g2 := F0 m 46 ls [.ref (ad548 (20 + ml) (10 + 10 * k)), .int (nI k), .ref (ad548 (20 + ml) 1)]) (by rw [p_560 (20 + ml) (10 + 10 * k) (by omega) (by omega) (by omega) (by omega) (by omega) (by omega) (by omega), p_560 (20 + ml) 1 (by omega) (by omega) (by omega) (by omega) (by omega) (by omega) (by omega)]) ?_
      have hl : lv_has ls 4 [(3, .int (nI k)), (2, .ref (ad548 (20 + ml) 0)), (0, .ref (ad548 0 7))] := by
        rw [p_560 (20 + ml) 0 (by omega) (by omega) (by omega) (by omega) (by omega) (by omega) (by omega), p_560 0 7 (by omega) (by omega) (by omega) (by omega) (by omega) (by omega) (by omega)]; exact hl
      have m_570 : (0, 0) ∈ RL550 := p_561 _ m_495
      have m_571 : (0, 1) ∈ RL550 := p_561 _ m_496
      have m_572 : (0, 2) ∈ RL550 := p_561 _ m_497
      have m_573 : (0, 3) ∈ RL550 := p_561 _ m_498
      have m_574 : (0, 4) ∈ RL550 := p_561 _ m_499
      have m_575 : (0, 5) ∈ RL550 := p_561 _ m_500
      have m_576 : (0, 6) ∈ RL550 := p_561 _ m_501
      have m_577 : (0, 7) ∈ RL550 := p_561 _ m_502
      have m_578 : (0, 8) ∈ RL550 := p_561 _ m_503
      have m_579 : (0, 9) ∈ RL550 := p_561 _ m_504
      have m_580 : (20 + ml, 0) ∈ RL550 := p_561 _ m_505
      have m_581 : (20 + ml, 1) ∈ RL550 := p_561 _ m_506
      have m_582 : (1 + d9, 0) ∈ RL550 := p_561 _ m_507
      have m_583 : (1 + d9, 1) ∈ RL550 := p_561 _ m_508
      have m_584 : (1 + d9, 2) ∈ RL550 := p_561 _ m_509
      have m_585 : (1 + d9, 3) ∈ RL550 := p_561 _ m_510
      have m_586 : (1 + d9, 4) ∈ RL550 := p_561 _ m_511
      have m_587 : (1 + d9, 5) ∈ RL550 := p_561 _ m_512
      have m_588 : (1 + d9, 6) ∈ RL550 := p_561 _ m_513
      have m_589 : (1 + d9, 7) ∈ RL550 := p_561 _ m_514
      have m_590 : (1 + d9, 8) ∈ RL550 := p_561 _ m_515
      have m_591 : (1 + d9, 9) ∈ RL550 := p_561 _ m_516
      have m_592 : (1 + d9, 10) ∈ RL550 := p_561 _ m_517
      have m_593 : (1 + d9, 11) ∈ RL550 := p_561 _ m_518
      have m_594 : (1 + d9, 12) ∈ RL550 := p_561 _ m_519
      have m_595 : (20 + ml, 10 + 10 * k) ∈ RL550 := p_561 _ m_494
      have c_596 : E549 0 0 = .inr (0, [.ref (ad548 0 1), .ref (ad548 0 5), .ref (ad548 0 7), .ref (ad548 0 9), .int (nI ml), .int lf_1]) := by rw [p_559 0 0 (by omega) (by omega) (by omega) (by omega) (by omega) (by omega) (by omega) (by omega), p_560 0 1 (by omega) (by omega) (by omega) (by omega) (by omega) (by omega) (by omega), p_560 0 5 (by omega) (by omega) (by omega) (by omega) (by omega) (by omega) (by omega), p_560 0 7 (by omega) (by omega) (by omega) (by omega) (by omega) (by omega) (by omega), p_560 0 9 (by omega) (by omega) (by omega) (by omega) (by omega) (by omega) (by omega)]; exact c_520
      have c_597 : E549 0 1 = .inr (1, [.ref (ad548 0 2), .ref (ad548 0 3), .ref (ad548 0 4), .int (nI len), .int (nI wn)]) := by rw [p_559 0 1 (by omega) (by omega) (by omega) (by omega) (by omega) (by omega) (by omega) (by omega), p_560 0 2 (by omega) (by omega) (by omega) (by omega) (by omega) (by omega) (by omega), p_560 0 3 (by omega) (by omega) (by omega) (by omega) (by omega) (by omega) (by omega), p_560 0 4 (by omega) (by omega) (by omega) (by omega) (by omega) (by omega) (by omega)]; exact c_521
      have c_598 : E549 0 2 = .inl (kA 1, 40, .inl tx_4) := by rw [p_559 0 2 (by omega) (by omega) (by omega) (by omega) (by omega) (by omega) (by omega) (by omega)]; exact c_522
      have c_599 : E549 0 3 = .inl (kA 0, 20, .inl fb_4) := by rw [p_559 0 3 (by omega) (by omega) (by omega) (by omega) (by omega) (by omega) (by omega) (by omega)]; exact c_523
      have c_600 : E549 0 4 = .inl (kA 0, 20, .inl fe_4) := by rw [p_559 0 4 (by omega) (by omega) (by omega) (by omega) (by omega) (by omega) (by omega) (by omega)]; exact c_524
      have c_601 : E549 0 5 = .inr (2, [.ref (ad548 0 6), .int (nI nd)]) := by rw [p_559 0 5 (by omega) (by omega) (by omega) (by omega) (by omega) (by omega) (by omega) (by omega), p_560 0 6 (by omega) (by omega) (by omega) (by omega) (by omega) (by omega) (by omega)]; exact c_525
      have c_602 : E549 0 6 = .inl (kA 4, 12, .inr (.inr (.inr (.inr fd_13)))) := by rw [p_559 0 6 (by omega) (by omega) (by omega) (by omega) (by omega) (by omega) (by omega) (by omega)]; exact c_526
      have c_603 : E549 0 7 = .inr (3, [.ref (ad548 0 5), .ref (ad548 0 8), .int (nI (L.length)), .int cf_18, .ref (ad548 (20 + xp) 0)]) := by rw [p_559 0 7 (by omega) (by omega) (by omega) (by omega) (by omega) (by omega) (by omega) (by omega), p_560 0 5 (by omega) (by omega) (by omega) (by omega) (by omega) (by omega) (by omega), p_560 0 8 (by omega) (by omega) (by omega) (by omega) (by omega) (by omega) (by omega), p_560 (20 + xp) 0 (by omega) (by omega) (by omega) (by omega) (by omega) (by omega) (by omega)]; exact c_527
      have c_604 : E549 0 8 = .inl (kA 4, 12, .inr (.inr (.inr (.inr fc_18)))) := by rw [p_559 0 8 (by omega) (by omega) (by omega) (by omega) (by omega) (by omega) (by omega) (by omega)]; exact c_528
      have c_605 : E549 0 9 = .inl (kA 5, 5, .inr (.inr (.inr (.inr fl_23)))) := by rw [p_559 0 9 (by omega) (by omega) (by omega) (by omega) (by omega) (by omega) (by omega) (by omega)]; exact c_529
      have c_606 : E549 (20 + ml) 0 = .inr (5, [.int (nI ml), pv1, .ref (ad548 (20 + ml) 1), .int 1]) := by rw [p_559 (20 + ml) 0 (by omega) (by omega) (by omega) (by omega) (by omega) (by omega) (by omega) (by omega), p_560 (20 + ml) 1 (by omega) (by omega) (by omega) (by omega) (by omega) (by omega) (by omega)]; exact c_530
      have c_607 : E549 (20 + ml) 1 = .inl (kA 6, L.length, .inr (.inr (.inr (.inr fm1)))) := by rw [p_559 (20 + ml) 1 (by omega) (by omega) (by omega) (by omega) (by omega) (by omega) (by omega) (by omega)]; exact c_531
      have c_608 : E549 (1 + d9) 0 = .inr (7, [.int (nI d9), .int fd_460, .int nm_460, .ref (ad548 (1 + d9) 1), .ref (ad548 (1 + d9) 9), .ref (ad548 (1 + d9) 10), .ref (ad548 (1 + d9) 2), .ref (ad548 (1 + d9) 11), .ref (ad548 (1 + d9) 12), .ref (ad548 (1 + d9) 3), .ref (ad548 (1 + d9) 4), .int sd_460]) := by rw [p_559 (1 + d9) 0 (by omega) (by omega) (by omega) (by omega) (by omega) (by omega) (by omega) (by omega), p_560 (1 + d9) 1 (by omega) (by omega) (by omega) (by omega) (by omega) (by omega) (by omega), p_560 (1 + d9) 9 (by omega) (by omega) (by omega) (by omega) (by omega) (by omega) (by omega), p_560 (1 + d9) 10 (by omega) (by omega) (by omega) (by omega) (by omega) (by omega) (by omega), p_560 (1 + d9) 2 (by omega) (by omega) (by omega) (by omega) (by omega) (by omega) (by omega), p_560 (1 + d9) 11 (by omega) (by omega) (by omega) (by omega) (by omega) (by omega) (by omega), p_560 (1 + d9) 12 (by omega) (by omega) (by omega) (by omega) (by omega) (by omega) (by omega), p_560 (1 + d9) 3 (by omega) (by omega) (by omega) (by omega) (by omega) (by omega) (by omega), p_560 (1 + d9) 4 (by omega) (by omega) (by omega) (by omega) (by omega) (by omega) (by omega)]; exact c_532
      have c_609 : E549 (1 + d9) 1 = .inr (8, [.ref (ad548 (1 + d9) 5), .int (nI k0_460)]) := by rw [p_559 (1 + d9) 1 (by omega) (by omega) (by omega) (by omega) (by omega) (by omega) (by omega) (by omega), p_560 (1 + d9) 5 (by omega) (by omega) (by omega) (by omega) (by omega) (by omega) (by omega)]; exact c_533
      have c_610 : E549 (1 + d9) 2 = .inr (8, [.ref (ad548 (1 + d9) 6), .int (nI k1_460)]) := by rw [p_559 (1 + d9) 2 (by omega) (by omega) (by omega) (by omega) (by omega) (by omega) (by omega) (by omega), p_560 (1 + d9) 6 (by omega) (by omega) (by omega) (by omega) (by omega) (by omega) (by omega)]; exact c_534
      have c_611 : E549 (1 + d9) 3 = .inr (8, [.ref (ad548 (1 + d9) 7), .int (nI k2_460)]) := by rw [p_559 (1 + d9) 3 (by omega) (by omega) (by omega) (by omega) (by omega) (by omega) (by omega) (by omega), p_560 (1 + d9) 7 (by omega) (by omega) (by omega) (by omega) (by omega) (by omega) (by omega)]; exact c_535
      have c_612 : E549 (1 + d9) 4 = .inr (8, [.ref (ad548 (1 + d9) 8), .int (nI k3_460)]) := by rw [p_559 (1 + d9) 4 (by omega) (by omega) (by omega) (by omega) (by omega) (by omega) (by omega) (by omega), p_560 (1 + d9) 8 (by omega) (by omega) (by omega) (by omega) (by omega) (by omega) (by omega)]; exact c_536
      have c_613 : E549 (1 + d9) 5 = .inl (kA 0, 6, .inl f0_460) := by rw [p_559 (1 + d9) 5 (by omega) (by omega) (by omega) (by omega) (by omega) (by omega) (by omega) (by omega)]; exact c_537
      have c_614 : E549 (1 + d9) 6 = .inl (kA 0, 5, .inl f1_460) := by rw [p_559 (1 + d9) 6 (by omega) (by omega) (by omega) (by omega) (by omega) (by omega) (by omega) (by omega)]; exact c_538
      have c_615 : E549 (1 + d9) 7 = .inl (kA 0, 3, .inl f2_460) := by rw [p_559 (1 + d9) 7 (by omega) (by omega) (by omega) (by omega) (by omega) (by omega) (by omega) (by omega)]; exact c_539
      have c_616 : E549 (1 + d9) 8 = .inl (kA 0, 3, .inl f3_460) := by rw [p_559 (1 + d9) 8 (by omega) (by omega) (by omega) (by omega) (by omega) (by omega) (by omega) (by omega)]; exact c_540
      have c_617 : E549 (1 + d9) 9 = .inl (kA 8, 6, .inr (.inr (.inr (.inr fe_460)))) := by rw [p_559 (1 + d9) 9 (by omega) (by omega) (by omega) (by omega) (by omega) (by omega) (by omega) (by omega)]; exact c_541
      have c_618 : E549 (1 + d9) 10 = .inl (kA 8, 6, .inr (.inr (.inr (.inr fo_460)))) := by rw [p_559 (1 + d9) 10 (by omega) (by omega) (by omega) (by omega) (by omega) (by omega) (by omega) (by omega)]; exact c_542
      have c_619 : E549 (1 + d9) 11 = .inl (kA 2, 5, .inl tr_460) := by rw [p_559 (1 + d9) 11 (by omega) (by omega) (by omega) (by omega) (by omega) (by omega) (by omega) (by omega)]; exact c_543
      have c_620 : E549 (1 + d9) 12 = .inl (kA 2, 5, .inl op_460) := by rw [p_559 (1 + d9) 12 (by omega) (by omega) (by omega) (by omega) (by omega) (by omega) (by omega) (by omega)]; exact c_544
      have hP : va_P D xcl (rp ad548 E549 RL550) H := hP
      have hD : va_D A (rp ad548 E549 RL550) := hD
      refine px_aast (i := k) (r := (xR_Me, xT_Me, 6)) hx hb hK.1 hP hD hS m_581 c_607 6 rfl m_595 p_551 rfl (by omega) (by omega) xd_Ch_draft_46 (fun H locs hP hD hS => ?_)
      have hP : va_P D xcl (rp ad548 (up2 E549 (20 + ml) 1 (.inl (kA 6, L.length, .inr (.inr (.inr (.inr (va_up fm1 k (some (ad548 (20 + ml) (10 + 10 * k)))))))))) RL550) H := hP
      have hD : va_D A (rp ad548 (up2 E549 (20 + ml) 1 (.inl (kA 6, L.length, .inr (.inr (.inr (.inr (va_up fm1 k (some (ad548 (20 + ml) (10 + 10 * k)))))))))) RL550) := hD
      generalize hE622 : up2 E549 (20 + ml) 1 (.inl (kA 6, L.length, .inr (.inr (.inr (.inr (va_up fm1 k (some (ad548 (20 + ml) (10 + 10 * k))))))))) = E621 at hP hD
      have fE623 : ∀ b2 o2, ¬ (b2 = 20 + ml ∧ o2 = 1) → E621 b2 o2 = E549 b2 o2 := fun b2 o2 h9 => by rw [← hE622]; exact up2_ne (by omega)
      have c_624 : E621 (20 + ml) 1 = .inl (kA 6, L.length, .inr (.inr (.inr (.inr (va_up fm1 k (some (ad548 (20 + ml) (10 + 10 * k)))))))) := by rw [← hE622]; exact up2_eq
      have c_625 : E621 (20 + ml) (10 + 10 * k) = .inr (6, [.ref (ad548 (20 + ml) 0), .ref (ad548 (1 + d9) 0), .ref (ad548 (20 + ml) (11 + 10 * k)), .ref (ad548 (20 + ml) (12 + 10 * k)), .ref (ad548 (20 + ml) (13 + 10 * k)), .ref (ad548 (20 + ml) (14 + 10 * k))]) := (fE623 (20 + ml) (10 + 10 * k) (by omega)).trans p_551
      have c_626 : E621 (20 + ml) (11 + 10 * k) = .inl (kA 6, k1_460, .inr (.inr (.inr (.inr (fun _ => none))))) := (fE623 (20 + ml) (11 + 10 * k) (by omega)).trans p_552
      have c_627 : E621 (20 + ml) (12 + 10 * k) = .inr (10, [.ref (ad548 (20 + ml) (15 + 10 * k))]) := (fE623 (20 + ml) (12 + 10 * k) (by omega)).trans p_553
      have c_628 : E621 (20 + ml) (13 + 10 * k) = .inr (10, [.ref (ad548 (20 + ml) (16 + 10 * k))]) := (fE623 (20 + ml) (13 + 10 * k) (by omega)).trans p_554
      have c_629 : E621 (20 + ml) (14 + 10 * k) = .inr (10, [.ref (ad548 (20 + ml) (17 + 10 * k))]) := (fE623 (20 + ml) (14 + 10 * k) (by omega)).trans p_555
      have c_630 : E621 (20 + ml) (15 + 10 * k) = .inl (kA 0, 6, .inl (fun _ => 0)) := (fE623 (20 + ml) (15 + 10 * k) (by omega)).trans p_556
      have c_631 : E621 (20 + ml) (16 + 10 * k) = .inl (kA 0, 6, .inl (fun _ => 0)) := (fE623 (20 + ml) (16 + 10 * k) (by omega)).trans p_557
      have c_632 : E621 (20 + ml) (17 + 10 * k) = .inl (kA 0, 6, .inl (fun _ => 0)) := (fE623 (20 + ml) (17 + 10 * k) (by omega)).trans p_558
      have c_633 : E621 0 0 = .inr (0, [.ref (ad548 0 1), .ref (ad548 0 5), .ref (ad548 0 7), .ref (ad548 0 9), .int (nI ml), .int lf_1]) := (fE623 0 0 (by omega)).trans c_596
      have c_634 : E621 0 1 = .inr (1, [.ref (ad548 0 2), .ref (ad548 0 3), .ref (ad548 0 4), .int (nI len), .int (nI wn)]) := (fE623 0 1 (by omega)).trans c_597
      have c_635 : E621 0 2 = .inl (kA 1, 40, .inl tx_4) := (fE623 0 2 (by omega)).trans c_598
      have c_636 : E621 0 3 = .inl (kA 0, 20, .inl fb_4) := (fE623 0 3 (by omega)).trans c_599
      have c_637 : E621 0 4 = .inl (kA 0, 20, .inl fe_4) := (fE623 0 4 (by omega)).trans c_600
      have c_638 : E621 0 5 = .inr (2, [.ref (ad548 0 6), .int (nI nd)]) := (fE623 0 5 (by omega)).trans c_601
      have c_639 : E621 0 6 = .inl (kA 4, 12, .inr (.inr (.inr (.inr fd_13)))) := (fE623 0 6 (by omega)).trans c_602
      have c_640 : E621 0 7 = .inr (3, [.ref (ad548 0 5), .ref (ad548 0 8), .int (nI (L.length)), .int cf_18, .ref (ad548 (20 + xp) 0)]) := (fE623 0 7 (by omega)).trans c_603
      have c_641 : E621 0 8 = .inl (kA 4, 12, .inr (.inr (.inr (.inr fc_18)))) := (fE623 0 8 (by omega)).trans c_604
      have c_642 : E621 0 9 = .inl (kA 5, 5, .inr (.inr (.inr (.inr fl_23)))) := (fE623 0 9 (by omega)).trans c_605
      have c_643 : E621 (20 + ml) 0 = .inr (5, [.int (nI ml), pv1, .ref (ad548 (20 + ml) 1), .int 1]) := (fE623 (20 + ml) 0 (by omega)).trans c_606
      have c_644 : E621 (1 + d9) 0 = .inr (7, [.int (nI d9), .int fd_460, .int nm_460, .ref (ad548 (1 + d9) 1), .ref (ad548 (1 + d9) 9), .ref (ad548 (1 + d9) 10), .ref (ad548 (1 + d9) 2), .ref (ad548 (1 + d9) 11), .ref (ad548 (1 + d9) 12), .ref (ad548 (1 + d9) 3), .ref (ad548 (1 + d9) 4), .int sd_460]) := (fE623 (1 + d9) 0 (by omega)).trans c_608
      have c_645 : E621 (1 + d9) 1 = .inr (8, [.ref (ad548 (1 + d9) 5), .int (nI k0_460)]) := (fE623 (1 + d9) 1 (by omega)).trans c_609
      have c_646 : E621 (1 + d9) 2 = .inr (8, [.ref (ad548 (1 + d9) 6), .int (nI k1_460)]) := (fE623 (1 + d9) 2 (by omega)).trans c_610
      have c_647 : E621 (1 + d9) 3 = .inr (8, [.ref (ad548 (1 + d9) 7), .int (nI k2_460)]) := (fE623 (1 + d9) 3 (by omega)).trans c_611
      have c_648 : E621 (1 + d9) 4 = .inr (8, [.ref (ad548 (1 + d9) 8), .int (nI k3_460)]) := (fE623 (1 + d9) 4 (by omega)).trans c_612
      have c_649 : E621 (1 + d9) 5 = .inl (kA 0, 6, .inl f0_460) := (fE623 (1 + d9) 5 (by omega)).trans c_613
      have c_650 : E621 (1 + d9) 6 = .inl (kA 0, 5, .inl f1_460) := (fE623 (1 + d9) 6 (by omega)).trans c_614
      have c_651 : E621 (1 + d9) 7 = .inl (kA 0, 3, .inl f2_460) := (fE623 (1 + d9) 7 (by omega)).trans c_615
      have c_652 : E621 (1 + d9) 8 = .inl (kA 0, 3, .inl f3_460) := (fE623 (1 + d9) 8 (by omega)).trans c_616
      have c_653 : E621 (1 + d9) 9 = .inl (kA 8, 6, .inr (.inr (.inr (.inr fe_460)))) := (fE623 (1 + d9) 9 (by omega)).trans c_617
      have c_654 : E621 (1 + d9) 10 = .inl (kA 8, 6, .inr (.inr (.inr (.inr fo_460)))) := (fE623 (1 + d9) 10 (by omega)).trans c_618
      have c_655 : E621 (1 + d9) 11 = .inl (kA 2, 5, .inl tr_460) := (fE623 (1 + d9) 11 (by omega)).trans c_619
      have c_656 : E621 (1 + d9) 12 = .inl (kA 2, 5, .inl op_460) := (fE623 (1 + d9) 12 (by omega)).trans c_620
      refine lv_iinc (k := 0) (x := (nI k)) (v := (nI (k + 1))) hx hb xd_Ch_draft_47 hl rfl (xb_inc k 1) (Nat.le_of_ble_eq_true rfl) rfl (fun ls hl => ?_)
      have hl : lv_has ls 4 [(3, .int (nI (k + 1))), (2, .ref (ad548 (20 + ml) 0)), (0, .ref (ad548 0 7))] := hl
      refine lv_goto (tgt := 19) hx hb xd_Ch_draft_50 (by decide) ?_
      exact ih404 (k + 1, ad548, E621, RL550, pv1, (va_up fm1 k (some (ad548 (20 + ml) (10 + 10 * k))))) _ _ _ (show L.length - (k + 1) < L.length - k by omega) (lv_sub hl [0, 1, 2] rfl) hP hD hS ⟨(show (k + 1) ≤ L.length from by first | assumption | omega), (show (∀ b2 o2, ¬ (b2 = 20 + ml) → E621 b2 o2 = E b2 o2) from fun b2 o2 h9 => by show E621 b2 o2 = _; rw [fE623 b2 o2 (by omega), p_559 b2 o2 (by omega) (by omega) (by omega) (by omega) (by omega) (by omega) (by omega) (by omega), fE490 b2 o2 (by omega), hfE b2 o2 (by omega)]), (show (∀ b2 o2, ¬ (b2 = 20 + ml) → ad548 b2 o2 = ad b2 o2) from fun b2 o2 h9 => by show ad548 b2 o2 = _; rw [p_560 b2 o2 (by omega) (by omega) (by omega) (by omega) (by omega) (by omega) (by omega), fA491 b2 o2 (by omega), hfA b2 o2 (by omega)]), (show ∀ x ∈ RL, x ∈ RL550 from fun _ h9 => p_561 _ (hs492 _ (hfS _ h9))), (show (20 + ml, 0) ∈ RL550 from m_580), (show (20 + ml, 1) ∈ RL550 from m_581), (show pv1 = .null ∨ ∃ x, x < ml ∧ pv1 = .ref (ad548 (20 + x) 0) from by rcases hpv1 with h | ⟨x, hx9, h⟩; exact Or.inl h; exact Or.inr ⟨x, hx9, by rw [p_560 (20 + x) 0 (by omega) (by omega) (by omega) (by omega) (by omega) (by omega) (by omega), fA491 (20 + x) 0 (by omega)]; exact h⟩), (show pv1 = lyv ad548 lq from hpx.trans (lyv_same (fun x hx9 => by rw [p_560 (20 + x) 0 (by omega) (by omega) (by omega) (by omega) (by omega) (by omega) (by omega), fA491 (20 + x) 0 (by omega)])).symm), (show E621 (20 + ml) 0 = .inr (5, [.int (nI ml), pv1, .ref (ad548 (20 + ml) 1), .int 1]) from c_643), (show E621 (20 + ml) 1 = .inl (kA 6, L.length, .inr (.inr (.inr (.inr (va_up fm1 k (some (ad548 (20 + ml) (10 + 10 * k)))))))) from c_624), (show ∀ j, j < (k + 1) → (va_up fm1 k (some (ad548 (20 + ml) (10 + 10 * k)))) j = some (ad548 (20 + ml) (10 + 10 * j)) ∧ MEI kA ad548 E621 RL550 nd ml j from fun j hj => by
          by_cases q : j = k
          · subst q; exact ⟨vu_eq, ⟨(fun j9 hj9 => by
              have hj8 : j9 = 0 ∨ j9 = 1 ∨ j9 = 2 ∨ j9 = 3 ∨ j9 = 4 ∨ j9 = 5 ∨ j9 = 6 ∨ j9 = 7 := by omega
              rcases hj8 with rfl | rfl | rfl | rfl | rfl | rfl | rfl | rfl
              · exact m_595
              · exact p_562
              · exact p_563
              · exact p_564
              · exact p_565
              · exact p_566
              · exact p_567
              · exact p_568), d9, k1_460, (fun _ => none), (fun _ => 0), (fun _ => 0), (fun _ => 0), hd9, by omega, c_625, c_626, c_627, c_628, c_629, c_630, c_631, c_632⟩⟩
          · exact ⟨(vu_ne q).trans ((hMM j (by omega)).1.trans (by rw [p_560 (20 + ml) (10 + 10 * j) (by omega) (by omega) (by omega) (by omega) (by omega) (by omega) (by omega), fA491 (20 + ml) (10 + 10 * j) (by omega)])), MEI_at (fun j9 hj9 => by rw [fE623 (20 + ml) (10 + j9 + 10 * j) (by omega), p_559 (20 + ml) (10 + j9 + 10 * j) (by omega) (by omega) (by omega) (by omega) (by omega) (by omega) (by omega) (by omega), fE490 (20 + ml) (10 + j9 + 10 * j) (by omega)]) (fun j9 hj9 => by rw [p_560 (20 + ml) (10 + j9 + 10 * j) (by omega) (by omega) (by omega) (by omega) (by omega) (by omega) (by omega), fA491 (20 + ml) (10 + j9 + 10 * j) (by omega)]) (by rw [p_560 (20 + ml) 0 (by omega) (by omega) (by omega) (by omega) (by omega) (by omega) (by omega), fA491 (20 + ml) 0 (by omega)]) (fun d8 hd8 => by rw [p_560 (1 + d8) 0 (by omega) (by omega) (by omega) (by omega) (by omega) (by omega) (by omega), fA491 (1 + d8) 0 (by omega)]) (fun _ h9 => p_561 _ (hs492 _ (h9))) (hMM j (by omega)).2⟩), (show ∀ j, j < (k + 1) → DX g ad548 E621 L ml j from fun j hj => by
        by_cases q : j = k
        · rw [q]; exact ⟨by rw [c_625, ← hd9e]; rfl, by rw [c_626, ← hd9e, ← tk1_460, iN_nI (by omega)]; rfl, by rw [c_630]; rfl, by rw [c_631]; rfl, by rw [c_632]; rfl⟩
        · exact DX_at (fun j9 hj9 => by rw [fE623 (20 + ml) (10 + j9 + 10 * j) (by omega), p_559 (20 + ml) (10 + j9 + 10 * j) (by omega) (by omega) (by omega) (by omega) (by omega) (by omega) (by omega) (by omega), fE490 (20 + ml) (10 + j9 + 10 * j) (by omega)]) (by
          have q9 := hxGL.1 _ (getD_mem (L := L) (k := j) (by omega))
          rw [p_560 (1 + L.getD j 0) 0 (by omega) (by omega) (by omega) (by omega) (by omega) (by omega) (by omega), fA491 (1 + L.getD j 0) 0 (by omega)]) (hMX j (by omega)))⟩
noncomputable def srf (T : Nat → Nat → Prop) (mc pr : Nat → Nat) : Nat → Nat → Option (Nat × Nat)
  | 0, _ => none
  | _ + 1, 0 => none
  | f + 1, la + 1 => match ff (T la) (mc la) with
    | some k => some (la, k)
    | none => srf T mc pr f (pr la)
theorem srf_0 {T : Nat → Nat → Prop} {mc pr : Nat → Nat} : ∀ f, srf T mc pr f 0 = none
  | 0 => rfl
  | _ + 1 => rfl
theorem srf_f {T : Nat → Nat → Prop} {mc pr : Nat → Nat} : ∀ (f f2 lq : Nat), lq ≤ f → lq ≤ f2 → (∀ la, la < lq → pr la ≤ la) → srf T mc pr f2 lq = srf T mc pr f lq
  | f, f2, 0, _, _, _ => by rw [srf_0, srf_0]
  | 0, _, la + 1, h, _, _ => absurd h (by omega)
  | _ + 1, 0, la + 1, _, h, _ => absurd h (by omega)
  | f + 1, f2 + 1, la + 1, h1, h2, hp => by
    have hpl := hp la (by omega)
    have ih := srf_f (T := T) (mc := mc) (pr := pr) f f2 (pr la) (by omega) (by omega) (fun x hx => hp x (by omega))
    unfold srf
    cases hq : ff (T la) (mc la) with
    | none => simp only; exact ih
    | some k => rfl
noncomputable def srU (T : Nat → Nat → Prop) (mc pr : Nat → Nat) (lq : Nat) : Option (Nat × Nat) := srf T mc pr lq lq
theorem srU_hit {T : Nat → Nat → Prop} {mc pr : Nat → Nat} {la k : Nat} (hk : k < mc la) (h : T la k) (hn : ∀ j, j < k → ¬ T la j) : srU T mc pr (la + 1) = some (la, k) := by
  unfold srU srf
  rw [ff_some hk h hn]
theorem srU_miss {T : Nat → Nat → Prop} {mc pr : Nat → Nat} {la : Nat} (hp : ∀ x, x < la + 1 → pr x ≤ x) (hn : ∀ j, j < mc la → ¬ T la j) : srU T mc pr (la + 1) = srU T mc pr (pr la) := by
  have h1 := hp la (by omega)
  show srf T mc pr (la + 1) (la + 1) = srf T mc pr (pr la) (pr la)
  conv => lhs; unfold srf
  rw [ff_none hn]
  exact srf_f _ _ _ (Nat.le_refl _) (by omega) (fun x hx => hp x (by omega))
def chF (pr : Nat → Nat) : Nat → Nat → Nat → Prop
  | 0, _, _ => False
  | f + 1, lq, la => 0 < lq ∧ (la = lq - 1 ∨ chF pr f (pr (lq - 1)) la)
def Ch (pr : Nat → Nat) (lq la : Nat) : Prop := ∃ f, chF pr f lq la
theorem Ch_0 {pr : Nat → Nat} {la : Nat} : ¬ Ch pr 0 la := fun ⟨f, h⟩ => by
  cases f with
  | zero => exact h
  | succ f => exact absurd h.1 (Nat.lt_irrefl _)
theorem Ch_s {pr : Nat → Nat} {y la : Nat} : Ch pr (y + 1) la ↔ (la = y ∨ Ch pr (pr y) la) := by
  constructor
  · intro ⟨f, h⟩
    cases f with
    | zero => exact h.elim
    | succ f =>
      rcases h.2 with q | q
      · exact Or.inl q
      · exact Or.inr ⟨f, q⟩
  · rintro (q | ⟨f, q⟩)
    · exact ⟨1, by omega, Or.inl q⟩
    · exact ⟨f + 1, by omega, Or.inr q⟩
theorem chF_lt {pr : Nat → Nat} : ∀ (f lq la : Nat), (∀ x, x < lq → pr x ≤ x) → chF pr f lq la → la < lq
  | 0, _, _, _, h => h.elim
  | f + 1, lq, la, hp, h => by
    rcases h.2 with q | q
    · have := h.1; omega
    · have h0 := h.1
      have h1 := hp (lq - 1) (by omega)
      have h2 := chF_lt f _ la (fun x hx => hp x (by omega)) q
      omega
theorem Ch_lt {pr : Nat → Nat} {lq la : Nat} (hp : ∀ x, x < lq → pr x ≤ x) (h : Ch pr lq la) : la < lq := by
  obtain ⟨f, hf⟩ := h
  exact chF_lt f lq la hp hf
theorem chF_tr {pr : Nat → Nat} : ∀ (f lq la la2 : Nat), chF pr f lq la → Ch pr (la + 1) la2 → Ch pr lq la2
  | 0, _, _, _, h, _ => h.elim
  | f + 1, lq, la, la2, h, h2 => by
    have h0 := h.1
    rcases h.2 with q | q
    · rw [show lq = la + 1 by omega]; exact h2
    · rw [show lq = (lq - 1) + 1 by omega]
      exact Ch_s.mpr (Or.inr (chF_tr f _ la la2 q h2))
theorem Ch_tr {pr : Nat → Nat} {lq la la2 : Nat} (h : Ch pr lq la) (h2 : Ch pr (la + 1) la2) : Ch pr lq la2 := by
  obtain ⟨f, hf⟩ := h
  exact chF_tr f lq la la2 hf h2
theorem srf_none {T : Nat → Nat → Prop} {mc pr : Nat → Nat} : ∀ (f lq : Nat), lq ≤ f → (∀ x, x < lq → pr x ≤ x) → srf T mc pr f lq = none → ∀ la, Ch pr lq la → ∀ k, k < mc la → ¬ T la k
  | f, 0, _, _, _ => fun la hc => absurd hc Ch_0
  | 0, la + 1, h, _, _ => absurd h (by omega)
  | f + 1, y + 1, h, hp, he => fun la hc k hk => by
    have h1 := hp y (by omega)
    unfold srf at he
    cases hq : ff (T y) (mc y) with
    | some j => rw [hq] at he; simp only at he; cases he
    | none =>
      rw [hq] at he
      simp only at he
      rcases Ch_s.mp hc with q | q
      · rw [q] at hk ⊢; exact ff_no hq k hk
      · exact srf_none f (pr y) (by omega) (fun x hx => hp x (by omega)) he la q k hk
theorem srf_some {T : Nat → Nat → Prop} {mc pr : Nat → Nat} : ∀ (f lq : Nat) {la k : Nat}, srf T mc pr f lq = some (la, k) → Ch pr lq la ∧ k < mc la ∧ T la k
  | 0, _, _, _, h => by cases h
  | _ + 1, 0, _, _, h => by cases h
  | f + 1, y + 1, la, k, h => by
    unfold srf at h
    cases hq : ff (T y) (mc y) with
    | some j =>
      rw [hq] at h
      simp only at h
      have q1 := congrArg Prod.fst (Option.some.inj h)
      have q2 := congrArg Prod.snd (Option.some.inj h)
      simp only at q1 q2
      subst q1
      subst q2
      exact ⟨Ch_s.mpr (Or.inl rfl), (ff_is hq).1, (ff_is hq).2.1⟩
    | none =>
      rw [hq] at h
      simp only at h
      obtain ⟨z1, z2⟩ := srf_some f (pr y) h
      exact ⟨Ch_s.mpr (Or.inr z1), z2⟩
theorem lkf_ch {nm : Nat → Int32} {mc : Nat → Nat} {md : Nat → Nat → Nat} {pr : Nat → Nat} {n : Int32} : ∀ (f lq : Nat) {la b : Nat}, lkf nm mc md pr f lq n = some (la, b) → Ch pr lq la ∧ ∃ k, k < mc la ∧ md la k = b
  | 0, _, _, _, h => by cases h
  | _ + 1, 0, _, _, h => by cases h
  | f + 1, y + 1, la, b, h => by
    unfold lkf at h
    cases hq : ff (fun k => nm (md y k) = n) (mc y) with
    | some j =>
      rw [hq] at h
      simp only at h
      have q1 := congrArg Prod.fst (Option.some.inj h)
      have q2 := congrArg Prod.snd (Option.some.inj h)
      simp only at q1 q2
      subst q1
      exact ⟨Ch_s.mpr (Or.inl rfl), j, (ff_is hq).1, q2⟩
    | none =>
      rw [hq] at h
      simp only at h
      obtain ⟨z1, z2⟩ := lkf_ch f (pr y) h
      exact ⟨Ch_s.mpr (Or.inr z1), z2⟩
def SRT (g : gT) (R : Nat → Prop) (pn rd : Int32) (la j : Nat) : Prop := R (12 * la + mdv g la j) ∧ ∃ i, pI g (mdv g la j) pn = some i ∧ exP g (6 * mdv g la j + i) rd
noncomputable def srG (g : gT) (R : Nat → Prop) (pn rd : Int32) (lq : Nat) : Option (Nat × Nat) := srU (SRT g R pn rd) (mcv g) (prv g) lq
def SBi (g : gT) (R : Nat → Prop) (n d n2 k2 i : Nat) : Prop := (∃ q, pI g (mdv g n2 k2) (g 6 (6 * mdv g n2 k2 + i)) = some q ∧ exP g (6 * mdv g n2 k2 + q) (g 4 d)) ∧ ((∃ q, pI g d (g 6 (6 * mdv g n2 k2 + i)) = some q) ∨ ¬ srG g R (g 6 (6 * mdv g n2 k2 + i)) (g 4 d) (n + 1) = some (n2, k2))
def SB (g : gT) (R : Nat → Prop) (n d n2 k2 : Nat) : Prop := R (12 * n2 + mdv g n2 k2) ∧ ∃ i, i < iN (g 5 (mdv g n2 k2)) ∧ SBi g R n d n2 k2 i
def RWb (E : Nat → Nat → va_E) (n k : Nat) : Nat → Prop := fun t => BS (eA (E (20 + n) (17 + 10 * k))) t
def NDq (g : gT) (np : Nat) : Prop := ∀ la, la < np → ∀ a b, a < mcv g la → b < mcv g la → mdv g la a = mdv g la b → a = b
def UQ1 (g : gT) (d : Nat) : Prop := ∀ i j, i < iN (g 5 d) → j < iN (g 5 d) → g 6 (6 * d + i) = g 6 (6 * d + j) → i = j
theorem pI_is {g : gT} {d i : Nat} {n : Int32} (h : pI g d n = some i) : i < iN (g 5 d) ∧ g 6 (6 * d + i) = n := by
  have q := ff_is h
  exact ⟨q.1, q.2.1⟩
theorem pI_u {g : gT} {d i : Nat} (hu : UQ1 g d) (hi : i < iN (g 5 d)) : pI g d (g 6 (6 * d + i)) = some i := ff_some hi rfl (fun j hj e => by have q := hu j i (by omega) hi e; omega)
theorem pI_ex {g : gT} {d k0 : Nat} {f0 : Nat → Int32} {n : Int32} (b0 : k0 ≤ 6) (h4 : nI k0 = g 5 d) (h5 : ∀ i, i < k0 → f0 i = g 6 (6 * d + i)) (h : ∃ k, k < k0 ∧ f0 k = n) : ∃ q, pI g d n = some q := by
  rcases ff_or (P := fun i => g 6 (6 * d + i) = n) (iN (g 5 d)) with ⟨k, _, _, _, q⟩ | ⟨q, _⟩
  · exact ⟨k, q⟩
  · obtain ⟨k, h1, h2⟩ := h
    exact absurd ((h5 k h1).symm.trans h2) (q k (by rw [← h4, iN_nI (by omega)]; exact h1))
theorem rd_ch {g : gT} {n d m : Nat} (hk : LKP g (n + 1)) (h : rdP g n d m) : ∃ la, Ch (prv g) (n + 1) la ∧ ∃ k, k < mcv g la ∧ m = 12 * la + mdv g la k := by
  refine rdP_min (S := fun m => ∃ la, Ch (prv g) (n + 1) la ∧ ∃ k, k < mcv g la ∧ m = 12 * la + mdv g la k) ?_ ?_ h
  · intro b ⟨i, _, _, la, e, h2, h3⟩
    obtain ⟨q1, k, q2, q3⟩ := lkf_ch _ _ h2
    exact ⟨la, q1, k, q2, by rw [h3]; exact congrArg (fun x => 12 * la + x) q3.symm⟩
  · intro b c ⟨la, h1, k, h2, h3⟩ ⟨i, _, _, _, la2, e2, h5, h6⟩
    obtain ⟨q1, k2, q2, q3⟩ := lkf_ch _ _ h5
    have hm := (hk.2 la (Ch_lt hk.1 h1)).2 k h2
    rw [show b / 12 = la by omega] at q1
    exact ⟨la2, Ch_tr h1 q1, k2, q2, by rw [h6]; exact congrArg (fun x => 12 * la2 + x) q3.symm⟩
theorem SPL_iff {g : gT} {R : Nat → Nat → Prop} {n : Nat} (hn : n < 6) (hk : LKP g (n + 1)) (hN : NDq g (n + 1)) (hU : ∀ la, la < n + 1 → ∀ k, k < mcv g la → UQ1 g (mdv g la k)) (h21 : ∀ k, k < mcv g n → g 21 (12 * n + k) = nI (mdv g n k)) (hR : ∀ k, k < mcv g n → ∀ t, t < 72 → (R k t ↔ rdQ g n (mdv g n k) t)) : (∃ k, k < mcv g n ∧ ∃ la, Ch (prv g) (n + 1) la ∧ ∃ k3, k3 < mcv g la ∧ SB g (R k) n (mdv g n k) la k3) ↔ SPL g n (mcv g n) := by
  constructor
  · intro ⟨k, hk1, la, hc, k3, hk3, hRm, i, hi, ⟨j, hj, hex⟩, hor⟩
    have hla := Ch_lt hk.1 hc
    have hd12 := (hk.2 la hla).2 k3 hk3
    have hb12 := (hk.2 n (by omega)).2 k hk1
    have hji : j = i := by
      have q := pI_is hj
      exact hU la hla k3 hk3 j i q.1 hi q.2
    subst hji
    refine ⟨mdv g n k, ⟨hb12, 12 * n + k, by omega, by omega, h21 k hk1⟩, 12 * la + mdv g la k3, by omega, (hR k hk1 _ (by omega)).mp hRm, ?_⟩
    rw [show (12 * la + mdv g la k3) % 12 = mdv g la k3 by omega]
    refine ⟨6 * mdv g la k3 + j, by omega, by omega, hex, ?_⟩
    rcases hor with q | q
    · exact Or.inl q
    · right
      have hT : SRT g (R k) (g 6 (6 * mdv g la k3 + j)) (g 4 (mdv g n k)) la k3 := ⟨hRm, j, hj, hex⟩
      cases hs : srG g (R k) (g 6 (6 * mdv g la k3 + j)) (g 4 (mdv g n k)) (n + 1) with
      | none => exact absurd hT (srf_none (n + 1) (n + 1) (Nat.le_refl _) hk.1 hs la hc k3 hk3)
      | some x =>
        obtain ⟨x1, x2⟩ := x
        obtain ⟨z1, z2, ⟨z3, i2, z4, z5⟩⟩ := srf_some (n + 1) (n + 1) hs
        have hx1 := Ch_lt hk.1 z1
        have hx12 := (hk.2 x1 hx1).2 x2 z2
        refine ⟨12 * x1 + mdv g x1 x2, by omega, fun e => ?_, (hR k hk1 _ (by omega)).mp z3, i2, ?_⟩
        · have e1 : x1 = la := by omega
          subst e1
          have e2 := hN x1 hx1 x2 k3 z2 hk3 (by omega)
          subst e2
          exact q hs
        · rw [show (12 * x1 + mdv g x1 x2) % 12 = mdv g x1 x2 by omega]
          exact ⟨z4, z5⟩
  · intro ⟨b, ⟨hb12, j, hj1, hj2, hj3⟩, m, hm, hQ, p, hp1, hp2, hex, hor⟩
    have hkb : mdv g n (j - 12 * n) = b := by
      unfold mdv
      rw [show 12 * n + (j - 12 * n) = j by omega, hj3, iN_nI (by omega)]
    have hk1 : j - 12 * n < mcv g n := by omega
    generalize hkk : j - 12 * n = k at hkb hk1
    subst hkb
    obtain ⟨la, hc, k3, hk3, hmm⟩ := rd_ch hk hQ.1
    have hla := Ch_lt hk.1 hc
    have hd12 := (hk.2 la hla).2 k3 hk3
    subst hmm
    rw [show (12 * la + mdv g la k3) % 12 = mdv g la k3 by omega] at hp1 hp2
    obtain ⟨i, hpi⟩ : ∃ i, p = 6 * mdv g la k3 + i := ⟨p - 6 * mdv g la k3, by omega⟩
    subst hpi
    have hi : i < iN (g 5 (mdv g la k3)) := by omega
    have hpI := pI_u (hU la hla k3 hk3) hi
    have hRm := (hR k hk1 _ hm).mpr hQ
    rcases hor with q | ⟨m2, hm2, hne, hQ2, i2, hi2, hex2⟩
    · exact ⟨k, hk1, la, hc, k3, hk3, hRm, i, hi, ⟨i, hpI, hex⟩, Or.inl q⟩
    · by_cases hs : srG g (R k) (g 6 (6 * mdv g la k3 + i)) (g 4 (mdv g n k)) (n + 1) = some (la, k3)
      · obtain ⟨la2, hc2, k4, hk4, hmm2⟩ := rd_ch hk hQ2.1
        have hla2 := Ch_lt hk.1 hc2
        have hd2 := (hk.2 la2 hla2).2 k4 hk4
        subst hmm2
        rw [show (12 * la2 + mdv g la2 k4) % 12 = mdv g la2 k4 by omega] at hi2 hex2
        obtain ⟨q1, q2⟩ := pI_is hi2
        refine ⟨k, hk1, la2, hc2, k4, hk4, (hR k hk1 _ hm2).mpr hQ2, i2, q1, ?_⟩
        unfold SBi
        rw [q2]
        refine ⟨⟨i2, hi2, hex2⟩, Or.inr (fun e => ?_)⟩
        rw [hs] at e
        have e1 := congrArg Prod.fst (Option.some.inj e)
        have e2 := congrArg Prod.snd (Option.some.inj e)
        simp only at e1 e2
        subst e1
        subst e2
        exact hne rfl
      · exact ⟨k, hk1, la, hc, k3, hk3, hRm, i, hi, ⟨i, hpI, hex⟩, Or.inr hs⟩
theorem CYC_iff {g : gT} {R : Nat → Nat → Prop} {n : Nat} (hk : LKP g (n + 1)) (h21 : ∀ k, k < mcv g n → g 21 (12 * n + k) = nI (mdv g n k)) (hR : ∀ k, k < mcv g n → (R k (12 * n + mdv g n k) ↔ tc (stp g n) (mdv g n k) (mdv g n k))) : (∃ k, k < mcv g n ∧ R k (12 * n + mdv g n k)) ↔ CYC g n (mcv g n) := by
  constructor
  · intro ⟨k, h1, h2⟩
    exact ⟨mdv g n k, ⟨(hk.2 n (by omega)).2 k h1, 12 * n + k, by omega, by omega, h21 k h1⟩, (hR k h1).mp h2⟩
  · intro ⟨b, ⟨hb12, j, hj1, hj2, hj3⟩, h⟩
    have hkb : mdv g n (j - 12 * n) = b := by
      unfold mdv
      rw [show 12 * n + (j - 12 * n) = j by omega, hj3, iN_nI (by omega)]
    have hk1 : j - 12 * n < mcv g n := by omega
    exact ⟨j - 12 * n, hk1, (hR _ hk1).mpr (by rw [hkb]; exact h)⟩
theorem k5x_0 : (Cond.fieldLink "LayerDesk$Member" 24 "LayerDesk$Member" "home" "LLayerDesk$Layer;") ∈ wT := wT_t (List.mem_append_right _ (List.mem_append_right _ (List.mem_append_left _ (List.mem_of_getElem? (i := 179) rfl)))) rfl
theorem k5x_1 : (Cond.fieldLink "LayerDesk$Member" 75 "LayerDesk$Layer" "members" "[LLayerDesk$Member;") ∈ wT := wT_t (List.mem_append_right _ (List.mem_append_right _ (List.mem_append_left _ (List.mem_of_getElem? (i := 148) rfl)))) rfl
theorem k5x_2 : (Cond.fieldLink "LayerDesk$Member" 89 "LayerDesk$Layer" "parent" "LLayerDesk$Layer;") ∈ wT := wT_t (List.mem_append_right _ (List.mem_append_right _ (List.mem_append_left _ (List.mem_of_getElem? (i := 144) rfl)))) rfl
theorem k5x_3 : (Cond.fieldLink "LayerDesk$Member" 21 "LayerDesk$Member" "reading" "LLayerDesk$Reach;") ∈ wT := wT_t (List.mem_append_right _ (List.mem_append_right _ (List.mem_append_left _ (List.mem_of_getElem? (i := 191) rfl)))) rfl
theorem k5x_4 : (Cond.code xy_Re_marks xb_Re_marks 2 (some .boolean)) ∈ wT := wT_t (List.mem_append_left _ (List.mem_of_getElem? (i := 177) rfl)) rfl
theorem k5x_5 : (Cond.methodLink "LayerDesk$Member" 78 xy_Re_marks) ∈ wT := wT_t (List.mem_append_right _ (List.mem_append_right _ (List.mem_append_right _ (List.mem_append_left _ (List.mem_of_getElem? (i := 16) rfl))))) rfl
theorem k5x_6 : (Cond.instanceMethod xy_Re_marks) ∈ wT := wT_t (List.mem_append_left _ (List.mem_of_getElem? (i := 175) rfl)) rfl
theorem k5x_7 : (Cond.selects "LayerDesk$Reach" xy_Re_marks xy_Re_marks) ∈ wT := wT_t (List.mem_append_left _ (List.mem_of_getElem? (i := 176) rfl)) rfl
theorem k5x_8 : (Cond.initialized "LayerDesk$Reach") ∈ wT := wT_t (List.mem_append_left _ (List.mem_of_getElem? (i := 21) rfl)) rfl
theorem k5x_9 : (Cond.fieldLink "LayerDesk$Member" 28 "LayerDesk$Member" "descriptor" "LLayerDesk$Descriptor;") ∈ wT := wT_t (List.mem_append_right _ (List.mem_append_right _ (List.mem_append_left _ (List.mem_of_getElem? (i := 181) rfl)))) rfl
theorem k5x_10 : (Cond.fieldLink "LayerDesk$Member" 82 "LayerDesk$Descriptor" "name" "I") ∈ wT := wT_t (List.mem_append_right _ (List.mem_append_left _ (List.mem_of_getElem? (i := 57) rfl))) rfl
theorem k5x_11 : (Cond.code xy_Ds_exportsTo xb_Ds_exportsTo 4 (some .boolean)) ∈ wT := wT_t (List.mem_append_right _ (List.mem_append_right _ (List.mem_append_right _ (List.mem_append_left _ (List.mem_of_getElem? (i := 20) rfl))))) rfl
theorem k5x_12 : (Cond.methodLink "LayerDesk$Member" 85 xy_Ds_exportsTo) ∈ wT := wT_t (List.mem_append_right _ (List.mem_append_right _ (List.mem_append_right _ (List.mem_append_left _ (List.mem_of_getElem? (i := 17) rfl))))) rfl
theorem k5x_13 : (Cond.instanceMethod xy_Ds_exportsTo) ∈ wT := wT_t (List.mem_append_right _ (List.mem_append_right _ (List.mem_append_right _ (List.mem_append_left _ (List.mem_of_getElem? (i := 18) rfl))))) rfl
theorem k5x_14 : (Cond.selects "LayerDesk$Descriptor" xy_Ds_exportsTo xy_Ds_exportsTo) ∈ wT := wT_t (List.mem_append_right _ (List.mem_append_right _ (List.mem_append_right _ (List.mem_append_left _ (List.mem_of_getElem? (i := 19) rfl))))) rfl
theorem k5x_15 : (Cond.initialized "LayerDesk$Descriptor") ∈ wT := wT_t (List.mem_append_left _ (List.mem_of_getElem? (i := 10) rfl)) rfl
set_option maxHeartbeats 4000000 in
set_option maxRecDepth 100000 in
theorem xc_Me_sourceOfX (l : Launch) (D : va_G) (kA : Nat → ClassId) (sz : Nat) (ad : Nat → Nat → Nat) (E : Nat → Nat → va_E) (RL : List (Nat × Nat)) (g : Nat → Nat → Int32) (nd : Nat) (nL : Nat) (n : Nat) (k : Nat) (pn : Int32) (hDIs : DIs kA ad E RL nd) (hLIs : LIs kA ad E RL nd nL) (hnL : nL ≤ 6) (hn : n < nL) (hTD : TDs g E nd) (hTL : TLas g ad E nd nL) (hnd12 : nd ≤ 12) (hME : MEI kA ad E RL nd n k) (hkm : k < iN (g 20 n)) (hNZ : NZ g nd) : Met l xy_Me_sourceOf (.code xy_Me_sourceOf xb_Me_sourceOf 5 (some (.object "LayerDesk$Member")) :: wT) { frames := 3, cells := 0, slots := 0, locals := 66 } (va_Pc [.ref (ad (20 + n) (10 + 10 * k)), .int pn] (xPre D kA sz (rp ad E RL))) (va_Qq (fun (r : Option Nat) (u : Unit) => (r = none ∧ srG g (RWb E n k) pn (g 4 (mdv g n k)) (n + 1) = none) ∨ ∃ x kk, x ≤ n ∧ r = some (ad (20 + x) (10 + 10 * kk)) ∧ MEI kA ad E RL nd x kk ∧ srG g (RWb E n k) pn (g 4 (mdv g n k)) (n + 1) = some (x, kk)) (fun (u : Unit) t => va_P D xcl (rp ad E RL) t.heap ∧ va_D (va_A (rp ad E RL) sz) (rp ad E RL)) (va_A (rp ad E RL) sz)) 0 0 (va_A (rp ad E RL) sz) := by
  refine Met.ofW (cc := xb_Me_sourceOf) (maxL := 5) (ret := (some (.object "LayerDesk$Member"))) (by decide) rfl ?_
  intro p e s m args below meth c s₁ B hml hv
  obtain ⟨rfl, hsz, hP, hK, hD0⟩ := hv
  have hx := B.exec
  have hb := B.bytes
  have hr := B.returns
  have hT := x_hT B.pre
  have hown : s.vm.findClass xR_Me = some m.cls := findClass_of_methodNamed B.named
  have hlocks := B.notSynchronized
  subst hsz
  have hD := hD0.self (sz := s.heap.size)
  generalize hAe : va_A (rp ad E RL) s.heap.size = A at hD ⊢
  have hA : ∀ q : Nat, s.heap.size ≤ q → A q := fun q h => by rw [← hAe]; exact Or.inr h
  have hS : va_S A s.heap s.heap [] := va_S.rf
  have hl := lv_entry ([.ref (ad (20 + n) (10 + 10 * k)), .int pn]) (n := 5) (Nat.le_of_ble_eq_true rfl)
  rw [lg_entry_eq]
  generalize (lg_sl ([.ref (ad (20 + n) (10 + 10 * k)), .int pn]) ++ List.replicate (5 - (lg_sl ([.ref (ad (20 + n) (10 + 10 * k)), .int pn])).length) Slot.unset).toArray = ls at hl ⊢
  have hl : lv_has ls 5 [(0, .ref (ad (20 + n) (10 + 10 * k))), (1, .int pn)] := hl
  have hP : va_P D xcl (rp ad E RL) s.heap := hP
  obtain ⟨m0_1, m1_1, pv_1, op_1, mk_1, fm_1, hmk_1, hpv_1, q0_1, q1_1, hk_1⟩ := id (hLIs n (by omega))
  have c_2 : E (20 + n) 0 = .inr (5, [.int (nI n), pv_1, .ref (ad (20 + n) 1), .int op_1]) := q0_1
  have m_3 : (20 + n, 0) ∈ RL := m0_1
  have c_4 : E (20 + n) 1 = .inl (kA 6, mk_1, .inr (.inr (.inr (.inr fm_1)))) := q1_1
  have m_5 : (20 + n, 1) ∈ RL := m1_1
  obtain ⟨top_1, ⟨lq_1, hlq_1, h19_1, hpv2_1⟩, h20_1, tmd_1⟩ := TLa_get c_2 c_4 (hTL n (by omega))
  have c_6 : E (20 + n) 0 = .inr (5, [.int (nI n), (lyv ad lq_1), .ref (ad (20 + n) 1), .int op_1]) := by rw [← hpv2_1]; exact c_2
  have i20_1 : iN (g 20 n) = mk_1 := by rw [h20_1, iN_nI (by omega)]
  have hkq : k < mk_1 := by have q := hkm; rw [i20_1] at q; exact q
  obtain ⟨hm_7, d_7, rs_7, fr_7, g2_7, g3_7, g4_7, hd_7, hrs_7, q0_7, q1_7, q2_7, q3_7, q4_7, q5_7, q6_7, q7_7⟩ := id hME
  have c_8 : E (20 + n) (10 + 10 * k) = .inr (6, [.ref (ad (20 + n) 0), .ref (ad (1 + d_7) 0), .ref (ad (20 + n) (11 + 10 * k)), .ref (ad (20 + n) (12 + 10 * k)), .ref (ad (20 + n) (13 + 10 * k)), .ref (ad (20 + n) (14 + 10 * k))]) := q0_7
  have m_9 : (20 + n, 10 + 10 * k) ∈ RL := hm_7 0 (by omega)
  have c_10 : E (20 + n) (11 + 10 * k) = .inl (kA 6, rs_7, .inr (.inr (.inr (.inr fr_7)))) := q1_7
  have m_11 : (20 + n, 11 + 10 * k) ∈ RL := hm_7 1 (by omega)
  have c_12 : E (20 + n) (12 + 10 * k) = .inr (10, [.ref (ad (20 + n) (15 + 10 * k))]) := q2_7
  have m_13 : (20 + n, 12 + 10 * k) ∈ RL := hm_7 2 (by omega)
  have c_14 : E (20 + n) (13 + 10 * k) = .inr (10, [.ref (ad (20 + n) (16 + 10 * k))]) := q3_7
  have m_15 : (20 + n, 13 + 10 * k) ∈ RL := hm_7 3 (by omega)
  have c_16 : E (20 + n) (14 + 10 * k) = .inr (10, [.ref (ad (20 + n) (17 + 10 * k))]) := q4_7
  have m_17 : (20 + n, 14 + 10 * k) ∈ RL := hm_7 4 (by omega)
  have c_18 : E (20 + n) (15 + 10 * k) = .inl (kA 0, 6, .inl g2_7) := q5_7
  have m_19 : (20 + n, 15 + 10 * k) ∈ RL := hm_7 5 (by omega)
  have c_20 : E (20 + n) (16 + 10 * k) = .inl (kA 0, 6, .inl g3_7) := q6_7
  have m_21 : (20 + n, 16 + 10 * k) ∈ RL := hm_7 6 (by omega)
  have c_22 : E (20 + n) (17 + 10 * k) = .inl (kA 0, 6, .inl g4_7) := q7_7
  have m_23 : (20 + n, 17 + 10 * k) ∈ RL := hm_7 7 (by omega)
  have hdm_7 : mdv g n k = d_7 := by
    obtain ⟨dz, hdz, h21z, hvz⟩ := tmd_1 k (by omega)
    rw [c_8] at hvz
    have ez := (rp_inj hD ((hDIs d_7 hd_7).1 0 (by omega)) ((hDIs dz hdz).1 0 (by omega)) (Value.ref.inj hvz)).1
    unfold mdv
    rw [h21z, iN_nI (by omega)]; omega
  obtain ⟨hm_24, fd_24, nm_24, sd_24, k0_24, k1_24, k2_24, k3_24, f0_24, f1_24, f2_24, f3_24, fe_24, fo_24, tr_24, op_24, hk0_24, hk1_24, hk2_24, hk3_24, q0_24, q1_24, q2_24, q3_24, q4_24, q5_24, q6_24, q7_24, q8_24, q9_24, q10_24, q11_24, q12_24, hg_24⟩ := id (hDIs d_7 (by omega))
  have c_25 : E (1 + d_7) 0 = .inr (7, [.int (nI d_7), .int fd_24, .int nm_24, .ref (ad (1 + d_7) 1), .ref (ad (1 + d_7) 9), .ref (ad (1 + d_7) 10), .ref (ad (1 + d_7) 2), .ref (ad (1 + d_7) 11), .ref (ad (1 + d_7) 12), .ref (ad (1 + d_7) 3), .ref (ad (1 + d_7) 4), .int sd_24]) := q0_24
  have m_26 : (1 + d_7, 0) ∈ RL := hm_24 0 (by omega)
  have c_27 : E (1 + d_7) 1 = .inr (8, [.ref (ad (1 + d_7) 5), .int (nI k0_24)]) := q1_24
  have m_28 : (1 + d_7, 1) ∈ RL := hm_24 1 (by omega)
  have c_29 : E (1 + d_7) 2 = .inr (8, [.ref (ad (1 + d_7) 6), .int (nI k1_24)]) := q2_24
  have m_30 : (1 + d_7, 2) ∈ RL := hm_24 2 (by omega)
  have c_31 : E (1 + d_7) 3 = .inr (8, [.ref (ad (1 + d_7) 7), .int (nI k2_24)]) := q3_24
  have m_32 : (1 + d_7, 3) ∈ RL := hm_24 3 (by omega)
  have c_33 : E (1 + d_7) 4 = .inr (8, [.ref (ad (1 + d_7) 8), .int (nI k3_24)]) := q4_24
  have m_34 : (1 + d_7, 4) ∈ RL := hm_24 4 (by omega)
  have c_35 : E (1 + d_7) 5 = .inl (kA 0, 6, .inl f0_24) := q5_24
  have m_36 : (1 + d_7, 5) ∈ RL := hm_24 5 (by omega)
  have c_37 : E (1 + d_7) 6 = .inl (kA 0, 5, .inl f1_24) := q6_24
  have m_38 : (1 + d_7, 6) ∈ RL := hm_24 6 (by omega)
  have c_39 : E (1 + d_7) 7 = .inl (kA 0, 3, .inl f2_24) := q7_24
  have m_40 : (1 + d_7, 7) ∈ RL := hm_24 7 (by omega)
  have c_41 : E (1 + d_7) 8 = .inl (kA 0, 3, .inl f3_24) := q8_24
  have m_42 : (1 + d_7, 8) ∈ RL := hm_24 8 (by omega)
  have c_43 : E (1 + d_7) 9 = .inl (kA 8, 6, .inr (.inr (.inr (.inr fe_24)))) := q9_24
  have m_44 : (1 + d_7, 9) ∈ RL := hm_24 9 (by omega)
  have c_45 : E (1 + d_7) 10 = .inl (kA 8, 6, .inr (.inr (.inr (.inr fo_24)))) := q10_24
  have m_46 : (1 + d_7, 10) ∈ RL := hm_24 10 (by omega)
  have c_47 : E (1 + d_7) 11 = .inl (kA 2, 5, .inl tr_24) := q11_24
  have m_48 : (1 + d_7, 11) ∈ RL := hm_24 11 (by omega)
  have c_49 : E (1 + d_7) 12 = .inl (kA 2, 5, .inl op_24) := q12_24
  have m_50 : (1 + d_7, 12) ∈ RL := hm_24 12 (by omega)
  have hg_24 : ∀ w9, w9 < k0_24 → fe_24 w9 = some (ad (1 + d_7) (20 + 3 * w9)) ∧ fo_24 w9 = some (ad (1 + d_7) (38 + 3 * w9)) ∧ GI kA (ad (1 + d_7)) (E (1 + d_7)) (fun o => (1 + d_7, o) ∈ RL) (20 + 3 * w9) (21 + 3 * w9) (22 + 3 * w9) ∧ GI kA (ad (1 + d_7)) (E (1 + d_7)) (fun o => (1 + d_7, o) ∈ RL) (38 + 3 * w9) (39 + 3 * w9) (40 + 3 * w9) := hg_24
  obtain ⟨hTT_24, tgr_24⟩ := TD_get hk0_24 hk1_24 hk2_24 hk3_24 c_25 c_27 c_29 c_31 c_33 c_35 c_37 c_39 c_41 c_47 c_49 (hTD d_7 (by omega))
  obtain ⟨tfd_24, tnm_24, tsd_24, tk0_24, tf0_24, tk1_24, tf1_24, tk2_24, tk3_24⟩ := id hTT_24
  have ik0_24 : iN (g 5 d_7) = k0_24 := by rw [← tk0_24, iN_nI (by omega)]
  have ik1_24 : iN (g 12 d_7) = k1_24 := by rw [← tk1_24, iN_nI (by omega)]
  have hrow : ∀ t, RWb E n k t ↔ BS g4_7 t := fun t => by unfold RWb; rw [c_22]; rfl
  have hrd0 : ¬ nm_24 = 0 := by rw [tnm_24]; exact hNZ _ hd_7
  refine lv_aload_n hx hb xd_Me_sourceOf_0 rfl (lv_at hl 0 rfl) ?_
  refine px_get (D := D) (ci := 6) (v := .ref (ad (20 + n) 0)) (C := xR_Me) (T := xT_Me) (N := 6) hx hb hT xi_Me hown hK.1 hP m_9 c_8 rfl 0 (by decide) (hT _ k5x_0) (fun _ h9 => h9) rfl xd_Me_sourceOf_1 ?_
  refine lv_astore_n hx hb xd_Me_sourceOf_4 rfl hl (Nat.le_of_ble_eq_true rfl) rfl (fun ls hl => ?_)
  have hl : lv_has ls 5 [(2, .ref (ad (20 + n) 0)), (0, .ref (ad (20 + n) (10 + 10 * k))), (1, .int pn)] := hl
  refine xlab (σ := Nat) (ml := 5) 5 (fun (y : Nat) => [(2, (lyv ad y)), (0, .ref (ad (20 + n) (10 + 10 * k))), (1, .int pn)]) (fun (y : Nat) => []) (fun (y : Nat) => rp ad E RL) (fun (y : Nat) => (y ≤ n + 1) ∧ (srG g (RWb E n k) pn (g 4 (mdv g n k)) (n + 1) = srG g (RWb E n k) pn (g 4 (mdv g n k)) y)) (fun (y : Nat) => y) ?_ (n + 1) _ _ _ (lv_sub hl [0, 1, 2] rfl) hP hD hS ⟨(show (n + 1) ≤ n + 1 from by first | assumption | omega), (show srG g (RWb E n k) pn (g 4 (mdv g n k)) (n + 1) = srG g (RWb E n k) pn (g 4 (mdv g n k)) (n + 1) from rfl)⟩
  intro n9 ih51 a9 ls H locs hμ hl hP hD hS hI
  subst hμ
  obtain ⟨y, rfl⟩ : ∃ z, z = a9 := ⟨_, rfl⟩
  obtain ⟨hy, hsr⟩ := hI
  have hy : y ≤ n + 1 := hy
  have hsr : srG g (RWb E n k) pn (g 4 (mdv g n k)) (n + 1) = srG g (RWb E n k) pn (g 4 (mdv g n k)) y := hsr
  have hl : lv_has ls 5 [(2, (lyv ad y)), (0, .ref (ad (20 + n) (10 + 10 * k))), (1, .int pn)] := hl
  have hP : va_P D xcl (rp ad E RL) H := hP
  have hD : va_D A (rp ad E RL) := hD
  rcases y with _ | y
  · have hl : lv_has ls 5 [(2, .null), (0, .ref (ad (20 + n) (10 + 10 * k))), (1, .int pn)] := hl
    refine lv_aload_nN hx hb xd_Me_sourceOf_5 rfl (lv_at hl 0 rfl) ?_
    refine lv_ifnullN (tgt := 76) hx hb xd_Me_sourceOf_6 (by decide) ?_
    refine lv_null hx hb xd_Me_sourceOf_76 ?_
    exact W.aret (v := .null) hx hb hr (Or.inl ⟨_, rfl⟩) (Or.inl rfl) (fun t ht hW => ⟨⟨none, (), rfl, Or.inl ⟨rfl, by rw [hsr]; rfl⟩, by rw [ht]; exact hP, hD⟩, hS.F ht⟩) hS.2.2 xd_Me_sourceOf_77
  · have hl : lv_has ls 5 [(2, .ref (ad (20 + y) 0)), (0, .ref (ad (20 + n) (10 + 10 * k))), (1, .int pn)] := hl
    refine lv_aload_n hx hb xd_Me_sourceOf_5 rfl (lv_at hl 0 rfl) ?_
    refine lv_ifnull hx hb xd_Me_sourceOf_6 ?_
    refine lv_iconst (v := 0) hx hb xd_Me_sourceOf_9 (by decide) ?_
    refine lv_istore_n hx hb xd_Me_sourceOf_10 rfl hl (Nat.le_of_ble_eq_true rfl) rfl (fun ls hl => ?_)
    have hl : lv_has ls 5 [(3, .int 0), (2, .ref (ad (20 + y) 0)), (0, .ref (ad (20 + n) (10 + 10 * k))), (1, .int pn)] := hl
    obtain ⟨m0_52, m1_52, pv_52, op_52, mk_52, fm_52, hmk_52, hpv_52, q0_52, q1_52, hk_52⟩ := id (hLIs y (by omega))
    have c_53 : E (20 + y) 0 = .inr (5, [.int (nI y), pv_52, .ref (ad (20 + y) 1), .int op_52]) := q0_52
    have m_54 : (20 + y, 0) ∈ RL := m0_52
    have c_55 : E (20 + y) 1 = .inl (kA 6, mk_52, .inr (.inr (.inr (.inr fm_52)))) := q1_52
    have m_56 : (20 + y, 1) ∈ RL := m1_52
    obtain ⟨top_52, ⟨lq_52, hlq_52, h19_52, hpv2_52⟩, h20_52, tmd_52⟩ := TLa_get c_53 c_55 (hTL y (by omega))
    have c_57 : E (20 + y) 0 = .inr (5, [.int (nI y), (lyv ad lq_52), .ref (ad (20 + y) 1), .int op_52]) := by rw [← hpv2_52]; exact c_53
    have i20_52 : iN (g 20 y) = mk_52 := by rw [h20_52, iN_nI (by omega)]
    refine xlab (σ := Nat) (ml := 5) 11 (fun (k2 : Nat) => [(3, .int (nI k2)), (2, .ref (ad (20 + y) 0)), (0, .ref (ad (20 + n) (10 + 10 * k))), (1, .int pn)]) (fun (k2 : Nat) => []) (fun (k2 : Nat) => rp ad E RL) (fun (k2 : Nat) => (k2 ≤ mk_52) ∧ (∀ j8, j8 < k2 → ¬ SRT g (RWb E n k) pn (g 4 (mdv g n k)) y j8)) (fun (k2 : Nat) => mk_52 - k2) ?_ 0 _ _ _ (lv_sub hl [0, 1, 2, 3] rfl) hP hD hS ⟨(show 0 ≤ mk_52 from by first | assumption | omega), (show ∀ j8, j8 < 0 → ¬ SRT g (RWb E n k) pn (g 4 (mdv g n k)) y j8 from fun j hj => absurd hj (by omega))⟩
    intro n9 ih58 a9 ls H locs hμ hl hP hD hS hI
    subst hμ
    obtain ⟨k2, rfl⟩ : ∃ z, z = a9 := ⟨_, rfl⟩
    obtain ⟨hk2, hno⟩ := hI
    have hk2 : k2 ≤ mk_52 := hk2
    have hno : ∀ j8, j8 < k2 → ¬ SRT g (RWb E n k) pn (g 4 (mdv g n k)) y j8 := hno
    have hl : lv_has ls 5 [(3, .int (nI k2)), (2, .ref (ad (20 + y) 0)), (0, .ref (ad (20 + n) (10 + 10 * k))), (1, .int pn)] := hl
    have hP : va_P D xcl (rp ad E RL) H := hP
    have hD : va_D A (rp ad E RL) := hD
    refine lv_iload_n hx hb xd_Me_sourceOf_11 rfl (lv_at hl 0 rfl) ?_
    refine lv_aload_n hx hb xd_Me_sourceOf_12 rfl (lv_at hl 1 rfl) ?_
    refine px_get (D := D) (ci := 5) (v := .ref (ad (20 + y) 1)) (C := xR_Ly) (T := xT_Ly) (N := 4) hx hb hT xi_Ly hown hK.1 hP m_54 c_57 rfl 2 (by decide) (hT _ k5x_1) (fun _ h9 => h9) rfl xd_Me_sourceOf_13 ?_
    refine px_alen hx hb hK.1 hP m_56 c_55 6 rfl xd_Me_sourceOf_16 ?_
    refine W.eq (g2 := F0 m 17 ls [.int (nI mk_52), .int (nI k2)]) rfl ?_
    refine xn_ge (a := k2) (b := mk_52) (tgt := 68) hx hb xd_Me_sourceOf_17 (by decide) (by omega) (by omega) (fun hc59 => ?_) (fun hc59 => ?_)
    · refine lv_aload_n hx hb xd_Me_sourceOf_68 rfl (lv_at hl 1 rfl) ?_
      refine px_get (D := D) (ci := 5) (v := (lyv ad lq_52)) (C := xR_Ly) (T := xT_Ly) (N := 4) hx hb hT xi_Ly hown hK.1 hP m_54 c_57 rfl 1 (by decide) (hT _ k5x_2) (fun _ h9 => h9) rfl xd_Me_sourceOf_69 ?_
      rcases (show lq_52 = 0 ∨ ∃ yq, lq_52 = yq + 1 from by rcases Nat.eq_zero_or_pos lq_52 with q | q; exact Or.inl q; exact Or.inr ⟨lq_52 - 1, by omega⟩) with hyq | ⟨yq, hyq⟩
      · refine W.eq (g2 := F0 m 72 ls [.null]) (by rw [lyv_0 hyq]) ?_
        refine lv_astore_nN hx hb xd_Me_sourceOf_72 rfl hl (Nat.le_of_ble_eq_true rfl) rfl (fun ls hl => ?_)
        have hl : lv_has ls 5 [(2, .null), (3, .int (nI k2)), (0, .ref (ad (20 + n) (10 + 10 * k))), (1, .int pn)] := hl
        refine lv_goto (tgt := 5) hx hb xd_Me_sourceOf_73 (by decide) ?_
        exact ih51 0 _ _ _ (show 0 < y + 1 by omega) (lv_sub hl [0, 2, 3] rfl) hP hD hS ⟨(show 0 ≤ n + 1 from by first | assumption | omega), (show srG g (RWb E n k) pn (g 4 (mdv g n k)) (n + 1) = srG g (RWb E n k) pn (g 4 (mdv g n k)) 0 from hsr.trans ((srU_miss (fun x hx => prv_T hnL hTL x (by omega)) (fun j hj => hno j (by
        unfold mcv at hj
        rw [h20_52, iN_nI (by omega)] at hj
        omega))).trans (by rw [prv_of h19_52 (by omega), hyq]; rfl)))⟩
      · refine W.eq (g2 := F0 m 72 ls [.ref (ad (20 + yq) 0)]) (by rw [lyv_s hyq]) ?_
        refine lv_astore_n hx hb xd_Me_sourceOf_72 rfl hl (Nat.le_of_ble_eq_true rfl) rfl (fun ls hl => ?_)
        have hl : lv_has ls 5 [(2, .ref (ad (20 + yq) 0)), (3, .int (nI k2)), (0, .ref (ad (20 + n) (10 + 10 * k))), (1, .int pn)] := hl
        refine lv_goto (tgt := 5) hx hb xd_Me_sourceOf_73 (by decide) ?_
        exact ih51 (yq + 1) _ _ _ (show (yq + 1) < y + 1 by omega) (lv_sub hl [0, 2, 3] rfl) hP hD hS ⟨(show (yq + 1) ≤ n + 1 from by first | assumption | omega), (show srG g (RWb E n k) pn (g 4 (mdv g n k)) (n + 1) = srG g (RWb E n k) pn (g 4 (mdv g n k)) (yq + 1) from hsr.trans ((srU_miss (fun x hx => prv_T hnL hTL x (by omega)) (fun j hj => hno j (by
        unfold mcv at hj
        rw [h20_52, iN_nI (by omega)] at hj
        omega))).trans (by rw [prv_of h19_52 (by omega), hyq]; rfl)))⟩
    · refine lv_aload_n hx hb xd_Me_sourceOf_20 rfl (lv_at hl 1 rfl) ?_
      refine px_get (D := D) (ci := 5) (v := .ref (ad (20 + y) 1)) (C := xR_Ly) (T := xT_Ly) (N := 4) hx hb hT xi_Ly hown hK.1 hP m_54 c_57 rfl 2 (by decide) (hT _ k5x_1) (fun _ h9 => h9) rfl xd_Me_sourceOf_21 ?_
      refine lv_iload_n hx hb xd_Me_sourceOf_24 rfl (lv_at hl 0 rfl) ?_
      refine px_aald (i := k2) (x := (some (ad (20 + y) (10 + 10 * k2)))) hx hb hK.1 hP m_56 c_55 6 rfl ((hk_52 k2 (by omega)).1) (by omega) (by omega) xd_Me_sourceOf_25 ?_
      refine lv_astore hx hb xd_Me_sourceOf_26 hl (Nat.le_of_ble_eq_true rfl) rfl (fun ls hl => ?_)
      have hl : lv_has ls 5 [(4, .ref (ad (20 + y) (10 + 10 * k2))), (3, .int (nI k2)), (2, .ref (ad (20 + y) 0)), (0, .ref (ad (20 + n) (10 + 10 * k))), (1, .int pn)] := hl
      refine lv_aload_n hx hb xd_Me_sourceOf_28 rfl (lv_at hl 3 rfl) ?_
      refine px_get (D := D) (ci := 6) (v := .ref (ad (20 + n) (14 + 10 * k))) (C := xR_Me) (T := xT_Me) (N := 6) hx hb hT xi_Me hown hK.1 hP m_9 c_8 rfl 5 (by decide) (hT _ k5x_3) (fun _ h9 => h9) rfl xd_Me_sourceOf_29 ?_
      refine lv_aload hx hb xd_Me_sourceOf_32 (lv_at hl 0 rfl) ?_
      obtain ⟨hm_60, d_60, rs_60, fr_60, g2_60, g3_60, g4_60, hd_60, hrs_60, q0_60, q1_60, q2_60, q3_60, q4_60, q5_60, q6_60, q7_60⟩ := (hk_52 k2 (by omega)).2
      have c_61 : E (20 + y) (10 + 10 * k2) = .inr (6, [.ref (ad (20 + y) 0), .ref (ad (1 + d_60) 0), .ref (ad (20 + y) (11 + 10 * k2)), .ref (ad (20 + y) (12 + 10 * k2)), .ref (ad (20 + y) (13 + 10 * k2)), .ref (ad (20 + y) (14 + 10 * k2))]) := q0_60
      have m_62 : (20 + y, 10 + 10 * k2) ∈ RL := hm_60 0 (by omega)
      have c_63 : E (20 + y) (11 + 10 * k2) = .inl (kA 6, rs_60, .inr (.inr (.inr (.inr fr_60)))) := q1_60
      have m_64 : (20 + y, 11 + 10 * k2) ∈ RL := hm_60 1 (by omega)
      have c_65 : E (20 + y) (12 + 10 * k2) = .inr (10, [.ref (ad (20 + y) (15 + 10 * k2))]) := q2_60
      have m_66 : (20 + y, 12 + 10 * k2) ∈ RL := hm_60 2 (by omega)
      have c_67 : E (20 + y) (13 + 10 * k2) = .inr (10, [.ref (ad (20 + y) (16 + 10 * k2))]) := q3_60
      have m_68 : (20 + y, 13 + 10 * k2) ∈ RL := hm_60 3 (by omega)
      have c_69 : E (20 + y) (14 + 10 * k2) = .inr (10, [.ref (ad (20 + y) (17 + 10 * k2))]) := q4_60
      have m_70 : (20 + y, 14 + 10 * k2) ∈ RL := hm_60 4 (by omega)
      have c_71 : E (20 + y) (15 + 10 * k2) = .inl (kA 0, 6, .inl g2_60) := q5_60
      have m_72 : (20 + y, 15 + 10 * k2) ∈ RL := hm_60 5 (by omega)
      have c_73 : E (20 + y) (16 + 10 * k2) = .inl (kA 0, 6, .inl g3_60) := q6_60
      have m_74 : (20 + y, 16 + 10 * k2) ∈ RL := hm_60 6 (by omega)
      have c_75 : E (20 + y) (17 + 10 * k2) = .inl (kA 0, 6, .inl g4_60) := q7_60
      have m_76 : (20 + y, 17 + 10 * k2) ∈ RL := hm_60 7 (by omega)
      have hdm_60 : mdv g y k2 = d_60 := by
        obtain ⟨dz, hdz, h21z, hvz⟩ := tmd_52 k2 (by omega)
        rw [c_61] at hvz
        have ez := (rp_inj hD ((hDIs d_60 hd_60).1 0 (by omega)) ((hDIs dz hdz).1 0 (by omega)) (Value.ref.inj hvz)).1
        unfold mdv
        rw [h21z, iN_nI (by omega)]; omega
      obtain ⟨hm_77, fd_77, nm_77, sd_77, k0_77, k1_77, k2_77, k3_77, f0_77, f1_77, f2_77, f3_77, fe_77, fo_77, tr_77, op_77, hk0_77, hk1_77, hk2_77, hk3_77, q0_77, q1_77, q2_77, q3_77, q4_77, q5_77, q6_77, q7_77, q8_77, q9_77, q10_77, q11_77, q12_77, hg_77⟩ := id (hDIs d_60 (by omega))
      have c_78 : E (1 + d_60) 0 = .inr (7, [.int (nI d_60), .int fd_77, .int nm_77, .ref (ad (1 + d_60) 1), .ref (ad (1 + d_60) 9), .ref (ad (1 + d_60) 10), .ref (ad (1 + d_60) 2), .ref (ad (1 + d_60) 11), .ref (ad (1 + d_60) 12), .ref (ad (1 + d_60) 3), .ref (ad (1 + d_60) 4), .int sd_77]) := q0_77
      have m_79 : (1 + d_60, 0) ∈ RL := hm_77 0 (by omega)
      have c_80 : E (1 + d_60) 1 = .inr (8, [.ref (ad (1 + d_60) 5), .int (nI k0_77)]) := q1_77
      have m_81 : (1 + d_60, 1) ∈ RL := hm_77 1 (by omega)
      have c_82 : E (1 + d_60) 2 = .inr (8, [.ref (ad (1 + d_60) 6), .int (nI k1_77)]) := q2_77
      have m_83 : (1 + d_60, 2) ∈ RL := hm_77 2 (by omega)
      have c_84 : E (1 + d_60) 3 = .inr (8, [.ref (ad (1 + d_60) 7), .int (nI k2_77)]) := q3_77
      have m_85 : (1 + d_60, 3) ∈ RL := hm_77 3 (by omega)
      have c_86 : E (1 + d_60) 4 = .inr (8, [.ref (ad (1 + d_60) 8), .int (nI k3_77)]) := q4_77
      have m_87 : (1 + d_60, 4) ∈ RL := hm_77 4 (by omega)
      have c_88 : E (1 + d_60) 5 = .inl (kA 0, 6, .inl f0_77) := q5_77
      have m_89 : (1 + d_60, 5) ∈ RL := hm_77 5 (by omega)
      have c_90 : E (1 + d_60) 6 = .inl (kA 0, 5, .inl f1_77) := q6_77
      have m_91 : (1 + d_60, 6) ∈ RL := hm_77 6 (by omega)
      have c_92 : E (1 + d_60) 7 = .inl (kA 0, 3, .inl f2_77) := q7_77
      have m_93 : (1 + d_60, 7) ∈ RL := hm_77 7 (by omega)
      have c_94 : E (1 + d_60) 8 = .inl (kA 0, 3, .inl f3_77) := q8_77
      have m_95 : (1 + d_60, 8) ∈ RL := hm_77 8 (by omega)
      have c_96 : E (1 + d_60) 9 = .inl (kA 8, 6, .inr (.inr (.inr (.inr fe_77)))) := q9_77
      have m_97 : (1 + d_60, 9) ∈ RL := hm_77 9 (by omega)
      have c_98 : E (1 + d_60) 10 = .inl (kA 8, 6, .inr (.inr (.inr (.inr fo_77)))) := q10_77
      have m_99 : (1 + d_60, 10) ∈ RL := hm_77 10 (by omega)
      have c_100 : E (1 + d_60) 11 = .inl (kA 2, 5, .inl tr_77) := q11_77
      have m_101 : (1 + d_60, 11) ∈ RL := hm_77 11 (by omega)
      have c_102 : E (1 + d_60) 12 = .inl (kA 2, 5, .inl op_77) := q12_77
      have m_103 : (1 + d_60, 12) ∈ RL := hm_77 12 (by omega)
      have hg_77 : ∀ w9, w9 < k0_77 → fe_77 w9 = some (ad (1 + d_60) (20 + 3 * w9)) ∧ fo_77 w9 = some (ad (1 + d_60) (38 + 3 * w9)) ∧ GI kA (ad (1 + d_60)) (E (1 + d_60)) (fun o => (1 + d_60, o) ∈ RL) (20 + 3 * w9) (21 + 3 * w9) (22 + 3 * w9) ∧ GI kA (ad (1 + d_60)) (E (1 + d_60)) (fun o => (1 + d_60, o) ∈ RL) (38 + 3 * w9) (39 + 3 * w9) (40 + 3 * w9) := hg_77
      obtain ⟨hTT_77, tgr_77⟩ := TD_get hk0_77 hk1_77 hk2_77 hk3_77 c_78 c_80 c_82 c_84 c_86 c_88 c_90 c_92 c_94 c_100 c_102 (hTD d_60 (by omega))
      obtain ⟨tfd_77, tnm_77, tsd_77, tk0_77, tf0_77, tk1_77, tf1_77, tk2_77, tk3_77⟩ := id hTT_77
      have ik0_77 : iN (g 5 d_60) = k0_77 := by rw [← tk0_77, iN_nI (by omega)]
      have ik1_77 : iN (g 12 d_60) = k1_77 := by rw [← tk1_77, iN_nI (by omega)]
      have hFc := px_free hD hS hA
      refine va_calli (va_runV (As := [.ref (ad (20 + y) (10 + 10 * k2))]) (rest := []) ⟨hx, hb, hml, hown, hT⟩ (xc_Re_marks l D kA H.size ad E RL (20 + n) (14 + 10 * k) (17 + 10 * k) g4_7 y k2 d_60 (lyv ad lq_52) op_52 fd_77 nm_77 sd_77 m_17 c_16 m_23 c_22 m_62 c_61 m_54 c_57 m_79 c_78 (by first | assumption | omega)) (cwV 1 hT (wT_V k5x_5 k5x_6 k5x_7 k5x_8 k5x_4) rfl rfl rfl (by decide +kernel) ⟨Nat.le_of_ble_eq_true rfl, Nat.le_of_ble_eq_true rfl⟩) (px_preV hK hP hD m_17 c_16 rfl) rfl rfl hl.1 rfl (lv_room (Nat.le_of_ble_eq_true rfl)) xd_Me_sourceOf_34 ⟨(Nat.le_of_ble_eq_true rfl), (Nat.le_of_ble_eq_true rfl)⟩) hS (fun q _ h => hFc q h) hFc (fun r104 u105 t H1 locs ht hvm hp106 hB hz1 hk1 hS => ?_)
      obtain ⟨hP1, hD1⟩ := hB
      rw [ht] at hP1
      have hD1 := hD1.weaken (fun _ _ _ h => hFc _ h)
      generalize H1 = H at hP1 hS ⊢
      have hP := hP1
      have hD := hD1
      have hP : va_P D xcl (rp ad E RL) H := hP
      have hD : va_D A (rp ad E RL) := hD
      rcases hp106 with ⟨rfl, z107⟩ | ⟨rfl, z108⟩
      · refine W.eq (g2 := F0 m 37 ls [.int 1]) rfl ?_
        refine lv_if_eq (tgt := 62) hx hb xd_Me_sourceOf_37 (by decide) (fun hc109 => absurd hc109 (by decide)) (fun _ => ?_)
        refine lv_aload hx hb xd_Me_sourceOf_40 (lv_at hl 0 rfl) ?_
        refine px_get (D := D) (ci := 6) (v := .ref (ad (1 + d_60) 0)) (C := xR_Me) (T := xT_Me) (N := 6) hx hb hT xi_Me hown hK.1 hP m_62 c_61 rfl 1 (by decide) (hT _ k5x_9) (fun _ h9 => h9) rfl xd_Me_sourceOf_42 ?_
        refine lv_iload_n hx hb xd_Me_sourceOf_45 rfl (lv_at hl 4 rfl) ?_
        refine lv_aload_n hx hb xd_Me_sourceOf_46 rfl (lv_at hl 3 rfl) ?_
        refine px_get (D := D) (ci := 6) (v := .ref (ad (1 + d_7) 0)) (C := xR_Me) (T := xT_Me) (N := 6) hx hb hT xi_Me hown hK.1 hP m_9 c_8 rfl 1 (by decide) (hT _ k5x_9) (fun _ h9 => h9) rfl xd_Me_sourceOf_47 ?_
        refine px_get (D := D) (ci := 7) (v := .int nm_24) (C := xR_Ds) (T := xT_Ds) (N := 12) hx hb hT xi_Ds hown hK.1 hP m_26 c_25 rfl 2 (by decide) (hT _ k5x_10) (fun _ h9 => h9) rfl xd_Me_sourceOf_50 ?_
        have hFc := px_free hD hS hA
        refine va_calli (va_runV (As := [.int pn, .int nm_24]) (rest := []) ⟨hx, hb, hml, hown, hT⟩ (xc_Ds_exportsToX l D kA H.size ad E RL g nd d_60 pn nm_24 (by first | assumption | omega) (by first | assumption | omega) (by first | assumption | omega) hrd0) (cwV 2 hT (wT_V k5x_12 k5x_13 k5x_14 k5x_15 k5x_11) rfl rfl rfl (by decide +kernel) ⟨Nat.le_of_ble_eq_true rfl, Nat.le_of_ble_eq_true rfl⟩) (px_preV hK hP hD m_79 c_78 rfl) rfl rfl hl.1 rfl (lv_room (Nat.le_of_ble_eq_true rfl)) xd_Me_sourceOf_53 ⟨(Nat.le_of_ble_eq_true rfl), (Nat.le_of_ble_eq_true rfl)⟩) hS (fun q _ h => hFc q h) hFc (fun r110 u111 t H1 locs ht hvm hp112 hB hz1 hk1 hS => ?_)
        obtain ⟨hP1, hD1⟩ := hB
        rw [ht] at hP1
        have hD1 := hD1.weaken (fun _ _ _ h => hFc _ h)
        generalize H1 = H at hP1 hS ⊢
        have hP := hP1
        have hD := hD1
        have hP : va_P D xcl (rp ad E RL) H := hP
        have hD : va_D A (rp ad E RL) := hD
        rcases hp112 with ⟨rfl, z113⟩ | ⟨rfl, z114⟩
        · refine W.eq (g2 := F0 m 56 ls [.int 1]) rfl ?_
          refine lv_if_eq (tgt := 62) hx hb xd_Me_sourceOf_56 (by decide) (fun hc115 => absurd hc115 (by decide)) (fun _ => ?_)
          refine lv_aload hx hb xd_Me_sourceOf_59 (lv_at hl 0 rfl) ?_
          exact W.aret (v := .ref (ad (20 + y) (10 + 10 * k2))) hx hb hr (Or.inl ⟨_, rfl⟩) (Or.inr ⟨_, rfl⟩) (fun t ht hW => ⟨⟨(some (ad (20 + y) (10 + 10 * k2))), (), rfl, Or.inr ⟨y, k2, by omega, rfl, (hk_52 k2 (by omega)).2, hsr.trans (srU_hit (by unfold mcv; rw [h20_52, iN_nI (by omega)]; omega) ⟨((hrow (12 * y + mdv g y k2)).trans (by rw [hdm_60]; exact (BS_marks (f := g4_7) (n := y) (d := d_60) (by omega)).symm)).mpr z107, (by rw [hdm_60, hdm_7, ← tnm_24]; exact z113)⟩ hno)⟩, by rw [ht]; exact hP, hD⟩, hS.F ht⟩) hS.2.2 xd_Me_sourceOf_61
        · refine W.eq (g2 := F0 m 56 ls [.int 0]) rfl ?_
          refine lv_if_eq (tgt := 62) hx hb xd_Me_sourceOf_56 (by decide) (fun _ => ?_) (fun hc116 => absurd (by decide) hc116)
          refine lv_iinc (k := 1) (x := (nI k2)) (v := (nI (k2 + 1))) hx hb xd_Me_sourceOf_62 hl rfl (xb_inc k2 1) (Nat.le_of_ble_eq_true rfl) rfl (fun ls hl => ?_)
          have hl : lv_has ls 5 [(3, .int (nI (k2 + 1))), (4, .ref (ad (20 + y) (10 + 10 * k2))), (2, .ref (ad (20 + y) 0)), (0, .ref (ad (20 + n) (10 + 10 * k))), (1, .int pn)] := hl
          refine lv_goto (tgt := 11) hx hb xd_Me_sourceOf_65 (by decide) ?_
          exact ih58 (k2 + 1) _ _ _ (show mk_52 - (k2 + 1) < mk_52 - k2 by omega) (lv_sub hl [0, 2, 3, 4] rfl) hP hD hS ⟨(show (k2 + 1) ≤ mk_52 from by first | assumption | omega), (show ∀ j8, j8 < (k2 + 1) → ¬ SRT g (RWb E n k) pn (g 4 (mdv g n k)) y j8 from fun j hj => by
        rcases Nat.lt_or_ge j k2 with z | z
        · exact hno j z
        · rw [show j = k2 by omega]; exact fun q => z114 (by
            have q2 := q.2
            rw [hdm_60, hdm_7, ← tnm_24] at q2
            exact q2))⟩
      · refine W.eq (g2 := F0 m 37 ls [.int 0]) rfl ?_
        refine lv_if_eq (tgt := 62) hx hb xd_Me_sourceOf_37 (by decide) (fun _ => ?_) (fun hc117 => absurd (by decide) hc117)
        refine lv_iinc (k := 1) (x := (nI k2)) (v := (nI (k2 + 1))) hx hb xd_Me_sourceOf_62 hl rfl (xb_inc k2 1) (Nat.le_of_ble_eq_true rfl) rfl (fun ls hl => ?_)
        have hl : lv_has ls 5 [(3, .int (nI (k2 + 1))), (4, .ref (ad (20 + y) (10 + 10 * k2))), (2, .ref (ad (20 + y) 0)), (0, .ref (ad (20 + n) (10 + 10 * k))), (1, .int pn)] := hl
        refine lv_goto (tgt := 11) hx hb xd_Me_sourceOf_65 (by decide) ?_
        exact ih58 (k2 + 1) _ _ _ (show mk_52 - (k2 + 1) < mk_52 - k2 by omega) (lv_sub hl [0, 2, 3, 4] rfl) hP hD hS ⟨(show (k2 + 1) ≤ mk_52 from by first | assumption | omega), (show ∀ j8, j8 < (k2 + 1) → ¬ SRT g (RWb E n k) pn (g 4 (mdv g n k)) y j8 from fun j hj => by
        rcases Nat.lt_or_ge j k2 with z | z
        · exact hno j z
        · rw [show j = k2 by omega]; exact fun q => absurd z108 (((hrow (12 * y + mdv g y k2)).trans (by rw [hdm_60]; exact (BS_marks (f := g4_7) (n := y) (d := d_60) (by omega)).symm)).mp q.1))⟩
theorem k5y_0 : (Cond.fieldLink "LayerDesk$Member" 21 "LayerDesk$Member" "reading" "LLayerDesk$Reach;") ∈ wT := wT_t (List.mem_append_right _ (List.mem_append_right _ (List.mem_append_left _ (List.mem_of_getElem? (i := 191) rfl)))) rfl
theorem k5y_1 : (Cond.code xy_Re_marks xb_Re_marks 2 (some .boolean)) ∈ wT := wT_t (List.mem_append_left _ (List.mem_of_getElem? (i := 177) rfl)) rfl
theorem k5y_2 : (Cond.methodLink "LayerDesk$Member" 78 xy_Re_marks) ∈ wT := wT_t (List.mem_append_right _ (List.mem_append_right _ (List.mem_append_right _ (List.mem_append_left _ (List.mem_of_getElem? (i := 16) rfl))))) rfl
theorem k5y_3 : (Cond.instanceMethod xy_Re_marks) ∈ wT := wT_t (List.mem_append_left _ (List.mem_of_getElem? (i := 175) rfl)) rfl
theorem k5y_4 : (Cond.selects "LayerDesk$Reach" xy_Re_marks xy_Re_marks) ∈ wT := wT_t (List.mem_append_left _ (List.mem_of_getElem? (i := 176) rfl)) rfl
theorem k5y_5 : (Cond.initialized "LayerDesk$Reach") ∈ wT := wT_t (List.mem_append_left _ (List.mem_of_getElem? (i := 21) rfl)) rfl
theorem k5y_6 : (Cond.fieldLink "LayerDesk$Member" 28 "LayerDesk$Member" "descriptor" "LLayerDesk$Descriptor;") ∈ wT := wT_t (List.mem_append_right _ (List.mem_append_right _ (List.mem_append_left _ (List.mem_of_getElem? (i := 181) rfl)))) rfl
theorem k5y_7 : (Cond.fieldLink "LayerDesk$Member" 92 "LayerDesk$Descriptor" "packages" "LLayerDesk$Names;") ∈ wT := wT_t (List.mem_append_right _ (List.mem_append_left _ (List.mem_of_getElem? (i := 61) rfl))) rfl
theorem k5y_8 : (Cond.fieldLink "LayerDesk$Member" 38 "LayerDesk$Names" "size" "I") ∈ wT := wT_t (List.mem_append_right _ (List.mem_append_left _ (List.mem_of_getElem? (i := 35) rfl))) rfl
theorem k5y_9 : (Cond.code xy_Na_at xb_Na_at 2 (some .int)) ∈ wT := wT_t (List.mem_append_right _ (List.mem_append_right _ (List.mem_append_left _ (List.mem_of_getElem? (i := 93) rfl)))) rfl
theorem k5y_10 : (Cond.methodLink "LayerDesk$Member" 47 xy_Na_at) ∈ wT := wT_t (List.mem_append_right _ (List.mem_append_right _ (List.mem_append_left _ (List.mem_of_getElem? (i := 216) rfl)))) rfl
theorem k5y_11 : (Cond.instanceMethod xy_Na_at) ∈ wT := wT_t (List.mem_append_right _ (List.mem_append_right _ (List.mem_append_left _ (List.mem_of_getElem? (i := 91) rfl)))) rfl
theorem k5y_12 : (Cond.selects "LayerDesk$Names" xy_Na_at xy_Na_at) ∈ wT := wT_t (List.mem_append_right _ (List.mem_append_right _ (List.mem_append_left _ (List.mem_of_getElem? (i := 92) rfl)))) rfl
theorem k5y_13 : (Cond.initialized "LayerDesk$Names") ∈ wT := wT_t (List.mem_append_left _ (List.mem_of_getElem? (i := 11) rfl)) rfl
theorem k5y_14 : (Cond.fieldLink "LayerDesk$Member" 82 "LayerDesk$Descriptor" "name" "I") ∈ wT := wT_t (List.mem_append_right _ (List.mem_append_left _ (List.mem_of_getElem? (i := 57) rfl))) rfl
theorem k5y_15 : (Cond.code xy_Ds_exportsTo xb_Ds_exportsTo 4 (some .boolean)) ∈ wT := wT_t (List.mem_append_right _ (List.mem_append_right _ (List.mem_append_right _ (List.mem_append_left _ (List.mem_of_getElem? (i := 20) rfl))))) rfl
theorem k5y_16 : (Cond.methodLink "LayerDesk$Member" 85 xy_Ds_exportsTo) ∈ wT := wT_t (List.mem_append_right _ (List.mem_append_right _ (List.mem_append_right _ (List.mem_append_left _ (List.mem_of_getElem? (i := 17) rfl))))) rfl
theorem k5y_17 : (Cond.instanceMethod xy_Ds_exportsTo) ∈ wT := wT_t (List.mem_append_right _ (List.mem_append_right _ (List.mem_append_right _ (List.mem_append_left _ (List.mem_of_getElem? (i := 18) rfl))))) rfl
theorem k5y_18 : (Cond.selects "LayerDesk$Descriptor" xy_Ds_exportsTo xy_Ds_exportsTo) ∈ wT := wT_t (List.mem_append_right _ (List.mem_append_right _ (List.mem_append_right _ (List.mem_append_left _ (List.mem_of_getElem? (i := 19) rfl))))) rfl
theorem k5y_19 : (Cond.initialized "LayerDesk$Descriptor") ∈ wT := wT_t (List.mem_append_left _ (List.mem_of_getElem? (i := 10) rfl)) rfl
theorem k5y_20 : (Cond.code xy_Na_holds xb_Na_holds 2 (some .boolean)) ∈ wT := wT_t (List.mem_append_right _ (List.mem_append_left _ (List.mem_of_getElem? (i := 123) rfl))) rfl
theorem k5y_21 : (Cond.methodLink "LayerDesk$Member" 95 xy_Na_holds) ∈ wT := wT_t (List.mem_append_right _ (List.mem_append_right _ (List.mem_append_right _ (List.mem_append_left _ (List.mem_of_getElem? (i := 22) rfl))))) rfl
theorem k5y_22 : (Cond.instanceMethod xy_Na_holds) ∈ wT := wT_t (List.mem_append_right _ (List.mem_append_left _ (List.mem_of_getElem? (i := 121) rfl))) rfl
theorem k5y_23 : (Cond.selects "LayerDesk$Names" xy_Na_holds xy_Na_holds) ∈ wT := wT_t (List.mem_append_right _ (List.mem_append_left _ (List.mem_of_getElem? (i := 122) rfl))) rfl
theorem k5y_24 : (Cond.code xy_Me_sourceOf xb_Me_sourceOf 5 (some (.object "LayerDesk$Member"))) ∈ wT := wT_t (List.mem_append_right _ (List.mem_append_right _ (List.mem_append_right _ (List.mem_append_left _ (List.mem_of_getElem? (i := 26) rfl))))) rfl
theorem k5y_25 : (Cond.methodLink "LayerDesk$Member" 99 xy_Me_sourceOf) ∈ wT := wT_t (List.mem_append_right _ (List.mem_append_right _ (List.mem_append_right _ (List.mem_append_left _ (List.mem_of_getElem? (i := 23) rfl))))) rfl
theorem k5y_26 : (Cond.instanceMethod xy_Me_sourceOf) ∈ wT := wT_t (List.mem_append_right _ (List.mem_append_right _ (List.mem_append_right _ (List.mem_append_left _ (List.mem_of_getElem? (i := 24) rfl))))) rfl
theorem k5y_27 : (Cond.selects "LayerDesk$Member" xy_Me_sourceOf xy_Me_sourceOf) ∈ wT := wT_t (List.mem_append_right _ (List.mem_append_right _ (List.mem_append_right _ (List.mem_append_left _ (List.mem_of_getElem? (i := 25) rfl))))) rfl
theorem k5y_28 : (Cond.initialized "LayerDesk$Member") ∈ wT := wT_t (List.mem_append_left _ (List.mem_of_getElem? (i := 20) rfl)) rfl
set_option maxHeartbeats 4000000 in
set_option maxRecDepth 100000 in
theorem xc_Me_isSplitByX (l : Launch) (D : va_G) (kA : Nat → ClassId) (sz : Nat) (ad : Nat → Nat → Nat) (E : Nat → Nat → va_E) (RL : List (Nat × Nat)) (g : Nat → Nat → Int32) (nd : Nat) (nL : Nat) (n : Nat) (k : Nat) (n2 : Nat) (k2 : Nat) (hDIs : DIs kA ad E RL nd) (hLIs : LIs kA ad E RL nd nL) (hnL : nL ≤ 6) (hn : n < nL) (hTD : TDs g E nd) (hTL : TLas g ad E nd nL) (hnd12 : nd ≤ 12) (hME : MEI kA ad E RL nd n k) (hkm : k < iN (g 20 n)) (hNZ : NZ g nd) (hn2 : n2 < nL) (hME2 : MEI kA ad E RL nd n2 k2) (hkm2 : k2 < iN (g 20 n2)) : Met l xy_Me_isSplitBy (.code xy_Me_isSplitBy xb_Me_isSplitBy 5 (some .boolean) :: wT) { frames := 4, cells := 0, slots := 0, locals := 90 } (va_Pc [.ref (ad (20 + n) (10 + 10 * k)), .ref (ad (20 + n2) (10 + 10 * k2))] (xPre D kA sz (rp ad E RL))) (va_Qi (fun (r : Int32) (u : Unit) => (r = 1 ∧ SB g (RWb E n k) n (mdv g n k) n2 k2) ∨ (r = 0 ∧ ¬ SB g (RWb E n k) n (mdv g n k) n2 k2)) (fun (u : Unit) t => va_P D xcl (rp ad E RL) t.heap ∧ va_D (va_A (rp ad E RL) sz) (rp ad E RL)) (va_A (rp ad E RL) sz)) 0 0 (va_A (rp ad E RL) sz) := by
  refine Met.ofW (cc := xb_Me_isSplitBy) (maxL := 5) (ret := (some .boolean)) (by decide) rfl ?_
  intro p e s m args below meth c s₁ B hml hv
  obtain ⟨rfl, hsz, hP, hK, hD0⟩ := hv
  have hx := B.exec
  have hb := B.bytes
  have hr := B.returns
  have hT := x_hT B.pre
  have hown : s.vm.findClass xR_Me = some m.cls := findClass_of_methodNamed B.named
  have hlocks := B.notSynchronized
  subst hsz
  have hD := hD0.self (sz := s.heap.size)
  generalize hAe : va_A (rp ad E RL) s.heap.size = A at hD ⊢
  have hA : ∀ q : Nat, s.heap.size ≤ q → A q := fun q h => by rw [← hAe]; exact Or.inr h
  have hS : va_S A s.heap s.heap [] := va_S.rf
  have hl := lv_entry ([.ref (ad (20 + n) (10 + 10 * k)), .ref (ad (20 + n2) (10 + 10 * k2))]) (n := 5) (Nat.le_of_ble_eq_true rfl)
  rw [lg_entry_eq]
  generalize (lg_sl ([.ref (ad (20 + n) (10 + 10 * k)), .ref (ad (20 + n2) (10 + 10 * k2))]) ++ List.replicate (5 - (lg_sl ([.ref (ad (20 + n) (10 + 10 * k)), .ref (ad (20 + n2) (10 + 10 * k2))])).length) Slot.unset).toArray = ls at hl ⊢
  have hl : lv_has ls 5 [(0, .ref (ad (20 + n) (10 + 10 * k))), (1, .ref (ad (20 + n2) (10 + 10 * k2)))] := hl
  have hP : va_P D xcl (rp ad E RL) s.heap := hP
  obtain ⟨m0_1, m1_1, pv_1, op_1, mk_1, fm_1, hmk_1, hpv_1, q0_1, q1_1, hk_1⟩ := id (hLIs n (by omega))
  have c_2 : E (20 + n) 0 = .inr (5, [.int (nI n), pv_1, .ref (ad (20 + n) 1), .int op_1]) := q0_1
  have m_3 : (20 + n, 0) ∈ RL := m0_1
  have c_4 : E (20 + n) 1 = .inl (kA 6, mk_1, .inr (.inr (.inr (.inr fm_1)))) := q1_1
  have m_5 : (20 + n, 1) ∈ RL := m1_1
  obtain ⟨top_1, ⟨lq_1, hlq_1, h19_1, hpv2_1⟩, h20_1, tmd_1⟩ := TLa_get c_2 c_4 (hTL n (by omega))
  have c_6 : E (20 + n) 0 = .inr (5, [.int (nI n), (lyv ad lq_1), .ref (ad (20 + n) 1), .int op_1]) := by rw [← hpv2_1]; exact c_2
  have i20_1 : iN (g 20 n) = mk_1 := by rw [h20_1, iN_nI (by omega)]
  have hkq : k < mk_1 := by have q := hkm; rw [i20_1] at q; exact q
  obtain ⟨hm_7, d_7, rs_7, fr_7, g2_7, g3_7, g4_7, hd_7, hrs_7, q0_7, q1_7, q2_7, q3_7, q4_7, q5_7, q6_7, q7_7⟩ := id hME
  have c_8 : E (20 + n) (10 + 10 * k) = .inr (6, [.ref (ad (20 + n) 0), .ref (ad (1 + d_7) 0), .ref (ad (20 + n) (11 + 10 * k)), .ref (ad (20 + n) (12 + 10 * k)), .ref (ad (20 + n) (13 + 10 * k)), .ref (ad (20 + n) (14 + 10 * k))]) := q0_7
  have m_9 : (20 + n, 10 + 10 * k) ∈ RL := hm_7 0 (by omega)
  have c_10 : E (20 + n) (11 + 10 * k) = .inl (kA 6, rs_7, .inr (.inr (.inr (.inr fr_7)))) := q1_7
  have m_11 : (20 + n, 11 + 10 * k) ∈ RL := hm_7 1 (by omega)
  have c_12 : E (20 + n) (12 + 10 * k) = .inr (10, [.ref (ad (20 + n) (15 + 10 * k))]) := q2_7
  have m_13 : (20 + n, 12 + 10 * k) ∈ RL := hm_7 2 (by omega)
  have c_14 : E (20 + n) (13 + 10 * k) = .inr (10, [.ref (ad (20 + n) (16 + 10 * k))]) := q3_7
  have m_15 : (20 + n, 13 + 10 * k) ∈ RL := hm_7 3 (by omega)
  have c_16 : E (20 + n) (14 + 10 * k) = .inr (10, [.ref (ad (20 + n) (17 + 10 * k))]) := q4_7
  have m_17 : (20 + n, 14 + 10 * k) ∈ RL := hm_7 4 (by omega)
  have c_18 : E (20 + n) (15 + 10 * k) = .inl (kA 0, 6, .inl g2_7) := q5_7
  have m_19 : (20 + n, 15 + 10 * k) ∈ RL := hm_7 5 (by omega)
  have c_20 : E (20 + n) (16 + 10 * k) = .inl (kA 0, 6, .inl g3_7) := q6_7
  have m_21 : (20 + n, 16 + 10 * k) ∈ RL := hm_7 6 (by omega)
  have c_22 : E (20 + n) (17 + 10 * k) = .inl (kA 0, 6, .inl g4_7) := q7_7
  have m_23 : (20 + n, 17 + 10 * k) ∈ RL := hm_7 7 (by omega)
  have hdm_7 : mdv g n k = d_7 := by
    obtain ⟨dz, hdz, h21z, hvz⟩ := tmd_1 k (by omega)
    rw [c_8] at hvz
    have ez := (rp_inj hD ((hDIs d_7 hd_7).1 0 (by omega)) ((hDIs dz hdz).1 0 (by omega)) (Value.ref.inj hvz)).1
    unfold mdv
    rw [h21z, iN_nI (by omega)]; omega
  obtain ⟨hm_24, fd_24, nm_24, sd_24, k0_24, k1_24, k2_24, k3_24, f0_24, f1_24, f2_24, f3_24, fe_24, fo_24, tr_24, op_24, hk0_24, hk1_24, hk2_24, hk3_24, q0_24, q1_24, q2_24, q3_24, q4_24, q5_24, q6_24, q7_24, q8_24, q9_24, q10_24, q11_24, q12_24, hg_24⟩ := id (hDIs d_7 (by omega))
  have c_25 : E (1 + d_7) 0 = .inr (7, [.int (nI d_7), .int fd_24, .int nm_24, .ref (ad (1 + d_7) 1), .ref (ad (1 + d_7) 9), .ref (ad (1 + d_7) 10), .ref (ad (1 + d_7) 2), .ref (ad (1 + d_7) 11), .ref (ad (1 + d_7) 12), .ref (ad (1 + d_7) 3), .ref (ad (1 + d_7) 4), .int sd_24]) := q0_24
  have m_26 : (1 + d_7, 0) ∈ RL := hm_24 0 (by omega)
  have c_27 : E (1 + d_7) 1 = .inr (8, [.ref (ad (1 + d_7) 5), .int (nI k0_24)]) := q1_24
  have m_28 : (1 + d_7, 1) ∈ RL := hm_24 1 (by omega)
  have c_29 : E (1 + d_7) 2 = .inr (8, [.ref (ad (1 + d_7) 6), .int (nI k1_24)]) := q2_24
  have m_30 : (1 + d_7, 2) ∈ RL := hm_24 2 (by omega)
  have c_31 : E (1 + d_7) 3 = .inr (8, [.ref (ad (1 + d_7) 7), .int (nI k2_24)]) := q3_24
  have m_32 : (1 + d_7, 3) ∈ RL := hm_24 3 (by omega)
  have c_33 : E (1 + d_7) 4 = .inr (8, [.ref (ad (1 + d_7) 8), .int (nI k3_24)]) := q4_24
  have m_34 : (1 + d_7, 4) ∈ RL := hm_24 4 (by omega)
  have c_35 : E (1 + d_7) 5 = .inl (kA 0, 6, .inl f0_24) := q5_24
  have m_36 : (1 + d_7, 5) ∈ RL := hm_24 5 (by omega)
  have c_37 : E (1 + d_7) 6 = .inl (kA 0, 5, .inl f1_24) := q6_24
  have m_38 : (1 + d_7, 6) ∈ RL := hm_24 6 (by omega)
  have c_39 : E (1 + d_7) 7 = .inl (kA 0, 3, .inl f2_24) := q7_24
  have m_40 : (1 + d_7, 7) ∈ RL := hm_24 7 (by omega)
  have c_41 : E (1 + d_7) 8 = .inl (kA 0, 3, .inl f3_24) := q8_24
  have m_42 : (1 + d_7, 8) ∈ RL := hm_24 8 (by omega)
  have c_43 : E (1 + d_7) 9 = .inl (kA 8, 6, .inr (.inr (.inr (.inr fe_24)))) := q9_24
  have m_44 : (1 + d_7, 9) ∈ RL := hm_24 9 (by omega)
  have c_45 : E (1 + d_7) 10 = .inl (kA 8, 6, .inr (.inr (.inr (.inr fo_24)))) := q10_24
  have m_46 : (1 + d_7, 10) ∈ RL := hm_24 10 (by omega)
  have c_47 : E (1 + d_7) 11 = .inl (kA 2, 5, .inl tr_24) := q11_24
  have m_48 : (1 + d_7, 11) ∈ RL := hm_24 11 (by omega)
  have c_49 : E (1 + d_7) 12 = .inl (kA 2, 5, .inl op_24) := q12_24
  have m_50 : (1 + d_7, 12) ∈ RL := hm_24 12 (by omega)
  have hg_24 : ∀ w9, w9 < k0_24 → fe_24 w9 = some (ad (1 + d_7) (20 + 3 * w9)) ∧ fo_24 w9 = some (ad (1 + d_7) (38 + 3 * w9)) ∧ GI kA (ad (1 + d_7)) (E (1 + d_7)) (fun o => (1 + d_7, o) ∈ RL) (20 + 3 * w9) (21 + 3 * w9) (22 + 3 * w9) ∧ GI kA (ad (1 + d_7)) (E (1 + d_7)) (fun o => (1 + d_7, o) ∈ RL) (38 + 3 * w9) (39 + 3 * w9) (40 + 3 * w9) := hg_24
  obtain ⟨hTT_24, tgr_24⟩ := TD_get hk0_24 hk1_24 hk2_24 hk3_24 c_25 c_27 c_29 c_31 c_33 c_35 c_37 c_39 c_41 c_47 c_49 (hTD d_7 (by omega))
  obtain ⟨tfd_24, tnm_24, tsd_24, tk0_24, tf0_24, tk1_24, tf1_24, tk2_24, tk3_24⟩ := id hTT_24
  have ik0_24 : iN (g 5 d_7) = k0_24 := by rw [← tk0_24, iN_nI (by omega)]
  have ik1_24 : iN (g 12 d_7) = k1_24 := by rw [← tk1_24, iN_nI (by omega)]
  have hrow : ∀ t, RWb E n k t ↔ BS g4_7 t := fun t => by unfold RWb; rw [c_22]; rfl
  have hrd0 : ¬ nm_24 = 0 := by rw [tnm_24]; exact hNZ _ hd_7
  obtain ⟨m0_51, m1_51, pv_51, op_51, mk_51, fm_51, hmk_51, hpv_51, q0_51, q1_51, hk_51⟩ := id (hLIs n2 (by omega))
  have c_52 : E (20 + n2) 0 = .inr (5, [.int (nI n2), pv_51, .ref (ad (20 + n2) 1), .int op_51]) := q0_51
  have m_53 : (20 + n2, 0) ∈ RL := m0_51
  have c_54 : E (20 + n2) 1 = .inl (kA 6, mk_51, .inr (.inr (.inr (.inr fm_51)))) := q1_51
  have m_55 : (20 + n2, 1) ∈ RL := m1_51
  obtain ⟨top_51, ⟨lq_51, hlq_51, h19_51, hpv2_51⟩, h20_51, tmd_51⟩ := TLa_get c_52 c_54 (hTL n2 (by omega))
  have c_56 : E (20 + n2) 0 = .inr (5, [.int (nI n2), (lyv ad lq_51), .ref (ad (20 + n2) 1), .int op_51]) := by rw [← hpv2_51]; exact c_52
  have i20_51 : iN (g 20 n2) = mk_51 := by rw [h20_51, iN_nI (by omega)]
  have hkq2 : k2 < mk_51 := by have q := hkm2; rw [i20_51] at q; exact q
  obtain ⟨hm_57, d_57, rs_57, fr_57, g2_57, g3_57, g4_57, hd_57, hrs_57, q0_57, q1_57, q2_57, q3_57, q4_57, q5_57, q6_57, q7_57⟩ := id hME2
  have c_58 : E (20 + n2) (10 + 10 * k2) = .inr (6, [.ref (ad (20 + n2) 0), .ref (ad (1 + d_57) 0), .ref (ad (20 + n2) (11 + 10 * k2)), .ref (ad (20 + n2) (12 + 10 * k2)), .ref (ad (20 + n2) (13 + 10 * k2)), .ref (ad (20 + n2) (14 + 10 * k2))]) := q0_57
  have m_59 : (20 + n2, 10 + 10 * k2) ∈ RL := hm_57 0 (by omega)
  have c_60 : E (20 + n2) (11 + 10 * k2) = .inl (kA 6, rs_57, .inr (.inr (.inr (.inr fr_57)))) := q1_57
  have m_61 : (20 + n2, 11 + 10 * k2) ∈ RL := hm_57 1 (by omega)
  have c_62 : E (20 + n2) (12 + 10 * k2) = .inr (10, [.ref (ad (20 + n2) (15 + 10 * k2))]) := q2_57
  have m_63 : (20 + n2, 12 + 10 * k2) ∈ RL := hm_57 2 (by omega)
  have c_64 : E (20 + n2) (13 + 10 * k2) = .inr (10, [.ref (ad (20 + n2) (16 + 10 * k2))]) := q3_57
  have m_65 : (20 + n2, 13 + 10 * k2) ∈ RL := hm_57 3 (by omega)
  have c_66 : E (20 + n2) (14 + 10 * k2) = .inr (10, [.ref (ad (20 + n2) (17 + 10 * k2))]) := q4_57
  have m_67 : (20 + n2, 14 + 10 * k2) ∈ RL := hm_57 4 (by omega)
  have c_68 : E (20 + n2) (15 + 10 * k2) = .inl (kA 0, 6, .inl g2_57) := q5_57
  have m_69 : (20 + n2, 15 + 10 * k2) ∈ RL := hm_57 5 (by omega)
  have c_70 : E (20 + n2) (16 + 10 * k2) = .inl (kA 0, 6, .inl g3_57) := q6_57
  have m_71 : (20 + n2, 16 + 10 * k2) ∈ RL := hm_57 6 (by omega)
  have c_72 : E (20 + n2) (17 + 10 * k2) = .inl (kA 0, 6, .inl g4_57) := q7_57
  have m_73 : (20 + n2, 17 + 10 * k2) ∈ RL := hm_57 7 (by omega)
  have hdm_57 : mdv g n2 k2 = d_57 := by
    obtain ⟨dz, hdz, h21z, hvz⟩ := tmd_51 k2 (by omega)
    rw [c_58] at hvz
    have ez := (rp_inj hD ((hDIs d_57 hd_57).1 0 (by omega)) ((hDIs dz hdz).1 0 (by omega)) (Value.ref.inj hvz)).1
    unfold mdv
    rw [h21z, iN_nI (by omega)]; omega
  obtain ⟨hm_74, fd_74, nm_74, sd_74, k0_74, k1_74, k2_74, k3_74, f0_74, f1_74, f2_74, f3_74, fe_74, fo_74, tr_74, op_74, hk0_74, hk1_74, hk2_74, hk3_74, q0_74, q1_74, q2_74, q3_74, q4_74, q5_74, q6_74, q7_74, q8_74, q9_74, q10_74, q11_74, q12_74, hg_74⟩ := id (hDIs d_57 (by omega))
  have c_75 : E (1 + d_57) 0 = .inr (7, [.int (nI d_57), .int fd_74, .int nm_74, .ref (ad (1 + d_57) 1), .ref (ad (1 + d_57) 9), .ref (ad (1 + d_57) 10), .ref (ad (1 + d_57) 2), .ref (ad (1 + d_57) 11), .ref (ad (1 + d_57) 12), .ref (ad (1 + d_57) 3), .ref (ad (1 + d_57) 4), .int sd_74]) := q0_74
  have m_76 : (1 + d_57, 0) ∈ RL := hm_74 0 (by omega)
  have c_77 : E (1 + d_57) 1 = .inr (8, [.ref (ad (1 + d_57) 5), .int (nI k0_74)]) := q1_74
  have m_78 : (1 + d_57, 1) ∈ RL := hm_74 1 (by omega)
  have c_79 : E (1 + d_57) 2 = .inr (8, [.ref (ad (1 + d_57) 6), .int (nI k1_74)]) := q2_74
  have m_80 : (1 + d_57, 2) ∈ RL := hm_74 2 (by omega)
  have c_81 : E (1 + d_57) 3 = .inr (8, [.ref (ad (1 + d_57) 7), .int (nI k2_74)]) := q3_74
  have m_82 : (1 + d_57, 3) ∈ RL := hm_74 3 (by omega)
  have c_83 : E (1 + d_57) 4 = .inr (8, [.ref (ad (1 + d_57) 8), .int (nI k3_74)]) := q4_74
  have m_84 : (1 + d_57, 4) ∈ RL := hm_74 4 (by omega)
  have c_85 : E (1 + d_57) 5 = .inl (kA 0, 6, .inl f0_74) := q5_74
  have m_86 : (1 + d_57, 5) ∈ RL := hm_74 5 (by omega)
  have c_87 : E (1 + d_57) 6 = .inl (kA 0, 5, .inl f1_74) := q6_74
  have m_88 : (1 + d_57, 6) ∈ RL := hm_74 6 (by omega)
  have c_89 : E (1 + d_57) 7 = .inl (kA 0, 3, .inl f2_74) := q7_74
  have m_90 : (1 + d_57, 7) ∈ RL := hm_74 7 (by omega)
  have c_91 : E (1 + d_57) 8 = .inl (kA 0, 3, .inl f3_74) := q8_74
  have m_92 : (1 + d_57, 8) ∈ RL := hm_74 8 (by omega)
  have c_93 : E (1 + d_57) 9 = .inl (kA 8, 6, .inr (.inr (.inr (.inr fe_74)))) := q9_74
  have m_94 : (1 + d_57, 9) ∈ RL := hm_74 9 (by omega)
  have c_95 : E (1 + d_57) 10 = .inl (kA 8, 6, .inr (.inr (.inr (.inr fo_74)))) := q10_74
  have m_96 : (1 + d_57, 10) ∈ RL := hm_74 10 (by omega)
  have c_97 : E (1 + d_57) 11 = .inl (kA 2, 5, .inl tr_74) := q11_74
  have m_98 : (1 + d_57, 11) ∈ RL := hm_74 11 (by omega)
  have c_99 : E (1 + d_57) 12 = .inl (kA 2, 5, .inl op_74) := q12_74
  have m_100 : (1 + d_57, 12) ∈ RL := hm_74 12 (by omega)
  have hg_74 : ∀ w9, w9 < k0_74 → fe_74 w9 = some (ad (1 + d_57) (20 + 3 * w9)) ∧ fo_74 w9 = some (ad (1 + d_57) (38 + 3 * w9)) ∧ GI kA (ad (1 + d_57)) (E (1 + d_57)) (fun o => (1 + d_57, o) ∈ RL) (20 + 3 * w9) (21 + 3 * w9) (22 + 3 * w9) ∧ GI kA (ad (1 + d_57)) (E (1 + d_57)) (fun o => (1 + d_57, o) ∈ RL) (38 + 3 * w9) (39 + 3 * w9) (40 + 3 * w9) := hg_74
  obtain ⟨hTT_74, tgr_74⟩ := TD_get hk0_74 hk1_74 hk2_74 hk3_74 c_75 c_77 c_79 c_81 c_83 c_85 c_87 c_89 c_91 c_97 c_99 (hTD d_57 (by omega))
  obtain ⟨tfd_74, tnm_74, tsd_74, tk0_74, tf0_74, tk1_74, tf1_74, tk2_74, tk3_74⟩ := id hTT_74
  have ik0_74 : iN (g 5 d_57) = k0_74 := by rw [← tk0_74, iN_nI (by omega)]
  have ik1_74 : iN (g 12 d_57) = k1_74 := by rw [← tk1_74, iN_nI (by omega)]
  refine lv_aload_n hx hb xd_Me_isSplitBy_0 rfl (lv_at hl 0 rfl) ?_
  refine px_get (D := D) (ci := 6) (v := .ref (ad (20 + n) (14 + 10 * k))) (C := xR_Me) (T := xT_Me) (N := 6) hx hb hT xi_Me hown hK.1 hP m_9 c_8 rfl 5 (by decide) (hT _ k5y_0) (fun _ h9 => h9) rfl xd_Me_isSplitBy_1 ?_
  refine lv_aload_n hx hb xd_Me_isSplitBy_4 rfl (lv_at hl 1 rfl) ?_
  have hFc := px_free hD hS hA
  refine va_calli (va_runV (As := [.ref (ad (20 + n2) (10 + 10 * k2))]) (rest := []) ⟨hx, hb, hml, hown, hT⟩ (xc_Re_marks l D kA s.heap.size ad E RL (20 + n) (14 + 10 * k) (17 + 10 * k) g4_7 n2 k2 d_57 (lyv ad lq_51) op_51 fd_74 nm_74 sd_74 m_17 c_16 m_23 c_22 m_59 c_58 m_53 c_56 m_76 c_75 (by first | assumption | omega)) (cwV 1 hT (wT_V k5y_2 k5y_3 k5y_4 k5y_5 k5y_1) rfl rfl rfl (by decide +kernel) ⟨Nat.le_of_ble_eq_true rfl, Nat.le_of_ble_eq_true rfl⟩) (px_preV hK hP hD m_17 c_16 rfl) rfl rfl hl.1 rfl (lv_room (Nat.le_of_ble_eq_true rfl)) xd_Me_isSplitBy_5 ⟨(Nat.le_of_ble_eq_true rfl), (Nat.le_of_ble_eq_true rfl)⟩) hS (fun q _ h => hFc q h) hFc (fun r101 u102 t H1 locs ht hvm hp103 hB hz1 hk1 hS => ?_)
  obtain ⟨hP1, hD1⟩ := hB
  rw [ht] at hP1
  have hD1 := hD1.weaken (fun _ _ _ h => hFc _ h)
  generalize H1 = H at hP1 hS ⊢
  have hP := hP1
  have hD := hD1
  have hP : va_P D xcl (rp ad E RL) H := hP
  have hD : va_D A (rp ad E RL) := hD
  rcases hp103 with ⟨rfl, z104⟩ | ⟨rfl, z105⟩
  · refine W.eq (g2 := F0 m 8 ls [.int 1]) rfl ?_
    refine lv_if_ne (tgt := 13) hx hb xd_Me_isSplitBy_8 (by decide) (fun _ => ?_) (fun hc106 => absurd hc106 (by decide))
    refine lv_aload_n hx hb xd_Me_isSplitBy_13 rfl (lv_at hl 1 rfl) ?_
    refine px_get (D := D) (ci := 6) (v := .ref (ad (1 + d_57) 0)) (C := xR_Me) (T := xT_Me) (N := 6) hx hb hT xi_Me hown hK.1 hP m_59 c_58 rfl 1 (by decide) (hT _ k5y_6) (fun _ h9 => h9) rfl xd_Me_isSplitBy_14 ?_
    refine px_get (D := D) (ci := 7) (v := .ref (ad (1 + d_57) 1)) (C := xR_Ds) (T := xT_Ds) (N := 12) hx hb hT xi_Ds hown hK.1 hP m_76 c_75 rfl 3 (by decide) (hT _ k5y_7) (fun _ h9 => h9) rfl xd_Me_isSplitBy_17 ?_
    refine lv_astore_n hx hb xd_Me_isSplitBy_20 rfl hl (Nat.le_of_ble_eq_true rfl) rfl (fun ls hl => ?_)
    have hl : lv_has ls 5 [(2, .ref (ad (1 + d_57) 1)), (0, .ref (ad (20 + n) (10 + 10 * k))), (1, .ref (ad (20 + n2) (10 + 10 * k2)))] := hl
    refine lv_iconst (v := 0) hx hb xd_Me_isSplitBy_21 (by decide) ?_
    refine lv_istore_n hx hb xd_Me_isSplitBy_22 rfl hl (Nat.le_of_ble_eq_true rfl) rfl (fun ls hl => ?_)
    have hl : lv_has ls 5 [(3, .int 0), (2, .ref (ad (1 + d_57) 1)), (0, .ref (ad (20 + n) (10 + 10 * k))), (1, .ref (ad (20 + n2) (10 + 10 * k2)))] := hl
    refine xlab (σ := Nat) (ml := 5) 23 (fun (i : Nat) => [(3, .int (nI i)), (2, .ref (ad (1 + d_57) 1)), (1, .ref (ad (20 + n2) (10 + 10 * k2))), (0, .ref (ad (20 + n) (10 + 10 * k)))]) (fun (i : Nat) => []) (fun (i : Nat) => rp ad E RL) (fun (i : Nat) => (i ≤ k0_74) ∧ (∀ j8, j8 < i → ¬ SBi g (RWb E n k) n (mdv g n k) n2 k2 j8)) (fun (i : Nat) => k0_74 - i) ?_ 0 _ _ _ (lv_sub hl [0, 1, 3, 2] rfl) hP hD hS ⟨(show 0 ≤ k0_74 from by first | assumption | omega), (show ∀ j8, j8 < 0 → ¬ SBi g (RWb E n k) n (mdv g n k) n2 k2 j8 from fun j hj => absurd hj (by omega))⟩
    intro n9 ih107 a9 ls H locs hμ hl hP hD hS hI
    subst hμ
    obtain ⟨i, rfl⟩ : ∃ z, z = a9 := ⟨_, rfl⟩
    obtain ⟨hi, hno⟩ := hI
    have hi : i ≤ k0_74 := hi
    have hno : ∀ j8, j8 < i → ¬ SBi g (RWb E n k) n (mdv g n k) n2 k2 j8 := hno
    have hl : lv_has ls 5 [(3, .int (nI i)), (2, .ref (ad (1 + d_57) 1)), (1, .ref (ad (20 + n2) (10 + 10 * k2))), (0, .ref (ad (20 + n) (10 + 10 * k)))] := hl
    have hP : va_P D xcl (rp ad E RL) H := hP
    have hD : va_D A (rp ad E RL) := hD
    refine lv_iload_n hx hb xd_Me_isSplitBy_23 rfl (lv_at hl 0 rfl) ?_
    refine lv_aload_n hx hb xd_Me_isSplitBy_24 rfl (lv_at hl 1 rfl) ?_
    refine px_get (D := D) (ci := 8) (v := .int (nI k0_74)) (C := xR_Na) (T := xT_Na) (N := 2) hx hb hT xi_Na hown hK.1 hP m_78 c_77 rfl 1 (by decide) (hT _ k5y_8) (fun _ h9 => h9) rfl xd_Me_isSplitBy_25 ?_
    refine xn_ge (a := i) (b := k0_74) (tgt := 90) hx hb xd_Me_isSplitBy_28 (by decide) (by omega) (by omega) (fun hc108 => ?_) (fun hc108 => ?_)
    · refine lv_iconst (v := 0) hx hb xd_Me_isSplitBy_90 (by decide) ?_
      exact W.zret (v := 0) hx hb hr rfl (fun t ht hW => ⟨⟨0, (), rfl, Or.inr ⟨rfl, fun ⟨_, i9, q1, q2⟩ => hno i9 (by
        rw [hdm_57, ← tk0_74, iN_nI (by omega)] at q1
        omega) q2⟩, by rw [ht]; exact hP, hD⟩, hS.F ht⟩) hS.2.2 xd_Me_isSplitBy_91
    · refine lv_aload_n hx hb xd_Me_isSplitBy_31 rfl (lv_at hl 1 rfl) ?_
      refine lv_iload_n hx hb xd_Me_isSplitBy_32 rfl (lv_at hl 0 rfl) ?_
      have hFc := px_free hD hS hA
      refine va_calli (va_runV (As := [.int (nI i)]) (rest := []) ⟨hx, hb, hml, hown, hT⟩ (xc_Na_at l D kA H.size ad E RL (1 + d_57) 1 5 6 k0_74 f0_74 i m_78 c_77 m_86 c_85 (by first | assumption | omega) (by first | assumption | omega) (by first | assumption | omega)) (cwV 1 hT (wT_V k5y_10 k5y_11 k5y_12 k5y_13 k5y_9) rfl rfl rfl (by decide +kernel) ⟨Nat.le_of_ble_eq_true rfl, Nat.le_of_ble_eq_true rfl⟩) (px_preV hK hP hD m_78 c_77 rfl) rfl rfl hl.1 rfl (lv_room (Nat.le_of_ble_eq_true rfl)) xd_Me_isSplitBy_33 ⟨(Nat.le_of_ble_eq_true rfl), (Nat.le_of_ble_eq_true rfl)⟩) hS (fun q _ h => hFc q h) hFc (fun r109 u110 t H1 locs ht hvm hp111 hB hz1 hk1 hS => ?_)
      obtain ⟨hP1, hD1⟩ := hB
      rw [ht] at hP1
      have hD1 := hD1.weaken (fun _ _ _ h => hFc _ h)
      generalize H1 = H at hP1 hS ⊢
      have hP := hP1
      have hD := hD1
      have hP : va_P D xcl (rp ad E RL) H := hP
      have hD : va_D A (rp ad E RL) := hD
      have hp111 : r109 = (g 6 (6 * mdv g n2 k2 + i)) := by
        rcases hp111 with ⟨q, q2⟩ | ⟨q, _⟩
        · rw [q2, hdm_57]; exact tf0_74 i q
        · omega
      subst hp111
      have hP : va_P D xcl (rp ad E RL) H := hP
      have hD : va_D A (rp ad E RL) := hD
      refine lv_istore hx hb xd_Me_isSplitBy_36 hl (Nat.le_of_ble_eq_true rfl) rfl (fun ls hl => ?_)
      have hl : lv_has ls 5 [(4, .int (g 6 (6 * mdv g n2 k2 + i))), (3, .int (nI i)), (2, .ref (ad (1 + d_57) 1)), (1, .ref (ad (20 + n2) (10 + 10 * k2))), (0, .ref (ad (20 + n) (10 + 10 * k)))] := hl
      refine lv_aload_n hx hb xd_Me_isSplitBy_38 rfl (lv_at hl 3 rfl) ?_
      refine px_get (D := D) (ci := 6) (v := .ref (ad (1 + d_57) 0)) (C := xR_Me) (T := xT_Me) (N := 6) hx hb hT xi_Me hown hK.1 hP m_59 c_58 rfl 1 (by decide) (hT _ k5y_6) (fun _ h9 => h9) rfl xd_Me_isSplitBy_39 ?_
      refine lv_iload hx hb xd_Me_isSplitBy_42 (lv_at hl 0 rfl) ?_
      refine lv_aload_n hx hb xd_Me_isSplitBy_44 rfl (lv_at hl 4 rfl) ?_
      refine px_get (D := D) (ci := 6) (v := .ref (ad (1 + d_7) 0)) (C := xR_Me) (T := xT_Me) (N := 6) hx hb hT xi_Me hown hK.1 hP m_9 c_8 rfl 1 (by decide) (hT _ k5y_6) (fun _ h9 => h9) rfl xd_Me_isSplitBy_45 ?_
      refine px_get (D := D) (ci := 7) (v := .int nm_24) (C := xR_Ds) (T := xT_Ds) (N := 12) hx hb hT xi_Ds hown hK.1 hP m_26 c_25 rfl 2 (by decide) (hT _ k5y_14) (fun _ h9 => h9) rfl xd_Me_isSplitBy_48 ?_
      have hFc := px_free hD hS hA
      refine va_calli (va_runV (As := [.int (g 6 (6 * mdv g n2 k2 + i)), .int nm_24]) (rest := []) ⟨hx, hb, hml, hown, hT⟩ (xc_Ds_exportsToX l D kA H.size ad E RL g nd d_57 (g 6 (6 * mdv g n2 k2 + i)) nm_24 (by first | assumption | omega) (by first | assumption | omega) (by first | assumption | omega) hrd0) (cwV 2 hT (wT_V k5y_16 k5y_17 k5y_18 k5y_19 k5y_15) rfl rfl rfl (by decide +kernel) ⟨Nat.le_of_ble_eq_true rfl, Nat.le_of_ble_eq_true rfl⟩) (px_preV hK hP hD m_76 c_75 rfl) rfl rfl hl.1 rfl (lv_room (Nat.le_of_ble_eq_true rfl)) xd_Me_isSplitBy_51 ⟨(Nat.le_of_ble_eq_true rfl), (Nat.le_of_ble_eq_true rfl)⟩) hS (fun q _ h => hFc q h) hFc (fun r112 u113 t H1 locs ht hvm hp114 hB hz1 hk1 hS => ?_)
      obtain ⟨hP1, hD1⟩ := hB
      rw [ht] at hP1
      have hD1 := hD1.weaken (fun _ _ _ h => hFc _ h)
      generalize H1 = H at hP1 hS ⊢
      have hP := hP1
      have hD := hD1
      have hP : va_P D xcl (rp ad E RL) H := hP
      have hD : va_D A (rp ad E RL) := hD
      rcases hp114 with ⟨rfl, z115⟩ | ⟨rfl, z116⟩
      · have hx51 : (∃ q, pI g (mdv g n2 k2) (g 6 (6 * mdv g n2 k2 + i)) = some q ∧ exP g (6 * mdv g n2 k2 + q) (g 4 (mdv g n k))) := by have q9 := z115; rw [← hdm_57, tnm_24, ← hdm_7] at q9; exact q9
        refine W.eq (g2 := F0 m 54 ls [.int 1]) rfl ?_
        refine lv_if_eq (tgt := 84) hx hb xd_Me_isSplitBy_54 (by decide) (fun hc117 => absurd hc117 (by decide)) (fun _ => ?_)
        refine lv_aload_n hx hb xd_Me_isSplitBy_57 rfl (lv_at hl 4 rfl) ?_
        refine px_get (D := D) (ci := 6) (v := .ref (ad (1 + d_7) 0)) (C := xR_Me) (T := xT_Me) (N := 6) hx hb hT xi_Me hown hK.1 hP m_9 c_8 rfl 1 (by decide) (hT _ k5y_6) (fun _ h9 => h9) rfl xd_Me_isSplitBy_58 ?_
        refine px_get (D := D) (ci := 7) (v := .ref (ad (1 + d_7) 1)) (C := xR_Ds) (T := xT_Ds) (N := 12) hx hb hT xi_Ds hown hK.1 hP m_26 c_25 rfl 3 (by decide) (hT _ k5y_7) (fun _ h9 => h9) rfl xd_Me_isSplitBy_61 ?_
        refine lv_iload hx hb xd_Me_isSplitBy_64 (lv_at hl 0 rfl) ?_
        have hFc := px_free hD hS hA
        refine va_calli (va_runV (As := [.int (g 6 (6 * mdv g n2 k2 + i))]) (rest := []) ⟨hx, hb, hml, hown, hT⟩ (xc_Na_holds l D kA H.size ad E RL (1 + d_7) 1 5 6 k0_24 f0_24 (g 6 (6 * mdv g n2 k2 + i)) m_28 c_27 m_36 c_35 (by first | assumption | omega) (by first | assumption | omega)) (cwV 1 hT (wT_V k5y_21 k5y_22 k5y_23 k5y_13 k5y_20) rfl rfl rfl (by decide +kernel) ⟨Nat.le_of_ble_eq_true rfl, Nat.le_of_ble_eq_true rfl⟩) (px_preV hK hP hD m_28 c_27 rfl) rfl rfl hl.1 rfl (lv_room (Nat.le_of_ble_eq_true rfl)) xd_Me_isSplitBy_66 ⟨(Nat.le_of_ble_eq_true rfl), (Nat.le_of_ble_eq_true rfl)⟩) hS (fun q _ h => hFc q h) hFc (fun r118 u119 t H1 locs ht hvm hp120 hB hz1 hk1 hS => ?_)
        obtain ⟨hP1, hD1⟩ := hB
        rw [ht] at hP1
        have hD1 := hD1.weaken (fun _ _ _ h => hFc _ h)
        generalize H1 = H at hP1 hS ⊢
        have hP := hP1
        have hD := hD1
        have hP : va_P D xcl (rp ad E RL) H := hP
        have hD : va_D A (rp ad E RL) := hD
        rcases hp120 with ⟨rfl, z121, z122, z123⟩ | ⟨rfl, z124⟩
        · have hx66 : (∃ q, pI g (mdv g n k) (g 6 (6 * mdv g n2 k2 + i)) = some q) := by rw [hdm_7]; exact pI_ex hk0_24 tk0_24 tf0_24 ⟨z121, z122, z123⟩
          refine W.eq (g2 := F0 m 69 ls [.int 1]) rfl ?_
          refine lv_if_ne (tgt := 82) hx hb xd_Me_isSplitBy_69 (by decide) (fun _ => ?_) (fun hc125 => absurd hc125 (by decide))
          refine lv_iconst (v := 1) hx hb xd_Me_isSplitBy_82 (by decide) ?_
          exact W.zret (v := 1) hx hb hr rfl (fun t ht hW => ⟨⟨1, (), rfl, Or.inl ⟨rfl, ((hrow (12 * n2 + mdv g n2 k2)).trans (by rw [hdm_57]; exact (BS_marks (f := g4_7) (n := n2) (d := d_57) (by omega)).symm)).mpr z104, i, (by rw [hdm_57, ← tk0_74, iN_nI (by omega)]; omega), hx51, Or.inl hx66⟩, by rw [ht]; exact hP, hD⟩, hS.F ht⟩) hS.2.2 xd_Me_isSplitBy_83
        · have hx66 : ¬ (∃ q, pI g (mdv g n k) (g 6 (6 * mdv g n2 k2 + i)) = some q) := fun ⟨q, q2⟩ => by rw [hdm_7, pI_x hk0_24 tk0_24 tf0_24 z124] at q2; cases q2
          refine W.eq (g2 := F0 m 69 ls [.int 0]) rfl ?_
          refine lv_if_ne (tgt := 82) hx hb xd_Me_isSplitBy_69 (by decide) (fun hc126 => absurd (by decide) hc126) (fun _ => ?_)
          refine lv_aload_n hx hb xd_Me_isSplitBy_72 rfl (lv_at hl 4 rfl) ?_
          refine lv_iload hx hb xd_Me_isSplitBy_73 (lv_at hl 0 rfl) ?_
          have hFc := px_free hD hS hA
          refine va_callq (va_runV (As := [.int (g 6 (6 * mdv g n2 k2 + i))]) (rest := []) ⟨hx, hb, hml, hown, hT⟩ (xc_Me_sourceOfX l D kA H.size ad E RL g nd nL n k (g 6 (6 * mdv g n2 k2 + i)) (by first | assumption | omega) (by first | assumption | omega) (by first | assumption | omega) (by first | assumption | omega) (by first | assumption | omega) (by first | assumption | omega) (by first | assumption | omega) (by first | assumption | omega) (by first | assumption | omega) (by first | assumption | omega)) (cwV 1 hT (wT_V k5y_25 k5y_26 k5y_27 k5y_28 k5y_24) rfl rfl rfl (by decide +kernel) ⟨Nat.le_of_ble_eq_true rfl, Nat.le_of_ble_eq_true rfl⟩) (px_preV hK hP hD m_9 c_8 rfl) rfl rfl hl.1 rfl (lv_room (Nat.le_of_ble_eq_true rfl)) xd_Me_isSplitBy_75 ⟨(Nat.le_of_ble_eq_true rfl), (Nat.le_of_ble_eq_true rfl)⟩) hS (fun q _ h => hFc q h) hFc (fun r127 u128 t H1 locs ht hvm hp129 hB hz1 hk1 hS => ?_)
          obtain ⟨hP1, hD1⟩ := hB
          rw [ht] at hP1
          have hD1 := hD1.weaken (fun _ _ _ h => hFc _ h)
          generalize H1 = H at hP1 hS ⊢
          have hP := hP1
          have hD := hD1
          have hP : va_P D xcl (rp ad E RL) H := hP
          have hD : va_D A (rp ad E RL) := hD
          refine lv_aload_n hx hb xd_Me_isSplitBy_78 rfl (lv_at hl 3 rfl) ?_
          refine lv_acmp_eq (rx := r127) (ry := (some (ad (20 + n2) (10 + 10 * k2)))) (tgt := 84) hx hb xd_Me_isSplitBy_79 (by decide) (fun hc130 => ?_) (fun hc130 => ?_)
          · refine lv_iinc (k := 1) (x := (nI i)) (v := (nI (i + 1))) hx hb xd_Me_isSplitBy_84 hl rfl (xb_inc i 1) (Nat.le_of_ble_eq_true rfl) rfl (fun ls hl => ?_)
            have hl : lv_has ls 5 [(3, .int (nI (i + 1))), (4, .int (g 6 (6 * mdv g n2 k2 + i))), (2, .ref (ad (1 + d_57) 1)), (1, .ref (ad (20 + n2) (10 + 10 * k2))), (0, .ref (ad (20 + n) (10 + 10 * k)))] := hl
            refine lv_goto (tgt := 23) hx hb xd_Me_isSplitBy_87 (by decide) ?_
            exact ih107 (i + 1) _ _ _ (show k0_74 - (i + 1) < k0_74 - i by omega) (lv_sub hl [0, 2, 3, 4] rfl) hP hD hS ⟨(show (i + 1) ≤ k0_74 from by first | assumption | omega), (show ∀ j8, j8 < (i + 1) → ¬ SBi g (RWb E n k) n (mdv g n k) n2 k2 j8 from fun j hj => by
        rcases Nat.lt_or_ge j i with z | z
        · exact hno j z
        · rw [show j = i by omega]; exact (by
          have hae9 := hc130
          exact fun q => q.2.elim hx66 (fun q9 => q9 (by
            rcases hp129 with ⟨z1, _⟩ | ⟨x9, kk9, hx9, z1, z2, z3⟩
            · rw [z1] at hae9; cases hae9
            · rw [z1] at hae9
              have e9 := rp_inj hD (z2.1 0 (by omega)) (hME2.1 0 (by omega)) (Option.some.inj hae9)
              rw [z3, show x9 = n2 by omega, show kk9 = k2 by omega]))))⟩
          · refine lv_iconst (v := 1) hx hb xd_Me_isSplitBy_82 (by decide) ?_
            exact W.zret (v := 1) hx hb hr rfl (fun t ht hW => ⟨⟨1, (), rfl, Or.inl ⟨rfl, ((hrow (12 * n2 + mdv g n2 k2)).trans (by rw [hdm_57]; exact (BS_marks (f := g4_7) (n := n2) (d := d_57) (by omega)).symm)).mpr z104, i, (by rw [hdm_57, ← tk0_74, iN_nI (by omega)]; omega), hx51, Or.inr (fun q => by
        have hae9 := hc130
        rcases hp129 with ⟨_, z2⟩ | ⟨x9, kk9, hx9, z1, z2, z3⟩
        · rw [z2] at q; cases q
        · rw [z3] at q
          have q1 := congrArg Prod.fst (Option.some.inj q)
          have q2 := congrArg Prod.snd (Option.some.inj q)
          simp only at q1 q2
          exact hae9 (by rw [z1, q1, q2]))⟩, by rw [ht]; exact hP, hD⟩, hS.F ht⟩) hS.2.2 xd_Me_isSplitBy_83
      · have hx51 : ¬ (∃ q, pI g (mdv g n2 k2) (g 6 (6 * mdv g n2 k2 + i)) = some q ∧ exP g (6 * mdv g n2 k2 + q) (g 4 (mdv g n k))) := by have q9 := z116; rw [← hdm_57, tnm_24, ← hdm_7] at q9; exact q9
        refine W.eq (g2 := F0 m 54 ls [.int 0]) rfl ?_
        refine lv_if_eq (tgt := 84) hx hb xd_Me_isSplitBy_54 (by decide) (fun _ => ?_) (fun hc131 => absurd (by decide) hc131)
        refine lv_iinc (k := 1) (x := (nI i)) (v := (nI (i + 1))) hx hb xd_Me_isSplitBy_84 hl rfl (xb_inc i 1) (Nat.le_of_ble_eq_true rfl) rfl (fun ls hl => ?_)
        have hl : lv_has ls 5 [(3, .int (nI (i + 1))), (4, .int (g 6 (6 * mdv g n2 k2 + i))), (2, .ref (ad (1 + d_57) 1)), (1, .ref (ad (20 + n2) (10 + 10 * k2))), (0, .ref (ad (20 + n) (10 + 10 * k)))] := hl
        refine lv_goto (tgt := 23) hx hb xd_Me_isSplitBy_87 (by decide) ?_
        exact ih107 (i + 1) _ _ _ (show k0_74 - (i + 1) < k0_74 - i by omega) (lv_sub hl [0, 2, 3, 4] rfl) hP hD hS ⟨(show (i + 1) ≤ k0_74 from by first | assumption | omega), (show ∀ j8, j8 < (i + 1) → ¬ SBi g (RWb E n k) n (mdv g n k) n2 k2 j8 from fun j hj => by
        rcases Nat.lt_or_ge j i with z | z
        · exact hno j z
        · rw [show j = i by omega]; exact fun q => hx51 q.1)⟩
  · refine W.eq (g2 := F0 m 8 ls [.int 0]) rfl ?_
    refine lv_if_ne (tgt := 13) hx hb xd_Me_isSplitBy_8 (by decide) (fun hc132 => absurd (by decide) hc132) (fun _ => ?_)
    refine lv_iconst (v := 0) hx hb xd_Me_isSplitBy_11 (by decide) ?_
    exact W.zret (v := 0) hx hb hr rfl (fun t ht hW => ⟨⟨0, (), rfl, Or.inr ⟨rfl, fun q => absurd z105 (((hrow (12 * n2 + mdv g n2 k2)).trans (by rw [hdm_57]; exact (BS_marks (f := g4_7) (n := n2) (d := d_57) (by omega)).symm)).mp q.1)⟩, by rw [ht]; exact hP, hD⟩, hS.F ht⟩) hS.2.2 xd_Me_isSplitBy_12
theorem AG_11 {g : gT} {f1 f2 : Nat → Int32} {d : Nat} (h : f2 d = f1 d) : AG (va_up g 11 f1) (va_up g 11 f2) d := by
  have e : ∀ j, j ≠ 11 → va_up g 11 f2 j = va_up g 11 f1 j := fun j hj => by rw [vu_ne hj, vu_ne hj]
  exact ⟨congrFun (e 3 (by decide)) d, congrFun (e 4 (by decide)) d, congrFun (e 5 (by decide)) d, by rw [vu_eq, vu_eq]; exact h, congrFun (e 12 (by decide)) d, fun i _ => ⟨congrFun (e 6 (by decide)) _, congrFun (e 9 (by decide)) _, congrFun (e 10 (by decide)) _, fun j _ => ⟨congrFun (e 7 (by decide)) _, congrFun (e 8 (by decide)) _⟩⟩, fun i _ => ⟨congrFun (e 13 (by decide)) _, congrFun (e 16 (by decide)) _, congrFun (e 17 (by decide)) _⟩, fun i _ => ⟨congrFun (e 14 (by decide)) _, congrFun (e 15 (by decide)) _⟩⟩
theorem AG_11g {g : gT} {f : Nat → Int32} {d : Nat} (h : f d = g 11 d) : AG g (va_up g 11 f) d := by
  have q := AG_11 (g := g) (f1 := g 11) (f2 := f) (d := d) h
  rw [up_self rfl] at q; exact q
theorem TD_set11 {g : gT} {f : Nat → Int32} {e e' : Nat → va_E} {d : Nat} {fd nm sd x : Int32} {v0 v3 v4 v5 v6 v7 v8 v9 v10 w0 w3 w4 w5 w6 w7 w8 w9 w10 : Value} (h : TD g e d) (c0 : e 0 = .inr (7, [v0, .int fd, .int nm, v3, v4, v5, v6, v7, v8, v9, v10, .int sd])) (c1 : e' 0 = .inr (7, [w0, .int fd, .int nm, w3, w4, w5, w6, w7, w8, w9, w10, .int x])) (he : ∀ o, ¬ o = 0 → e' o = e o) (hf : f d = x) : TD (va_up g 11 f) e' d := by
  have eg : ∀ j, j ≠ 11 → va_up g 11 f j = g j := fun j hj => vu_ne hj
  unfold TD at h ⊢
  rw [eg 3 (by decide), eg 4 (by decide), eg 5 (by decide), eg 6 (by decide), eg 7 (by decide), eg 8 (by decide), eg 9 (by decide), eg 10 (by decide), eg 12 (by decide), eg 13 (by decide), eg 14 (by decide), eg 15 (by decide), eg 16 (by decide), eg 17 (by decide), vu_eq, he 1 (by decide), he 2 (by decide), he 3 (by decide), he 4 (by decide), he 5 (by decide), he 6 (by decide), he 7 (by decide), he 8 (by decide), he 11 (by decide), he 12 (by decide), c1]
  rw [c0] at h
  obtain ⟨h1, h2, h3, h4, h5, h6, h7, h8, h9, h10⟩ := h
  refine ⟨h1, h2, hf.symm, h4, h5, h6, h7, h8, h9, fun i hi => ?_⟩
  rw [he (20 + 3 * i) (by omega), he (21 + 3 * i) (by omega), he (22 + 3 * i) (by omega), he (38 + 3 * i) (by omega), he (39 + 3 * i) (by omega), he (40 + 3 * i) (by omega)]
  exact h10 i hi
noncomputable def kf (g : gT) (L : List Nat) (k : Nat) : Nat → Int32 := fun d => cif (∃ j, j < k ∧ L.getD j 0 = d) 1 (g 11 d)
theorem kf_0 {g : gT} {L : List Nat} {d : Nat} : kf g L 0 d = g 11 d := cif_neg (fun ⟨j, h, _⟩ => absurd h (Nat.not_lt_zero _))
theorem kf_s {g : gT} {L : List Nat} {k x : Nat} (h : L.getD k 0 = x) : kf g L (k + 1) x = 1 := cif_pos ⟨k, by omega, h⟩
theorem kf_o {g : gT} {L : List Nat} {k d : Nat} (h : ¬ L.getD k 0 = d) : kf g L (k + 1) d = kf g L k d := by
  unfold kf
  by_cases q : ∃ j, j < k ∧ L.getD j 0 = d
  · obtain ⟨j, h1, h2⟩ := q
    rw [cif_pos ⟨j, by omega, h2⟩, cif_pos ⟨j, h1, h2⟩]
  · rw [cif_neg q, cif_neg (fun ⟨j, h1, h2⟩ => q ⟨j, by
      rcases Nat.lt_or_ge j k with z | z
      · exact z
      · exact absurd (by rw [show k = j by omega]; exact h2) h, h2⟩)]
noncomputable def gKl (g : gT) (L : List Nat) : gT := va_up g 11 (fun d => cif (d ∈ L) 1 (g 11 d))
theorem kf_end {g : gT} {L : List Nat} {k : Nat} (h : k = L.length) : va_up g 11 (kf g L k) = gKl g L := by
  unfold gKl
  congr 1
  funext d
  unfold kf
  subst h
  by_cases q : d ∈ L
  · obtain ⟨j, h1, h2⟩ := mem_getD q
    rw [cif_pos q, cif_pos ⟨j, h1, h2⟩]
  · rw [cif_neg q, cif_neg (fun ⟨j, h1, h2⟩ => q (by rw [← h2]; exact getD_mem h1))]
theorem T_21 {g : gT} {kA : Nat → ClassId} {ad : Nat → Nat → Nat} {E : Nat → Nat → va_E} {RL : List (Nat × Nat)} {nd nL n k : Nat} (hnd : nd ≤ 12) (hn : n < nL) (hI : LIs kA ad E RL nd nL) (h : TLas g ad E nd nL) (hk : k < mcv g n) : g 21 (12 * n + k) = nI (mdv g n k) := by
  obtain ⟨_, _, q3, q4⟩ := h n hn
  have q := LIs_12 hI n hn
  unfold mcv at hk
  rw [q3, iN_nI (by omega)] at hk
  obtain ⟨d, q5, q6, _⟩ := q4 k hk
  unfold mdv
  rw [q6, iN_nI (by omega)]
theorem k5z_0 : (Cond.fieldLink "LayerDesk$Layer" 19 "LayerDesk$Layer" "members" "[LLayerDesk$Member;") ∈ wT := wT_t (List.mem_append_right _ (List.mem_append_right _ (List.mem_append_left _ (List.mem_of_getElem? (i := 147) rfl)))) rfl
theorem k5z_1 : (Cond.fieldLink "LayerDesk$Layer" 52 "LayerDesk$Member" "leading" "LLayerDesk$Reach;") ∈ wT := wT_t (List.mem_append_right _ (List.mem_append_right _ (List.mem_append_left _ (List.mem_of_getElem? (i := 188) rfl)))) rfl
theorem k5z_2 : (Cond.code xy_Re_marks xb_Re_marks 2 (some .boolean)) ∈ wT := wT_t (List.mem_append_left _ (List.mem_of_getElem? (i := 177) rfl)) rfl
theorem k5z_3 : (Cond.methodLink "LayerDesk$Layer" 66 xy_Re_marks) ∈ wT := wT_t (List.mem_append_right _ (List.mem_append_right _ (List.mem_append_left _ (List.mem_of_getElem? (i := 230) rfl)))) rfl
theorem k5z_4 : (Cond.instanceMethod xy_Re_marks) ∈ wT := wT_t (List.mem_append_left _ (List.mem_of_getElem? (i := 175) rfl)) rfl
theorem k5z_5 : (Cond.selects "LayerDesk$Reach" xy_Re_marks xy_Re_marks) ∈ wT := wT_t (List.mem_append_left _ (List.mem_of_getElem? (i := 176) rfl)) rfl
theorem k5z_6 : (Cond.initialized "LayerDesk$Reach") ∈ wT := wT_t (List.mem_append_left _ (List.mem_of_getElem? (i := 21) rfl)) rfl
theorem k5z_7 : (Cond.fieldLink "LayerDesk$Layer" 13 "LayerDesk$Layer" "parent" "LLayerDesk$Layer;") ∈ wT := wT_t (List.mem_append_right _ (List.mem_append_right _ (List.mem_append_left _ (List.mem_of_getElem? (i := 143) rfl)))) rfl
theorem k5z_8 : (Cond.code xy_Me_isSplitBy xb_Me_isSplitBy 5 (some .boolean)) ∈ wT := wT_t (List.mem_append_right _ (List.mem_append_right _ (List.mem_append_right _ (List.mem_append_left _ (List.mem_of_getElem? (i := 15) rfl))))) rfl
theorem k5z_9 : (Cond.methodLink "LayerDesk$Layer" 70 xy_Me_isSplitBy) ∈ wT := wT_t (List.mem_append_right _ (List.mem_append_right _ (List.mem_append_right _ (List.mem_append_left _ (List.mem_of_getElem? (i := 12) rfl))))) rfl
theorem k5z_10 : (Cond.instanceMethod xy_Me_isSplitBy) ∈ wT := wT_t (List.mem_append_right _ (List.mem_append_right _ (List.mem_append_right _ (List.mem_append_left _ (List.mem_of_getElem? (i := 13) rfl))))) rfl
theorem k5z_11 : (Cond.selects "LayerDesk$Member" xy_Me_isSplitBy xy_Me_isSplitBy) ∈ wT := wT_t (List.mem_append_right _ (List.mem_append_right _ (List.mem_append_right _ (List.mem_append_left _ (List.mem_of_getElem? (i := 14) rfl))))) rfl
theorem k5z_12 : (Cond.initialized "LayerDesk$Member") ∈ wT := wT_t (List.mem_append_left _ (List.mem_of_getElem? (i := 20) rfl)) rfl
set_option maxHeartbeats 4000000 in
set_option maxRecDepth 100000 in
theorem xc_Ly_hasCycleX (l : Launch) (D : va_G) (kA : Nat → ClassId) (sz : Nat) (ad : Nat → Nat → Nat) (E : Nat → Nat → va_E) (RL : List (Nat × Nat)) (g : Nat → Nat → Int32) (nd : Nat) (nL : Nat) (n : Nat) (hDIs : DIs kA ad E RL nd) (hLIs : LIs kA ad E RL nd nL) (hnL : nL ≤ 6) (hn : n < nL) (hTD : TDs g E nd) (hTL : TLas g ad E nd nL) (hnd12 : nd ≤ 12) : Met l xy_Ly_hasCycle (.code xy_Ly_hasCycle xb_Ly_hasCycle 2 (some .boolean) :: wT) { frames := 1, cells := 0, slots := 0, locals := 21 } (va_Pc [.ref (ad (20 + n) 0)] (xPre D kA sz (rp ad E RL))) (va_Qi (fun (r : Int32) (u : Unit) => (r = 1 ∧ (∃ k8, k8 < mcv g n ∧ BS (eA (E (20 + n) (15 + 10 * k8))) (12 * n + mdv g n k8))) ∨ (r = 0 ∧ ¬ (∃ k8, k8 < mcv g n ∧ BS (eA (E (20 + n) (15 + 10 * k8))) (12 * n + mdv g n k8)))) (fun (u : Unit) t => va_P D xcl (rp ad E RL) t.heap ∧ va_D (va_A (rp ad E RL) sz) (rp ad E RL)) (va_A (rp ad E RL) sz)) 0 0 (va_A (rp ad E RL) sz) := by
  refine Met.ofW (cc := xb_Ly_hasCycle) (maxL := 2) (ret := (some .boolean)) (by decide) rfl ?_
  intro p e s m args below meth c s₁ B hml hv
  obtain ⟨rfl, hsz, hP, hK, hD0⟩ := hv
  have hx := B.exec
  have hb := B.bytes
  have hr := B.returns
  have hT := x_hT B.pre
  have hown : s.vm.findClass xR_Ly = some m.cls := findClass_of_methodNamed B.named
  have hlocks := B.notSynchronized
  subst hsz
  have hD := hD0.self (sz := s.heap.size)
  generalize hAe : va_A (rp ad E RL) s.heap.size = A at hD ⊢
  have hA : ∀ q : Nat, s.heap.size ≤ q → A q := fun q h => by rw [← hAe]; exact Or.inr h
  have hS : va_S A s.heap s.heap [] := va_S.rf
  have hl := lv_entry ([.ref (ad (20 + n) 0)]) (n := 2) (Nat.le_of_ble_eq_true rfl)
  rw [lg_entry_eq]
  generalize (lg_sl ([.ref (ad (20 + n) 0)]) ++ List.replicate (2 - (lg_sl ([.ref (ad (20 + n) 0)])).length) Slot.unset).toArray = ls at hl ⊢
  have hl : lv_has ls 2 [(0, .ref (ad (20 + n) 0))] := hl
  have hP : va_P D xcl (rp ad E RL) s.heap := hP
  refine lv_iconst (v := 0) hx hb xd_Ly_hasCycle_0 (by decide) ?_
  refine lv_istore_n hx hb xd_Ly_hasCycle_1 rfl hl (Nat.le_of_ble_eq_true rfl) rfl (fun ls hl => ?_)
  have hl : lv_has ls 2 [(1, .int 0), (0, .ref (ad (20 + n) 0))] := hl
  obtain ⟨m0_1, m1_1, pv_1, op_1, mk_1, fm_1, hmk_1, hpv_1, q0_1, q1_1, hk_1⟩ := id (hLIs n (by omega))
  have c_2 : E (20 + n) 0 = .inr (5, [.int (nI n), pv_1, .ref (ad (20 + n) 1), .int op_1]) := q0_1
  have m_3 : (20 + n, 0) ∈ RL := m0_1
  have c_4 : E (20 + n) 1 = .inl (kA 6, mk_1, .inr (.inr (.inr (.inr fm_1)))) := q1_1
  have m_5 : (20 + n, 1) ∈ RL := m1_1
  obtain ⟨top_1, ⟨lq_1, hlq_1, h19_1, hpv2_1⟩, h20_1, tmd_1⟩ := TLa_get c_2 c_4 (hTL n (by omega))
  have c_6 : E (20 + n) 0 = .inr (5, [.int (nI n), (lyv ad lq_1), .ref (ad (20 + n) 1), .int op_1]) := by rw [← hpv2_1]; exact c_2
  have i20_1 : iN (g 20 n) = mk_1 := by rw [h20_1, iN_nI (by omega)]
  refine xlab (σ := Nat) (ml := 2) 2 (fun (k : Nat) => [(1, .int (nI k)), (0, .ref (ad (20 + n) 0))]) (fun (k : Nat) => []) (fun (k : Nat) => rp ad E RL) (fun (k : Nat) => (k ≤ mk_1) ∧ (∀ j8, j8 < k → ¬ BS (eA (E (20 + n) (15 + 10 * j8))) (12 * n + mdv g n j8))) (fun (k : Nat) => mk_1 - k) ?_ 0 _ _ _ (lv_sub hl [0, 1] rfl) hP hD hS ⟨(show 0 ≤ mk_1 from by first | assumption | omega), (show ∀ j8, j8 < 0 → ¬ BS (eA (E (20 + n) (15 + 10 * j8))) (12 * n + mdv g n j8) from fun j hj => absurd hj (by omega))⟩
  intro n9 ih7 a9 ls H locs hμ hl hP hD hS hI
  subst hμ
  obtain ⟨k, rfl⟩ : ∃ z, z = a9 := ⟨_, rfl⟩
  obtain ⟨hk, hno⟩ := hI
  have hk : k ≤ mk_1 := hk
  have hno : ∀ j8, j8 < k → ¬ BS (eA (E (20 + n) (15 + 10 * j8))) (12 * n + mdv g n j8) := hno
  have hl : lv_has ls 2 [(1, .int (nI k)), (0, .ref (ad (20 + n) 0))] := hl
  have hP : va_P D xcl (rp ad E RL) H := hP
  have hD : va_D A (rp ad E RL) := hD
  refine lv_iload_n hx hb xd_Ly_hasCycle_2 rfl (lv_at hl 0 rfl) ?_
  refine lv_aload_n hx hb xd_Ly_hasCycle_3 rfl (lv_at hl 1 rfl) ?_
  refine px_get (D := D) (ci := 5) (v := .ref (ad (20 + n) 1)) (C := xR_Ly) (T := xT_Ly) (N := 4) hx hb hT xi_Ly hown hK.1 hP m_3 c_6 rfl 2 (by decide) (hT _ k5z_0) (fun _ h9 => h9) rfl xd_Ly_hasCycle_4 ?_
  refine px_alen hx hb hK.1 hP m_5 c_4 6 rfl xd_Ly_hasCycle_7 ?_
  refine W.eq (g2 := F0 m 8 ls [.int (nI mk_1), .int (nI k)]) rfl ?_
  refine xn_ge (a := k) (b := mk_1) (tgt := 40) hx hb xd_Ly_hasCycle_8 (by decide) (by omega) (by omega) (fun hc8 => ?_) (fun hc8 => ?_)
  · refine lv_iconst (v := 0) hx hb xd_Ly_hasCycle_40 (by decide) ?_
    exact W.zret (v := 0) hx hb hr rfl (fun t ht hW => ⟨⟨0, (), rfl, Or.inr ⟨rfl, fun ⟨k8, q1, q2⟩ => hno k8 (by
        unfold mcv at q1
        rw [h20_1, iN_nI (by omega)] at q1
        omega) q2⟩, by rw [ht]; exact hP, hD⟩, hS.F ht⟩) hS.2.2 xd_Ly_hasCycle_41
  · refine lv_aload_n hx hb xd_Ly_hasCycle_11 rfl (lv_at hl 1 rfl) ?_
    refine px_get (D := D) (ci := 5) (v := .ref (ad (20 + n) 1)) (C := xR_Ly) (T := xT_Ly) (N := 4) hx hb hT xi_Ly hown hK.1 hP m_3 c_6 rfl 2 (by decide) (hT _ k5z_0) (fun _ h9 => h9) rfl xd_Ly_hasCycle_12 ?_
    refine lv_iload_n hx hb xd_Ly_hasCycle_15 rfl (lv_at hl 0 rfl) ?_
    refine px_aald (i := k) (x := (some (ad (20 + n) (10 + 10 * k)))) hx hb hK.1 hP m_5 c_4 6 rfl ((hk_1 k (by omega)).1) (by omega) (by omega) xd_Ly_hasCycle_16 ?_
    obtain ⟨hm_9, d_9, rs_9, fr_9, g2_9, g3_9, g4_9, hd_9, hrs_9, q0_9, q1_9, q2_9, q3_9, q4_9, q5_9, q6_9, q7_9⟩ := (hk_1 k (by omega)).2
    have c_10 : E (20 + n) (10 + 10 * k) = .inr (6, [.ref (ad (20 + n) 0), .ref (ad (1 + d_9) 0), .ref (ad (20 + n) (11 + 10 * k)), .ref (ad (20 + n) (12 + 10 * k)), .ref (ad (20 + n) (13 + 10 * k)), .ref (ad (20 + n) (14 + 10 * k))]) := q0_9
    have m_11 : (20 + n, 10 + 10 * k) ∈ RL := hm_9 0 (by omega)
    have c_12 : E (20 + n) (11 + 10 * k) = .inl (kA 6, rs_9, .inr (.inr (.inr (.inr fr_9)))) := q1_9
    have m_13 : (20 + n, 11 + 10 * k) ∈ RL := hm_9 1 (by omega)
    have c_14 : E (20 + n) (12 + 10 * k) = .inr (10, [.ref (ad (20 + n) (15 + 10 * k))]) := q2_9
    have m_15 : (20 + n, 12 + 10 * k) ∈ RL := hm_9 2 (by omega)
    have c_16 : E (20 + n) (13 + 10 * k) = .inr (10, [.ref (ad (20 + n) (16 + 10 * k))]) := q3_9
    have m_17 : (20 + n, 13 + 10 * k) ∈ RL := hm_9 3 (by omega)
    have c_18 : E (20 + n) (14 + 10 * k) = .inr (10, [.ref (ad (20 + n) (17 + 10 * k))]) := q4_9
    have m_19 : (20 + n, 14 + 10 * k) ∈ RL := hm_9 4 (by omega)
    have c_20 : E (20 + n) (15 + 10 * k) = .inl (kA 0, 6, .inl g2_9) := q5_9
    have m_21 : (20 + n, 15 + 10 * k) ∈ RL := hm_9 5 (by omega)
    have c_22 : E (20 + n) (16 + 10 * k) = .inl (kA 0, 6, .inl g3_9) := q6_9
    have m_23 : (20 + n, 16 + 10 * k) ∈ RL := hm_9 6 (by omega)
    have c_24 : E (20 + n) (17 + 10 * k) = .inl (kA 0, 6, .inl g4_9) := q7_9
    have m_25 : (20 + n, 17 + 10 * k) ∈ RL := hm_9 7 (by omega)
    have hdm_9 : mdv g n k = d_9 := by
      obtain ⟨dz, hdz, h21z, hvz⟩ := tmd_1 k (by omega)
      rw [c_10] at hvz
      have ez := (rp_inj hD ((hDIs d_9 hd_9).1 0 (by omega)) ((hDIs dz hdz).1 0 (by omega)) (Value.ref.inj hvz)).1
      unfold mdv
      rw [h21z, iN_nI (by omega)]; omega
    refine px_get (D := D) (ci := 6) (v := .ref (ad (20 + n) (12 + 10 * k))) (C := xR_Me) (T := xT_Me) (N := 6) hx hb hT xi_Me hown hK.1 hP m_11 c_10 rfl 3 (by decide) (hT _ k5z_1) (fun _ h9 => h9) rfl xd_Ly_hasCycle_17 ?_
    refine lv_aload_n hx hb xd_Ly_hasCycle_20 rfl (lv_at hl 1 rfl) ?_
    refine px_get (D := D) (ci := 5) (v := .ref (ad (20 + n) 1)) (C := xR_Ly) (T := xT_Ly) (N := 4) hx hb hT xi_Ly hown hK.1 hP m_3 c_6 rfl 2 (by decide) (hT _ k5z_0) (fun _ h9 => h9) rfl xd_Ly_hasCycle_21 ?_
    refine lv_iload_n hx hb xd_Ly_hasCycle_24 rfl (lv_at hl 0 rfl) ?_
    refine px_aald (i := k) (x := (some (ad (20 + n) (10 + 10 * k)))) hx hb hK.1 hP m_5 c_4 6 rfl ((hk_1 k (by omega)).1) (by omega) (by omega) xd_Ly_hasCycle_25 ?_
    obtain ⟨hm_26, fd_26, nm_26, sd_26, k0_26, k1_26, k2_26, k3_26, f0_26, f1_26, f2_26, f3_26, fe_26, fo_26, tr_26, op_26, hk0_26, hk1_26, hk2_26, hk3_26, q0_26, q1_26, q2_26, q3_26, q4_26, q5_26, q6_26, q7_26, q8_26, q9_26, q10_26, q11_26, q12_26, hg_26⟩ := id (hDIs d_9 (by omega))
    have c_27 : E (1 + d_9) 0 = .inr (7, [.int (nI d_9), .int fd_26, .int nm_26, .ref (ad (1 + d_9) 1), .ref (ad (1 + d_9) 9), .ref (ad (1 + d_9) 10), .ref (ad (1 + d_9) 2), .ref (ad (1 + d_9) 11), .ref (ad (1 + d_9) 12), .ref (ad (1 + d_9) 3), .ref (ad (1 + d_9) 4), .int sd_26]) := q0_26
    have m_28 : (1 + d_9, 0) ∈ RL := hm_26 0 (by omega)
    have c_29 : E (1 + d_9) 1 = .inr (8, [.ref (ad (1 + d_9) 5), .int (nI k0_26)]) := q1_26
    have m_30 : (1 + d_9, 1) ∈ RL := hm_26 1 (by omega)
    have c_31 : E (1 + d_9) 2 = .inr (8, [.ref (ad (1 + d_9) 6), .int (nI k1_26)]) := q2_26
    have m_32 : (1 + d_9, 2) ∈ RL := hm_26 2 (by omega)
    have c_33 : E (1 + d_9) 3 = .inr (8, [.ref (ad (1 + d_9) 7), .int (nI k2_26)]) := q3_26
    have m_34 : (1 + d_9, 3) ∈ RL := hm_26 3 (by omega)
    have c_35 : E (1 + d_9) 4 = .inr (8, [.ref (ad (1 + d_9) 8), .int (nI k3_26)]) := q4_26
    have m_36 : (1 + d_9, 4) ∈ RL := hm_26 4 (by omega)
    have c_37 : E (1 + d_9) 5 = .inl (kA 0, 6, .inl f0_26) := q5_26
    have m_38 : (1 + d_9, 5) ∈ RL := hm_26 5 (by omega)
    have c_39 : E (1 + d_9) 6 = .inl (kA 0, 5, .inl f1_26) := q6_26
    have m_40 : (1 + d_9, 6) ∈ RL := hm_26 6 (by omega)
    have c_41 : E (1 + d_9) 7 = .inl (kA 0, 3, .inl f2_26) := q7_26
    have m_42 : (1 + d_9, 7) ∈ RL := hm_26 7 (by omega)
    have c_43 : E (1 + d_9) 8 = .inl (kA 0, 3, .inl f3_26) := q8_26
    have m_44 : (1 + d_9, 8) ∈ RL := hm_26 8 (by omega)
    have c_45 : E (1 + d_9) 9 = .inl (kA 8, 6, .inr (.inr (.inr (.inr fe_26)))) := q9_26
    have m_46 : (1 + d_9, 9) ∈ RL := hm_26 9 (by omega)
    have c_47 : E (1 + d_9) 10 = .inl (kA 8, 6, .inr (.inr (.inr (.inr fo_26)))) := q10_26
    have m_48 : (1 + d_9, 10) ∈ RL := hm_26 10 (by omega)
    have c_49 : E (1 + d_9) 11 = .inl (kA 2, 5, .inl tr_26) := q11_26
    have m_50 : (1 + d_9, 11) ∈ RL := hm_26 11 (by omega)
    have c_51 : E (1 + d_9) 12 = .inl (kA 2, 5, .inl op_26) := q12_26
    have m_52 : (1 + d_9, 12) ∈ RL := hm_26 12 (by omega)
    have hg_26 : ∀ w9, w9 < k0_26 → fe_26 w9 = some (ad (1 + d_9) (20 + 3 * w9)) ∧ fo_26 w9 = some (ad (1 + d_9) (38 + 3 * w9)) ∧ GI kA (ad (1 + d_9)) (E (1 + d_9)) (fun o => (1 + d_9, o) ∈ RL) (20 + 3 * w9) (21 + 3 * w9) (22 + 3 * w9) ∧ GI kA (ad (1 + d_9)) (E (1 + d_9)) (fun o => (1 + d_9, o) ∈ RL) (38 + 3 * w9) (39 + 3 * w9) (40 + 3 * w9) := hg_26
    obtain ⟨hTT_26, tgr_26⟩ := TD_get hk0_26 hk1_26 hk2_26 hk3_26 c_27 c_29 c_31 c_33 c_35 c_37 c_39 c_41 c_43 c_49 c_51 (hTD d_9 (by omega))
    obtain ⟨tfd_26, tnm_26, tsd_26, tk0_26, tf0_26, tk1_26, tf1_26, tk2_26, tk3_26⟩ := id hTT_26
    have ik0_26 : iN (g 5 d_9) = k0_26 := by rw [← tk0_26, iN_nI (by omega)]
    have ik1_26 : iN (g 12 d_9) = k1_26 := by rw [← tk1_26, iN_nI (by omega)]
    have hFc := px_free hD hS hA
    refine va_calli (va_runV (As := [.ref (ad (20 + n) (10 + 10 * k))]) (rest := []) ⟨hx, hb, hml, hown, hT⟩ (xc_Re_marks l D kA H.size ad E RL (20 + n) (12 + 10 * k) (15 + 10 * k) g2_9 n k d_9 (lyv ad lq_1) op_1 fd_26 nm_26 sd_26 m_15 c_14 m_21 c_20 m_11 c_10 m_3 c_6 m_28 c_27 (by first | assumption | omega)) (cwV 1 hT (wT_V k5z_3 k5z_4 k5z_5 k5z_6 k5z_2) rfl rfl rfl (by decide +kernel) ⟨Nat.le_of_ble_eq_true rfl, Nat.le_of_ble_eq_true rfl⟩) (px_preV hK hP hD m_15 c_14 rfl) rfl rfl hl.1 rfl (lv_room (Nat.le_of_ble_eq_true rfl)) xd_Ly_hasCycle_26 ⟨(Nat.le_of_ble_eq_true rfl), (Nat.le_of_ble_eq_true rfl)⟩) hS (fun q _ h => hFc q h) hFc (fun r53 u54 t H1 locs ht hvm hp55 hB hz1 hk1 hS => ?_)
    obtain ⟨hP1, hD1⟩ := hB
    rw [ht] at hP1
    have hD1 := hD1.weaken (fun _ _ _ h => hFc _ h)
    generalize H1 = H at hP1 hS ⊢
    have hP := hP1
    have hD := hD1
    have hP : va_P D xcl (rp ad E RL) H := hP
    have hD : va_D A (rp ad E RL) := hD
    rcases hp55 with ⟨rfl, z56⟩ | ⟨rfl, z57⟩
    · refine W.eq (g2 := F0 m 29 ls [.int 1]) rfl ?_
      refine lv_if_eq (tgt := 34) hx hb xd_Ly_hasCycle_29 (by decide) (fun hc58 => absurd hc58 (by decide)) (fun _ => ?_)
      refine lv_iconst (v := 1) hx hb xd_Ly_hasCycle_32 (by decide) ?_
      exact W.zret (v := 1) hx hb hr rfl (fun t ht hW => ⟨⟨1, (), rfl, Or.inl ⟨rfl, k, (by unfold mcv; rw [h20_1, iN_nI (by omega)]; omega), (show BS (eA (E (20 + n) (15 + 10 * k))) (12 * n + mdv g n k) ↔ ¬ ((g2_9 n >>> (nI d_9 &&& 31)) &&& 1) = 0 from by
          rw [hdm_9, show eA (E (20 + n) (15 + 10 * k)) = g2_9 from by rw [c_20]; rfl]
          exact (BS_marks (by omega)).symm).mpr z56⟩, by rw [ht]; exact hP, hD⟩, hS.F ht⟩) hS.2.2 xd_Ly_hasCycle_33
    · refine W.eq (g2 := F0 m 29 ls [.int 0]) rfl ?_
      refine lv_if_eq (tgt := 34) hx hb xd_Ly_hasCycle_29 (by decide) (fun _ => ?_) (fun hc59 => absurd (by decide) hc59)
      refine lv_iinc (k := 0) (x := (nI k)) (v := (nI (k + 1))) hx hb xd_Ly_hasCycle_34 hl rfl (xb_inc k 1) (Nat.le_of_ble_eq_true rfl) rfl (fun ls hl => ?_)
      have hl : lv_has ls 2 [(1, .int (nI (k + 1))), (0, .ref (ad (20 + n) 0))] := hl
      refine lv_goto (tgt := 2) hx hb xd_Ly_hasCycle_37 (by decide) ?_
      exact ih7 (k + 1) _ _ _ (show mk_1 - (k + 1) < mk_1 - k by omega) (lv_sub hl [0, 1] rfl) hP hD hS ⟨(show (k + 1) ≤ mk_1 from by first | assumption | omega), (show ∀ j8, j8 < (k + 1) → ¬ BS (eA (E (20 + n) (15 + 10 * j8))) (12 * n + mdv g n j8) from fun j hj => by
        rcases Nat.lt_or_ge j k with z | z
        · exact hno j z
        · rw [show j = k by omega]
          exact fun q => absurd z57 ((show BS (eA (E (20 + n) (15 + 10 * k))) (12 * n + mdv g n k) ↔ ¬ ((g2_9 n >>> (nI d_9 &&& 31)) &&& 1) = 0 from by
          rw [hdm_9, show eA (E (20 + n) (15 + 10 * k)) = g2_9 from by rw [c_20]; rfl]
          exact (BS_marks (by omega)).symm).mp q))⟩
set_option maxHeartbeats 4000000 in
set_option maxRecDepth 100000 in
theorem xc_Ly_hasSplitX (l : Launch) (D : va_G) (kA : Nat → ClassId) (sz : Nat) (ad : Nat → Nat → Nat) (E : Nat → Nat → va_E) (RL : List (Nat × Nat)) (g : Nat → Nat → Int32) (nd : Nat) (nL : Nat) (n : Nat) (hDIs : DIs kA ad E RL nd) (hLIs : LIs kA ad E RL nd nL) (hnL : nL ≤ 6) (hn : n < nL) (hTD : TDs g E nd) (hTL : TLas g ad E nd nL) (hnd12 : nd ≤ 12) (hNZ : NZ g nd) : Met l xy_Ly_hasSplit (.code xy_Ly_hasSplit xb_Ly_hasSplit 4 (some .boolean) :: wT) { frames := 5, cells := 0, slots := 0, locals := 114 } (va_Pc [.ref (ad (20 + n) 0)] (xPre D kA sz (rp ad E RL))) (va_Qi (fun (r : Int32) (u : Unit) => (r = 1 ∧ (∃ k8, k8 < mcv g n ∧ ∃ la8, Ch (prv g) (n + 1) la8 ∧ ∃ j8, j8 < mcv g la8 ∧ SB g (RWb E n k8) n (mdv g n k8) la8 j8)) ∨ (r = 0 ∧ ¬ (∃ k8, k8 < mcv g n ∧ ∃ la8, Ch (prv g) (n + 1) la8 ∧ ∃ j8, j8 < mcv g la8 ∧ SB g (RWb E n k8) n (mdv g n k8) la8 j8))) (fun (u : Unit) t => va_P D xcl (rp ad E RL) t.heap ∧ va_D (va_A (rp ad E RL) sz) (rp ad E RL)) (va_A (rp ad E RL) sz)) 0 0 (va_A (rp ad E RL) sz) := by
  refine Met.ofW (cc := xb_Ly_hasSplit) (maxL := 4) (ret := (some .boolean)) (by decide) rfl ?_
  intro p e s m args below meth c s₁ B hml hv
  obtain ⟨rfl, hsz, hP, hK, hD0⟩ := hv
  have hx := B.exec
  have hb := B.bytes
  have hr := B.returns
  have hT := x_hT B.pre
  have hown : s.vm.findClass xR_Ly = some m.cls := findClass_of_methodNamed B.named
  have hlocks := B.notSynchronized
  subst hsz
  have hD := hD0.self (sz := s.heap.size)
  generalize hAe : va_A (rp ad E RL) s.heap.size = A at hD ⊢
  have hA : ∀ q : Nat, s.heap.size ≤ q → A q := fun q h => by rw [← hAe]; exact Or.inr h
  have hS : va_S A s.heap s.heap [] := va_S.rf
  have hl := lv_entry ([.ref (ad (20 + n) 0)]) (n := 4) (Nat.le_of_ble_eq_true rfl)
  rw [lg_entry_eq]
  generalize (lg_sl ([.ref (ad (20 + n) 0)]) ++ List.replicate (4 - (lg_sl ([.ref (ad (20 + n) 0)])).length) Slot.unset).toArray = ls at hl ⊢
  have hl : lv_has ls 4 [(0, .ref (ad (20 + n) 0))] := hl
  have hP : va_P D xcl (rp ad E RL) s.heap := hP
  refine lv_iconst (v := 0) hx hb xd_Ly_hasSplit_0 (by decide) ?_
  refine lv_istore_n hx hb xd_Ly_hasSplit_1 rfl hl (Nat.le_of_ble_eq_true rfl) rfl (fun ls hl => ?_)
  have hl : lv_has ls 4 [(1, .int 0), (0, .ref (ad (20 + n) 0))] := hl
  obtain ⟨m0_1, m1_1, pv_1, op_1, mk_1, fm_1, hmk_1, hpv_1, q0_1, q1_1, hk_1⟩ := id (hLIs n (by omega))
  have c_2 : E (20 + n) 0 = .inr (5, [.int (nI n), pv_1, .ref (ad (20 + n) 1), .int op_1]) := q0_1
  have m_3 : (20 + n, 0) ∈ RL := m0_1
  have c_4 : E (20 + n) 1 = .inl (kA 6, mk_1, .inr (.inr (.inr (.inr fm_1)))) := q1_1
  have m_5 : (20 + n, 1) ∈ RL := m1_1
  obtain ⟨top_1, ⟨lq_1, hlq_1, h19_1, hpv2_1⟩, h20_1, tmd_1⟩ := TLa_get c_2 c_4 (hTL n (by omega))
  have c_6 : E (20 + n) 0 = .inr (5, [.int (nI n), (lyv ad lq_1), .ref (ad (20 + n) 1), .int op_1]) := by rw [← hpv2_1]; exact c_2
  have i20_1 : iN (g 20 n) = mk_1 := by rw [h20_1, iN_nI (by omega)]
  refine xlab (σ := Nat) (ml := 4) 2 (fun (k : Nat) => [(1, .int (nI k)), (0, .ref (ad (20 + n) 0))]) (fun (k : Nat) => []) (fun (k : Nat) => rp ad E RL) (fun (k : Nat) => (k ≤ mk_1) ∧ (∀ k8, k8 < k → ∀ la8, Ch (prv g) (n + 1) la8 → ∀ j8, j8 < mcv g la8 → ¬ SB g (RWb E n k8) n (mdv g n k8) la8 j8)) (fun (k : Nat) => mk_1 - k) ?_ 0 _ _ _ (lv_sub hl [0, 1] rfl) hP hD hS ⟨(show 0 ≤ mk_1 from by first | assumption | omega), (show ∀ k8, k8 < 0 → ∀ la8, Ch (prv g) (n + 1) la8 → ∀ j8, j8 < mcv g la8 → ¬ SB g (RWb E n k8) n (mdv g n k8) la8 j8 from fun k8 hk8 => absurd hk8 (by omega))⟩
  intro n9 ih7 a9 ls H locs hμ hl hP hD hS hI
  subst hμ
  obtain ⟨k, rfl⟩ : ∃ z, z = a9 := ⟨_, rfl⟩
  obtain ⟨hk, hno2⟩ := hI
  have hk : k ≤ mk_1 := hk
  have hno2 : ∀ k8, k8 < k → ∀ la8, Ch (prv g) (n + 1) la8 → ∀ j8, j8 < mcv g la8 → ¬ SB g (RWb E n k8) n (mdv g n k8) la8 j8 := hno2
  have hl : lv_has ls 4 [(1, .int (nI k)), (0, .ref (ad (20 + n) 0))] := hl
  have hP : va_P D xcl (rp ad E RL) H := hP
  have hD : va_D A (rp ad E RL) := hD
  refine lv_iload_n hx hb xd_Ly_hasSplit_2 rfl (lv_at hl 0 rfl) ?_
  refine lv_aload_n hx hb xd_Ly_hasSplit_3 rfl (lv_at hl 1 rfl) ?_
  refine px_get (D := D) (ci := 5) (v := .ref (ad (20 + n) 1)) (C := xR_Ly) (T := xT_Ly) (N := 4) hx hb hT xi_Ly hown hK.1 hP m_3 c_6 rfl 2 (by decide) (hT _ k5z_0) (fun _ h9 => h9) rfl xd_Ly_hasSplit_4 ?_
  refine px_alen hx hb hK.1 hP m_5 c_4 6 rfl xd_Ly_hasSplit_7 ?_
  refine W.eq (g2 := F0 m 8 ls [.int (nI mk_1), .int (nI k)]) rfl ?_
  refine xn_ge (a := k) (b := mk_1) (tgt := 68) hx hb xd_Ly_hasSplit_8 (by decide) (by omega) (by omega) (fun hc8 => ?_) (fun hc8 => ?_)
  · refine lv_iconst (v := 0) hx hb xd_Ly_hasSplit_68 (by decide) ?_
    exact W.zret (v := 0) hx hb hr rfl (fun t ht hW => ⟨⟨0, (), rfl, Or.inr ⟨rfl, fun ⟨k8, q1, la8, q2, j8, q3, q4⟩ => hno2 k8 (by
        unfold mcv at q1
        rw [h20_1, iN_nI (by omega)] at q1
        omega) la8 q2 j8 q3 q4⟩, by rw [ht]; exact hP, hD⟩, hS.F ht⟩) hS.2.2 xd_Ly_hasSplit_69
  · refine lv_aload_n hx hb xd_Ly_hasSplit_11 rfl (lv_at hl 1 rfl) ?_
    refine lv_astore_n hx hb xd_Ly_hasSplit_12 rfl hl (Nat.le_of_ble_eq_true rfl) rfl (fun ls hl => ?_)
    have hl : lv_has ls 4 [(2, .ref (ad (20 + n) 0)), (1, .int (nI k)), (0, .ref (ad (20 + n) 0))] := hl
    refine xlab (σ := Nat) (ml := 4) 13 (fun (y : Nat) => [(2, (lyv ad y)), (1, .int (nI k)), (0, .ref (ad (20 + n) 0))]) (fun (y : Nat) => []) (fun (y : Nat) => rp ad E RL) (fun (y : Nat) => (y ≤ n + 1) ∧ ((∀ la8, Ch (prv g) y la8 → ∀ j8, j8 < mcv g la8 → ¬ SB g (RWb E n k) n (mdv g n k) la8 j8) → ∀ la8, Ch (prv g) (n + 1) la8 → ∀ j8, j8 < mcv g la8 → ¬ SB g (RWb E n k) n (mdv g n k) la8 j8) ∧ (∀ la8, Ch (prv g) y la8 → Ch (prv g) (n + 1) la8)) (fun (y : Nat) => y) ?_ (n + 1) _ _ _ (lv_sub hl [0, 1, 2] rfl) hP hD hS ⟨(show (n + 1) ≤ n + 1 from by first | assumption | omega), (show (∀ la8, Ch (prv g) (n + 1) la8 → ∀ j8, j8 < mcv g la8 → ¬ SB g (RWb E n k) n (mdv g n k) la8 j8) → ∀ la8, Ch (prv g) (n + 1) la8 → ∀ j8, j8 < mcv g la8 → ¬ SB g (RWb E n k) n (mdv g n k) la8 j8 from fun q => q), (show ∀ la8, Ch (prv g) (n + 1) la8 → Ch (prv g) (n + 1) la8 from fun la8 hc => hc)⟩
    intro n9 ih9 a9 ls H locs hμ hl hP hD hS hI
    subst hμ
    obtain ⟨y, rfl⟩ : ∃ z, z = a9 := ⟨_, rfl⟩
    obtain ⟨hy, hN13, hC13⟩ := hI
    have hy : y ≤ n + 1 := hy
    have hN13 : (∀ la8, Ch (prv g) y la8 → ∀ j8, j8 < mcv g la8 → ¬ SB g (RWb E n k) n (mdv g n k) la8 j8) → ∀ la8, Ch (prv g) (n + 1) la8 → ∀ j8, j8 < mcv g la8 → ¬ SB g (RWb E n k) n (mdv g n k) la8 j8 := hN13
    have hC13 : ∀ la8, Ch (prv g) y la8 → Ch (prv g) (n + 1) la8 := hC13
    have hl : lv_has ls 4 [(2, (lyv ad y)), (1, .int (nI k)), (0, .ref (ad (20 + n) 0))] := hl
    have hP : va_P D xcl (rp ad E RL) H := hP
    have hD : va_D A (rp ad E RL) := hD
    rcases y with _ | y
    · have hl : lv_has ls 4 [(2, .null), (1, .int (nI k)), (0, .ref (ad (20 + n) 0))] := hl
      refine lv_aload_nN hx hb xd_Ly_hasSplit_13 rfl (lv_at hl 0 rfl) ?_
      refine lv_ifnullN (tgt := 62) hx hb xd_Ly_hasSplit_14 (by decide) ?_
      refine lv_iinc (k := 1) (x := (nI k)) (v := (nI (k + 1))) hx hb xd_Ly_hasSplit_62 hl rfl (xb_inc k 1) (Nat.le_of_ble_eq_true rfl) rfl (fun ls hl => ?_)
      have hl : lv_has ls 4 [(1, .int (nI (k + 1))), (2, .null), (0, .ref (ad (20 + n) 0))] := hl
      refine lv_goto (tgt := 2) hx hb xd_Ly_hasSplit_65 (by decide) ?_
      exact ih7 (k + 1) _ _ _ (show mk_1 - (k + 1) < mk_1 - k by omega) (lv_sub hl [0, 2] rfl) hP hD hS ⟨(show (k + 1) ≤ mk_1 from by first | assumption | omega), (show ∀ k8, k8 < (k + 1) → ∀ la8, Ch (prv g) (n + 1) la8 → ∀ j8, j8 < mcv g la8 → ¬ SB g (RWb E n k8) n (mdv g n k8) la8 j8 from fun k8 hk8 => by
        rcases Nat.lt_or_ge k8 k with z | z
        · exact hno2 k8 z
        · rw [show k8 = k by omega]; exact hN13 (fun la8 hc => absurd hc Ch_0))⟩
    · have hl : lv_has ls 4 [(2, .ref (ad (20 + y) 0)), (1, .int (nI k)), (0, .ref (ad (20 + n) 0))] := hl
      refine lv_aload_n hx hb xd_Ly_hasSplit_13 rfl (lv_at hl 0 rfl) ?_
      refine lv_ifnull hx hb xd_Ly_hasSplit_14 ?_
      refine lv_iconst (v := 0) hx hb xd_Ly_hasSplit_17 (by decide) ?_
      refine lv_istore_n hx hb xd_Ly_hasSplit_18 rfl hl (Nat.le_of_ble_eq_true rfl) rfl (fun ls hl => ?_)
      have hl : lv_has ls 4 [(3, .int 0), (2, .ref (ad (20 + y) 0)), (1, .int (nI k)), (0, .ref (ad (20 + n) 0))] := hl
      obtain ⟨m0_10, m1_10, pv_10, op_10, mk_10, fm_10, hmk_10, hpv_10, q0_10, q1_10, hk_10⟩ := id (hLIs y (by omega))
      have c_11 : E (20 + y) 0 = .inr (5, [.int (nI y), pv_10, .ref (ad (20 + y) 1), .int op_10]) := q0_10
      have m_12 : (20 + y, 0) ∈ RL := m0_10
      have c_13 : E (20 + y) 1 = .inl (kA 6, mk_10, .inr (.inr (.inr (.inr fm_10)))) := q1_10
      have m_14 : (20 + y, 1) ∈ RL := m1_10
      obtain ⟨top_10, ⟨lq_10, hlq_10, h19_10, hpv2_10⟩, h20_10, tmd_10⟩ := TLa_get c_11 c_13 (hTL y (by omega))
      have c_15 : E (20 + y) 0 = .inr (5, [.int (nI y), (lyv ad lq_10), .ref (ad (20 + y) 1), .int op_10]) := by rw [← hpv2_10]; exact c_11
      have i20_10 : iN (g 20 y) = mk_10 := by rw [h20_10, iN_nI (by omega)]
      refine xlab (σ := Nat) (ml := 4) 19 (fun (k3 : Nat) => [(3, .int (nI k3)), (2, .ref (ad (20 + y) 0)), (1, .int (nI k)), (0, .ref (ad (20 + n) 0))]) (fun (k3 : Nat) => []) (fun (k3 : Nat) => rp ad E RL) (fun (k3 : Nat) => (k3 ≤ mk_10) ∧ (∀ j8, j8 < k3 → ¬ SB g (RWb E n k) n (mdv g n k) y j8)) (fun (k3 : Nat) => mk_10 - k3) ?_ 0 _ _ _ (lv_sub hl [0, 1, 2, 3] rfl) hP hD hS ⟨(show 0 ≤ mk_10 from by first | assumption | omega), (show ∀ j8, j8 < 0 → ¬ SB g (RWb E n k) n (mdv g n k) y j8 from fun j hj => absurd hj (by omega))⟩
      intro n9 ih16 a9 ls H locs hμ hl hP hD hS hI
      subst hμ
      obtain ⟨k3, rfl⟩ : ∃ z, z = a9 := ⟨_, rfl⟩
      obtain ⟨hk3, hno3⟩ := hI
      have hk3 : k3 ≤ mk_10 := hk3
      have hno3 : ∀ j8, j8 < k3 → ¬ SB g (RWb E n k) n (mdv g n k) y j8 := hno3
      have hl : lv_has ls 4 [(3, .int (nI k3)), (2, .ref (ad (20 + y) 0)), (1, .int (nI k)), (0, .ref (ad (20 + n) 0))] := hl
      have hP : va_P D xcl (rp ad E RL) H := hP
      have hD : va_D A (rp ad E RL) := hD
      refine lv_iload_n hx hb xd_Ly_hasSplit_19 rfl (lv_at hl 0 rfl) ?_
      refine lv_aload_n hx hb xd_Ly_hasSplit_20 rfl (lv_at hl 1 rfl) ?_
      refine px_get (D := D) (ci := 5) (v := .ref (ad (20 + y) 1)) (C := xR_Ly) (T := xT_Ly) (N := 4) hx hb hT xi_Ly hown hK.1 hP m_12 c_15 rfl 2 (by decide) (hT _ k5z_0) (fun _ h9 => h9) rfl xd_Ly_hasSplit_21 ?_
      refine px_alen hx hb hK.1 hP m_14 c_13 6 rfl xd_Ly_hasSplit_24 ?_
      refine W.eq (g2 := F0 m 25 ls [.int (nI mk_10), .int (nI k3)]) rfl ?_
      refine xn_ge (a := k3) (b := mk_10) (tgt := 54) hx hb xd_Ly_hasSplit_25 (by decide) (by omega) (by omega) (fun hc17 => ?_) (fun hc17 => ?_)
      · refine lv_aload_n hx hb xd_Ly_hasSplit_54 rfl (lv_at hl 1 rfl) ?_
        refine px_get (D := D) (ci := 5) (v := (lyv ad lq_10)) (C := xR_Ly) (T := xT_Ly) (N := 4) hx hb hT xi_Ly hown hK.1 hP m_12 c_15 rfl 1 (by decide) (hT _ k5z_7) (fun _ h9 => h9) rfl xd_Ly_hasSplit_55 ?_
        rcases (show lq_10 = 0 ∨ ∃ yq, lq_10 = yq + 1 from by rcases Nat.eq_zero_or_pos lq_10 with q | q; exact Or.inl q; exact Or.inr ⟨lq_10 - 1, by omega⟩) with hyq | ⟨yq, hyq⟩
        · refine W.eq (g2 := F0 m 58 ls [.null]) (by rw [lyv_0 hyq]) ?_
          refine lv_astore_nN hx hb xd_Ly_hasSplit_58 rfl hl (Nat.le_of_ble_eq_true rfl) rfl (fun ls hl => ?_)
          have hl : lv_has ls 4 [(2, .null), (3, .int (nI k3)), (1, .int (nI k)), (0, .ref (ad (20 + n) 0))] := hl
          refine lv_goto (tgt := 13) hx hb xd_Ly_hasSplit_59 (by decide) ?_
          exact ih9 0 _ _ _ (show 0 < y + 1 by omega) (lv_sub hl [0, 2, 3] rfl) hP hD hS ⟨(show 0 ≤ n + 1 from by first | assumption | omega), (show (∀ la8, Ch (prv g) 0 la8 → ∀ j8, j8 < mcv g la8 → ¬ SB g (RWb E n k) n (mdv g n k) la8 j8) → ∀ la8, Ch (prv g) (n + 1) la8 → ∀ j8, j8 < mcv g la8 → ¬ SB g (RWb E n k) n (mdv g n k) la8 j8 from fun q => hN13 (fun la8 hc j8 hj8 => by
        rcases Ch_s.mp hc with e | c9
        · rw [e] at hj8 ⊢
          exact hno3 j8 (by
            unfold mcv at hj8
            rw [h20_10, iN_nI (by omega)] at hj8
            omega)
        · rw [prv_of h19_10 (by omega), hyq] at c9
          exact q la8 c9 j8 hj8)), (show ∀ la8, Ch (prv g) 0 la8 → Ch (prv g) (n + 1) la8 from fun la8 hc => hC13 la8 (Ch_s.mpr (Or.inr (by rw [prv_of h19_10 (by omega), hyq]; exact hc))))⟩
        · refine W.eq (g2 := F0 m 58 ls [.ref (ad (20 + yq) 0)]) (by rw [lyv_s hyq]) ?_
          refine lv_astore_n hx hb xd_Ly_hasSplit_58 rfl hl (Nat.le_of_ble_eq_true rfl) rfl (fun ls hl => ?_)
          have hl : lv_has ls 4 [(2, .ref (ad (20 + yq) 0)), (3, .int (nI k3)), (1, .int (nI k)), (0, .ref (ad (20 + n) 0))] := hl
          refine lv_goto (tgt := 13) hx hb xd_Ly_hasSplit_59 (by decide) ?_
          exact ih9 (yq + 1) _ _ _ (show (yq + 1) < y + 1 by omega) (lv_sub hl [0, 2, 3] rfl) hP hD hS ⟨(show (yq + 1) ≤ n + 1 from by first | assumption | omega), (show (∀ la8, Ch (prv g) (yq + 1) la8 → ∀ j8, j8 < mcv g la8 → ¬ SB g (RWb E n k) n (mdv g n k) la8 j8) → ∀ la8, Ch (prv g) (n + 1) la8 → ∀ j8, j8 < mcv g la8 → ¬ SB g (RWb E n k) n (mdv g n k) la8 j8 from fun q => hN13 (fun la8 hc j8 hj8 => by
        rcases Ch_s.mp hc with e | c9
        · rw [e] at hj8 ⊢
          exact hno3 j8 (by
            unfold mcv at hj8
            rw [h20_10, iN_nI (by omega)] at hj8
            omega)
        · rw [prv_of h19_10 (by omega), hyq] at c9
          exact q la8 c9 j8 hj8)), (show ∀ la8, Ch (prv g) (yq + 1) la8 → Ch (prv g) (n + 1) la8 from fun la8 hc => hC13 la8 (Ch_s.mpr (Or.inr (by rw [prv_of h19_10 (by omega), hyq]; exact hc))))⟩
      · refine lv_aload_n hx hb xd_Ly_hasSplit_28 rfl (lv_at hl 3 rfl) ?_
        refine px_get (D := D) (ci := 5) (v := .ref (ad (20 + n) 1)) (C := xR_Ly) (T := xT_Ly) (N := 4) hx hb hT xi_Ly hown hK.1 hP m_3 c_6 rfl 2 (by decide) (hT _ k5z_0) (fun _ h9 => h9) rfl xd_Ly_hasSplit_29 ?_
        refine lv_iload_n hx hb xd_Ly_hasSplit_32 rfl (lv_at hl 2 rfl) ?_
        refine px_aald (i := k) (x := (some (ad (20 + n) (10 + 10 * k)))) hx hb hK.1 hP m_5 c_4 6 rfl ((hk_1 k (by omega)).1) (by omega) (by omega) xd_Ly_hasSplit_33 ?_
        refine lv_aload_n hx hb xd_Ly_hasSplit_34 rfl (lv_at hl 1 rfl) ?_
        refine px_get (D := D) (ci := 5) (v := .ref (ad (20 + y) 1)) (C := xR_Ly) (T := xT_Ly) (N := 4) hx hb hT xi_Ly hown hK.1 hP m_12 c_15 rfl 2 (by decide) (hT _ k5z_0) (fun _ h9 => h9) rfl xd_Ly_hasSplit_35 ?_
        refine lv_iload_n hx hb xd_Ly_hasSplit_38 rfl (lv_at hl 0 rfl) ?_
        refine px_aald (i := k3) (x := (some (ad (20 + y) (10 + 10 * k3)))) hx hb hK.1 hP m_14 c_13 6 rfl ((hk_10 k3 (by omega)).1) (by omega) (by omega) xd_Ly_hasSplit_39 ?_
        have hFc := px_free hD hS hA
        obtain ⟨hm_18, d_18, rs_18, fr_18, g2_18, g3_18, g4_18, hd_18, hrs_18, q0_18, q1_18, q2_18, q3_18, q4_18, q5_18, q6_18, q7_18⟩ := (hk_1 k (by omega)).2
        have c_19 : E (20 + n) (10 + 10 * k) = .inr (6, [.ref (ad (20 + n) 0), .ref (ad (1 + d_18) 0), .ref (ad (20 + n) (11 + 10 * k)), .ref (ad (20 + n) (12 + 10 * k)), .ref (ad (20 + n) (13 + 10 * k)), .ref (ad (20 + n) (14 + 10 * k))]) := q0_18
        have m_20 : (20 + n, 10 + 10 * k) ∈ RL := hm_18 0 (by omega)
        have c_21 : E (20 + n) (11 + 10 * k) = .inl (kA 6, rs_18, .inr (.inr (.inr (.inr fr_18)))) := q1_18
        have m_22 : (20 + n, 11 + 10 * k) ∈ RL := hm_18 1 (by omega)
        have c_23 : E (20 + n) (12 + 10 * k) = .inr (10, [.ref (ad (20 + n) (15 + 10 * k))]) := q2_18
        have m_24 : (20 + n, 12 + 10 * k) ∈ RL := hm_18 2 (by omega)
        have c_25 : E (20 + n) (13 + 10 * k) = .inr (10, [.ref (ad (20 + n) (16 + 10 * k))]) := q3_18
        have m_26 : (20 + n, 13 + 10 * k) ∈ RL := hm_18 3 (by omega)
        have c_27 : E (20 + n) (14 + 10 * k) = .inr (10, [.ref (ad (20 + n) (17 + 10 * k))]) := q4_18
        have m_28 : (20 + n, 14 + 10 * k) ∈ RL := hm_18 4 (by omega)
        have c_29 : E (20 + n) (15 + 10 * k) = .inl (kA 0, 6, .inl g2_18) := q5_18
        have m_30 : (20 + n, 15 + 10 * k) ∈ RL := hm_18 5 (by omega)
        have c_31 : E (20 + n) (16 + 10 * k) = .inl (kA 0, 6, .inl g3_18) := q6_18
        have m_32 : (20 + n, 16 + 10 * k) ∈ RL := hm_18 6 (by omega)
        have c_33 : E (20 + n) (17 + 10 * k) = .inl (kA 0, 6, .inl g4_18) := q7_18
        have m_34 : (20 + n, 17 + 10 * k) ∈ RL := hm_18 7 (by omega)
        have hdm_18 : mdv g n k = d_18 := by
          obtain ⟨dz, hdz, h21z, hvz⟩ := tmd_1 k (by omega)
          rw [c_19] at hvz
          have ez := (rp_inj hD ((hDIs d_18 hd_18).1 0 (by omega)) ((hDIs dz hdz).1 0 (by omega)) (Value.ref.inj hvz)).1
          unfold mdv
          rw [h21z, iN_nI (by omega)]; omega
        refine va_calli (va_runV (As := [.ref (ad (20 + y) (10 + 10 * k3))]) (rest := []) ⟨hx, hb, hml, hown, hT⟩ (xc_Me_isSplitByX l D kA H.size ad E RL g nd nL n k y k3 (by first | assumption | omega) (by first | assumption | omega) (by first | assumption | omega) (by first | assumption | omega) (by first | assumption | omega) (by first | assumption | omega) (by first | assumption | omega) ((hk_1 k (by omega)).2) (by rw [i20_1]; omega) (by first | assumption | omega) (by first | assumption | omega) ((hk_10 k3 (by omega)).2) (by rw [i20_10]; omega)) (cwV 1 hT (wT_V k5z_9 k5z_10 k5z_11 k5z_12 k5z_8) rfl rfl rfl (by decide +kernel) ⟨Nat.le_of_ble_eq_true rfl, Nat.le_of_ble_eq_true rfl⟩) (px_preV hK hP hD m_20 c_19 rfl) rfl rfl hl.1 rfl (lv_room (Nat.le_of_ble_eq_true rfl)) xd_Ly_hasSplit_40 ⟨(Nat.le_of_ble_eq_true rfl), (Nat.le_of_ble_eq_true rfl)⟩) hS (fun q _ h => hFc q h) hFc (fun r35 u36 t H1 locs ht hvm hp37 hB hz1 hk1 hS => ?_)
        obtain ⟨hP1, hD1⟩ := hB
        rw [ht] at hP1
        have hD1 := hD1.weaken (fun _ _ _ h => hFc _ h)
        generalize H1 = H at hP1 hS ⊢
        have hP := hP1
        have hD := hD1
        have hP : va_P D xcl (rp ad E RL) H := hP
        have hD : va_D A (rp ad E RL) := hD
        rcases hp37 with ⟨rfl, z38⟩ | ⟨rfl, z39⟩
        · refine W.eq (g2 := F0 m 43 ls [.int 1]) rfl ?_
          refine lv_if_eq (tgt := 48) hx hb xd_Ly_hasSplit_43 (by decide) (fun hc40 => absurd hc40 (by decide)) (fun _ => ?_)
          refine lv_iconst (v := 1) hx hb xd_Ly_hasSplit_46 (by decide) ?_
          exact W.zret (v := 1) hx hb hr rfl (fun t ht hW => ⟨⟨1, (), rfl, Or.inl ⟨rfl, k, (by unfold mcv; rw [h20_1, iN_nI (by omega)]; omega), y, hC13 y (Ch_s.mpr (Or.inl rfl)), k3, (by unfold mcv; rw [h20_10, iN_nI (by omega)]; omega), z38⟩, by rw [ht]; exact hP, hD⟩, hS.F ht⟩) hS.2.2 xd_Ly_hasSplit_47
        · refine W.eq (g2 := F0 m 43 ls [.int 0]) rfl ?_
          refine lv_if_eq (tgt := 48) hx hb xd_Ly_hasSplit_43 (by decide) (fun _ => ?_) (fun hc41 => absurd (by decide) hc41)
          refine lv_iinc (k := 0) (x := (nI k3)) (v := (nI (k3 + 1))) hx hb xd_Ly_hasSplit_48 hl rfl (xb_inc k3 1) (Nat.le_of_ble_eq_true rfl) rfl (fun ls hl => ?_)
          have hl : lv_has ls 4 [(3, .int (nI (k3 + 1))), (2, .ref (ad (20 + y) 0)), (1, .int (nI k)), (0, .ref (ad (20 + n) 0))] := hl
          refine lv_goto (tgt := 19) hx hb xd_Ly_hasSplit_51 (by decide) ?_
          exact ih16 (k3 + 1) _ _ _ (show mk_10 - (k3 + 1) < mk_10 - k3 by omega) (lv_sub hl [0, 1, 2, 3] rfl) hP hD hS ⟨(show (k3 + 1) ≤ mk_10 from by first | assumption | omega), (show ∀ j8, j8 < (k3 + 1) → ¬ SB g (RWb E n k) n (mdv g n k) y j8 from fun j hj => by
        rcases Nat.lt_or_ge j k3 with z | z
        · exact hno3 j z
        · rw [show j = k3 by omega]; exact z39)⟩
theorem k6a_0 : (Cond.code xy_Ly_hasCycle xb_Ly_hasCycle 2 (some .boolean)) ∈ wT := wT_t (List.mem_append_right _ (List.mem_append_right _ (List.mem_append_right _ (List.mem_append_left _ (List.mem_of_getElem? (i := 7) rfl))))) rfl
theorem k6a_1 : (Cond.methodLink "LayerDesk" 208 xy_Ly_hasCycle) ∈ wT := wT_t (List.mem_append_right _ (List.mem_append_right _ (List.mem_append_right _ (List.mem_append_left _ (List.mem_of_getElem? (i := 4) rfl))))) rfl
theorem k6a_2 : (Cond.instanceMethod xy_Ly_hasCycle) ∈ wT := wT_t (List.mem_append_right _ (List.mem_append_right _ (List.mem_append_right _ (List.mem_append_left _ (List.mem_of_getElem? (i := 5) rfl))))) rfl
theorem k6a_3 : (Cond.selects "LayerDesk$Layer" xy_Ly_hasCycle xy_Ly_hasCycle) ∈ wT := wT_t (List.mem_append_right _ (List.mem_append_right _ (List.mem_append_right _ (List.mem_append_left _ (List.mem_of_getElem? (i := 6) rfl))))) rfl
theorem k6a_4 : (Cond.initialized "LayerDesk$Layer") ∈ wT := wT_t (List.mem_append_left _ (List.mem_of_getElem? (i := 19) rfl)) rfl
theorem k6a_5 : (Cond.code xy_Ly_hasSplit xb_Ly_hasSplit 4 (some .boolean)) ∈ wT := wT_t (List.mem_append_right _ (List.mem_append_right _ (List.mem_append_right _ (List.mem_append_left _ (List.mem_of_getElem? (i := 11) rfl))))) rfl
theorem k6a_6 : (Cond.methodLink "LayerDesk" 211 xy_Ly_hasSplit) ∈ wT := wT_t (List.mem_append_right _ (List.mem_append_right _ (List.mem_append_right _ (List.mem_append_left _ (List.mem_of_getElem? (i := 8) rfl))))) rfl
theorem k6a_7 : (Cond.instanceMethod xy_Ly_hasSplit) ∈ wT := wT_t (List.mem_append_right _ (List.mem_append_right _ (List.mem_append_right _ (List.mem_append_left _ (List.mem_of_getElem? (i := 9) rfl))))) rfl
theorem k6a_8 : (Cond.selects "LayerDesk$Layer" xy_Ly_hasSplit xy_Ly_hasSplit) ∈ wT := wT_t (List.mem_append_right _ (List.mem_append_right _ (List.mem_append_right _ (List.mem_append_left _ (List.mem_of_getElem? (i := 10) rfl))))) rfl
theorem k6a_9 : (Cond.fieldLink "LayerDesk" 38 "LayerDesk" "made" "I") ∈ wT := wT_t (List.mem_append_left _ (List.mem_of_getElem? (i := 103) rfl)) rfl
set_option maxHeartbeats 4000000 in
set_option maxRecDepth 100000 in
theorem xc_De_faultOfX (l : Launch) (D : va_G) (kA : Nat → ClassId) (sz : Nat) (ad : Nat → Nat → Nat) (E : Nat → Nat → va_E) (RL : List (Nat × Nat)) (g : Nat → Nat → Int32) (ml : Nat) (nd : Nat) (len : Nat) (wn : Nat) (cs : Nat) (hCI : CI kA ad E RL ml nd len wn cs) (hLI : LI kA ad E RL nd ml) (hTD : TDs g E nd) (hTLx : TLas g ad E nd (ml + 1)) (hLB : LBs g E ml) (hRB : RBs g E ml) (hNZ : NZ g nd) (hND : NDq g (ml + 1)) (hU : ∀ la, la < ml + 1 → ∀ k, k < mcv g la → UQ1 g (mdv g la k)) : Met l xy_De_faultOf (.code xy_De_faultOf xb_De_faultOf 2 (some .int) :: wT) { frames := 6, cells := 0, slots := 0, locals := 137 } (va_Pc [.ref (ad 0 0), .ref (ad (20 + ml) 0)] (xPre D kA sz (rp ad E RL))) (va_Qi (fun (r : Int32) (u : Unit) => r = nI (rsW g ml (mcv g ml))) (fun (u : Unit) t => va_P D xcl (rp ad E RL) t.heap ∧ va_D (va_A (rp ad E RL) sz) (rp ad E RL)) (va_A (rp ad E RL) sz)) 0 0 (va_A (rp ad E RL) sz) := by
  refine Met.ofW (cc := xb_De_faultOf) (maxL := 2) (ret := (some .int)) (by decide) rfl ?_
  intro p e s m args below meth c s₁ B hml hv
  obtain ⟨rfl, hsz, hP, hK, hD0⟩ := hv
  have hx := B.exec
  have hb := B.bytes
  have hr := B.returns
  have hT := x_hT B.pre
  have hown : s.vm.findClass xR_De = some m.cls := findClass_of_methodNamed B.named
  have hlocks := B.notSynchronized
  subst hsz
  have hD := hD0.self (sz := s.heap.size)
  generalize hAe : va_A (rp ad E RL) s.heap.size = A at hD ⊢
  have hA : ∀ q : Nat, s.heap.size ≤ q → A q := fun q h => by rw [← hAe]; exact Or.inr h
  have hS : va_S A s.heap s.heap [] := va_S.rf
  have hl := lv_entry ([.ref (ad 0 0), .ref (ad (20 + ml) 0)]) (n := 2) (Nat.le_of_ble_eq_true rfl)
  rw [lg_entry_eq]
  generalize (lg_sl ([.ref (ad 0 0), .ref (ad (20 + ml) 0)]) ++ List.replicate (2 - (lg_sl ([.ref (ad 0 0), .ref (ad (20 + ml) 0)])).length) Slot.unset).toArray = ls at hl ⊢
  have hl : lv_has ls 2 [(0, .ref (ad 0 0)), (1, .ref (ad (20 + ml) 0))] := hl
  have hP : va_P D xcl (rp ad E RL) s.heap := hP
  obtain ⟨hmB, hDk, hLi, hSh, hCh, hLa, hDIs, hLIs⟩ := id hCI
  obtain ⟨lf_1, q_1⟩ := id (hDk)
  have c_2 : E 0 0 = .inr (0, [.ref (ad 0 1), .ref (ad 0 5), .ref (ad 0 7), .ref (ad 0 9), .int (nI ml), .int lf_1]) := q_1
  have m_3 : (0, 0) ∈ RL := hmB 0 (by omega)
  obtain ⟨fd_4, hnd_4, q5_4, q6_4, hds_4⟩ := id (hSh)
  have c_5 : E 0 5 = .inr (2, [.ref (ad 0 6), .int (nI nd)]) := q5_4
  have m_6 : (0, 5) ∈ RL := hmB 5 (by omega)
  have c_7 : E 0 6 = .inl (kA 4, 12, .inr (.inr (.inr (.inr fd_4)))) := q6_4
  have m_8 : (0, 6) ∈ RL := hmB 6 (by omega)
  obtain ⟨fl_9, hml_9, q9_9, hla_9⟩ := id (hLa)
  have c_10 : E 0 9 = .inl (kA 5, 5, .inr (.inr (.inr (.inr fl_9)))) := q9_9
  have m_11 : (0, 9) ∈ RL := hmB 9 (by omega)
  have hLIx := LIs_add hLIs hLI
  have hnd12 : nd ≤ 12 := by omega
  have hml5 : ml ≤ 5 := by omega
  have hLKP : LKP g (ml + 1) := LKP_L (by omega) hnd12 hLIx hTLx
  have h21x : ∀ k, k < mcv g ml → g 21 (12 * ml + k) = nI (mdv g ml k) := fun k hk => T_21 hnd12 (by omega) hLIx hTLx hk
  have hCYi := CYC_iff (R := fun k t => BS (eA (E (20 + ml) (15 + 10 * k))) t) hLKP h21x hLB
  have hSPi := SPL_iff (R := fun k => RWb E ml k) (by omega) hLKP hND hU h21x hRB
  refine lv_aload_n hx hb xd_De_faultOf_0 rfl (lv_at hl 1 rfl) ?_
  have hFc := px_free hD hS hA
  obtain ⟨m0_12, m1_12, pv_12, op_12, mk_12, fm_12, hmk_12, hpv_12, q0_12, q1_12, hk_12⟩ := id (hLI)
  have c_13 : E (20 + ml) 0 = .inr (5, [.int (nI ml), pv_12, .ref (ad (20 + ml) 1), .int op_12]) := q0_12
  have m_14 : (20 + ml, 0) ∈ RL := m0_12
  have c_15 : E (20 + ml) 1 = .inl (kA 6, mk_12, .inr (.inr (.inr (.inr fm_12)))) := q1_12
  have m_16 : (20 + ml, 1) ∈ RL := m1_12
  refine va_calli (va_runV (As := []) (rest := []) ⟨hx, hb, hml, hown, hT⟩ (xc_Ly_hasCycleX l D kA s.heap.size ad E RL g nd (ml + 1) ml (by first | assumption | omega) hLIx (by first | assumption | omega) (by first | assumption | omega) (by first | assumption | omega) hTLx (by first | assumption | omega)) (cwV 0 hT (wT_V k6a_1 k6a_2 k6a_3 k6a_4 k6a_0) rfl rfl rfl (by decide +kernel) ⟨Nat.le_of_ble_eq_true rfl, Nat.le_of_ble_eq_true rfl⟩) (px_preV hK hP hD m_14 c_13 rfl) rfl rfl hl.1 rfl (lv_room (Nat.le_of_ble_eq_true rfl)) xd_De_faultOf_1 ⟨(Nat.le_of_ble_eq_true rfl), (Nat.le_of_ble_eq_true rfl)⟩) hS (fun q _ h => hFc q h) hFc (fun r17 u18 t H1 locs ht hvm hp19 hB hz1 hk1 hS => ?_)
  obtain ⟨hP1, hD1⟩ := hB
  rw [ht] at hP1
  have hD1 := hD1.weaken (fun _ _ _ h => hFc _ h)
  generalize H1 = H at hP1 hS ⊢
  have hP := hP1
  have hD := hD1
  have hP : va_P D xcl (rp ad E RL) H := hP
  have hD : va_D A (rp ad E RL) := hD
  rcases hp19 with ⟨rfl, z20⟩ | ⟨rfl, z21⟩
  · refine W.eq (g2 := F0 m 4 ls [.int 1]) rfl ?_
    refine lv_if_eq (tgt := 9) hx hb xd_De_faultOf_4 (by decide) (fun hc22 => absurd hc22 (by decide)) (fun _ => ?_)
    refine lv_iconst (v := 1) hx hb xd_De_faultOf_7 (by decide) ?_
    exact W.iret (v := 1) hx hb hr (fun t ht hW => ⟨⟨1, (), rfl, by rw [show rsW g ml (mcv g ml) = 1 from by unfold rsW; rw [cif_pos (hCYi.mp z20)]]; rfl, by rw [ht]; exact hP, hD⟩, hS.F ht⟩) hS.2.2 xd_De_faultOf_8
  · refine W.eq (g2 := F0 m 4 ls [.int 0]) rfl ?_
    refine lv_if_eq (tgt := 9) hx hb xd_De_faultOf_4 (by decide) (fun _ => ?_) (fun hc23 => absurd (by decide) hc23)
    refine lv_aload_n hx hb xd_De_faultOf_9 rfl (lv_at hl 1 rfl) ?_
    have hFc := px_free hD hS hA
    refine va_calli (va_runV (As := []) (rest := []) ⟨hx, hb, hml, hown, hT⟩ (xc_Ly_hasSplitX l D kA H.size ad E RL g nd (ml + 1) ml (by first | assumption | omega) hLIx (by first | assumption | omega) (by first | assumption | omega) (by first | assumption | omega) hTLx (by first | assumption | omega) (by first | assumption | omega)) (cwV 0 hT (wT_V k6a_6 k6a_7 k6a_8 k6a_4 k6a_5) rfl rfl rfl (by decide +kernel) ⟨Nat.le_of_ble_eq_true rfl, Nat.le_of_ble_eq_true rfl⟩) (px_preV hK hP hD m_14 c_13 rfl) rfl rfl hl.1 rfl (lv_room (Nat.le_of_ble_eq_true rfl)) xd_De_faultOf_10 ⟨(Nat.le_of_ble_eq_true rfl), (Nat.le_of_ble_eq_true rfl)⟩) hS (fun q _ h => hFc q h) hFc (fun r24 u25 t H1 locs ht hvm hp26 hB hz1 hk1 hS => ?_)
    obtain ⟨hP1, hD1⟩ := hB
    rw [ht] at hP1
    have hD1 := hD1.weaken (fun _ _ _ h => hFc _ h)
    generalize H1 = H at hP1 hS ⊢
    have hP := hP1
    have hD := hD1
    have hP : va_P D xcl (rp ad E RL) H := hP
    have hD : va_D A (rp ad E RL) := hD
    rcases hp26 with ⟨rfl, z27⟩ | ⟨rfl, z28⟩
    · refine W.eq (g2 := F0 m 13 ls [.int 1]) rfl ?_
      refine lv_if_eq (tgt := 18) hx hb xd_De_faultOf_13 (by decide) (fun hc29 => absurd hc29 (by decide)) (fun _ => ?_)
      refine lv_iconst (v := 2) hx hb xd_De_faultOf_16 (by decide) ?_
      exact W.iret (v := 2) hx hb hr (fun t ht hW => ⟨⟨2, (), rfl, by rw [show rsW g ml (mcv g ml) = 2 from by unfold rsW; rw [cif_neg (fun q => z21 (hCYi.mpr q)), cif_pos (hSPi.mp z27)]]; rfl, by rw [ht]; exact hP, hD⟩, hS.F ht⟩) hS.2.2 xd_De_faultOf_17
    · refine W.eq (g2 := F0 m 13 ls [.int 0]) rfl ?_
      refine lv_if_eq (tgt := 18) hx hb xd_De_faultOf_13 (by decide) (fun _ => ?_) (fun hc30 => absurd (by decide) hc30)
      refine lv_aload_n hx hb xd_De_faultOf_18 rfl (lv_at hl 0 rfl) ?_
      refine px_get (D := D) (ci := 0) (v := .int (nI ml)) (C := xR_De) (T := xT_De) (N := 6) hx hb hT xi_De hown hK.1 hP m_3 c_2 rfl 4 (by decide) (hT _ k6a_9) (fun _ h9 => h9) rfl xd_De_faultOf_19 ?_
      refine lv_iconst (v := 5) hx hb xd_De_faultOf_22 (by decide) ?_
      refine xn_lt (a := ml) (b := 5) (tgt := 30) hx hb xd_De_faultOf_23 (by decide) (by omega) (by omega) (fun hc31 => ?_) (fun hc31 => ?_)
      · refine lv_iconst (v := 0) hx hb xd_De_faultOf_30 (by decide) ?_
        exact W.iret (v := 0) hx hb hr (fun t ht hW => ⟨⟨0, (), rfl, by rw [show rsW g ml (mcv g ml) = 0 from by unfold rsW; rw [cif_neg (fun q => z21 (hCYi.mpr q)), cif_neg (fun q => z28 (hSPi.mpr q)), cif_neg (by omega)]]; rfl, by rw [ht]; exact hP, hD⟩, hS.F ht⟩) hS.2.2 xd_De_faultOf_31
      · refine lv_iconst (v := 3) hx hb xd_De_faultOf_26 (by decide) ?_
        refine lv_goto (tgt := 31) hx hb xd_De_faultOf_27 (by decide) ?_
        exact W.iret (v := 3) hx hb hr (fun t ht hW => ⟨⟨3, (), rfl, by rw [show rsW g ml (mcv g ml) = 3 from by unfold rsW; rw [cif_neg (fun q => z21 (hCYi.mpr q)), cif_neg (fun q => z28 (hSPi.mpr q)), cif_pos (by omega)]]; rfl, by rw [ht]; exact hP, hD⟩, hS.F ht⟩) hS.2.2 xd_De_faultOf_31
theorem up_up {g : gT} {k : Nat} {f1 f2 : Nat → Int32} : va_up (va_up g k f1) k f2 = va_up g k f2 := by
  funext j
  by_cases h : j = k
  · rw [h, vu_eq, vu_eq]
  · rw [vu_ne h, vu_ne h, vu_ne h]
theorem TD_k {g : gT} {f1 f2 : Nat → Int32} {e e' : Nat → va_E} {d : Nat} {fd nm sd x : Int32} {v0 v3 v4 v5 v6 v7 v8 v9 v10 w0 w3 w4 w5 w6 w7 w8 w9 w10 : Value} (h : TD (va_up g 11 f1) e d) (c0 : e 0 = .inr (7, [v0, .int fd, .int nm, v3, v4, v5, v6, v7, v8, v9, v10, .int sd])) (c1 : e' 0 = .inr (7, [w0, .int fd, .int nm, w3, w4, w5, w6, w7, w8, w9, w10, .int x])) (he : ∀ o, ¬ o = 0 → e' o = e o) (hf : f2 d = x) : TD (va_up g 11 f2) e' d := by
  have q := TD_set11 (f := f2) h c0 c1 he hf
  rw [up_up] at q; exact q
