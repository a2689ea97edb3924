theorem k5j_0 : (Cond.fieldLink "LayerDesk$Shelf" 27 "LayerDesk$Line" "words" "I") ∈ wT := wT_t (List.mem_append_left _ (List.mem_of_getElem? (i := 41) rfl)) rfl
theorem k5j_1 : (Cond.code xy_Li_wordIs xb_Li_wordIs 4 (some .boolean)) ∈ wT := wT_t (List.mem_append_left _ (List.mem_of_getElem? (i := 199) rfl)) rfl
theorem k5j_2 : (Cond.methodLink "LayerDesk$Shelf" 34 xy_Li_wordIs) ∈ wT := wT_t (List.mem_append_left _ (List.mem_of_getElem? (i := 196) rfl)) rfl
theorem k5j_3 : (Cond.instanceMethod xy_Li_wordIs) ∈ wT := wT_t (List.mem_append_left _ (List.mem_of_getElem? (i := 197) rfl)) rfl
theorem k5j_4 : (Cond.selects "LayerDesk$Line" xy_Li_wordIs xy_Li_wordIs) ∈ wT := wT_t (List.mem_append_left _ (List.mem_of_getElem? (i := 198) rfl)) rfl
theorem k5j_5 : (Cond.initialized "LayerDesk$Line") ∈ wT := wT_t (List.mem_append_left _ (List.mem_of_getElem? (i := 2) rfl)) rfl
theorem k5j_6 : (Cond.code xy_Sh_acceptDescriptor xb_Sh_acceptDescriptor 5 (some .int)) ∈ wT := wT_t (List.mem_append_right _ (List.mem_append_left _ (List.mem_of_getElem? (i := 11) rfl))) rfl
theorem k5j_7 : (Cond.methodLink "LayerDesk$Shelf" 38 xy_Sh_acceptDescriptor) ∈ wT := wT_t (List.mem_append_right _ (List.mem_append_left _ (List.mem_of_getElem? (i := 8) rfl))) rfl
theorem k5j_8 : (Cond.instanceMethod xy_Sh_acceptDescriptor) ∈ wT := wT_t (List.mem_append_right _ (List.mem_append_left _ (List.mem_of_getElem? (i := 10) rfl))) rfl
theorem k5j_9 : (Cond.selects "LayerDesk$Shelf" xy_Sh_acceptDescriptor xy_Sh_acceptDescriptor) ∈ wT := wT_s (q := (xy_Sh_acceptDescriptor, 2)) (by decide +kernel) rfl
theorem k5j_10 : (Cond.initialized "LayerDesk$Shelf") ∈ wT := wT_t (List.mem_append_left _ (List.mem_of_getElem? (i := 3) rfl)) rfl
theorem k5j_11 : (Cond.code xy_Sh_acceptPackage xb_Sh_acceptPackage 4 (some .int)) ∈ wT := wT_t (List.mem_append_right _ (List.mem_append_left _ (List.mem_of_getElem? (i := 115) rfl))) rfl
theorem k5j_12 : (Cond.methodLink "LayerDesk$Shelf" 44 xy_Sh_acceptPackage) ∈ wT := wT_t (List.mem_append_right _ (List.mem_append_left _ (List.mem_of_getElem? (i := 112) rfl))) rfl
theorem k5j_13 : (Cond.instanceMethod xy_Sh_acceptPackage) ∈ wT := wT_t (List.mem_append_right _ (List.mem_append_left _ (List.mem_of_getElem? (i := 114) rfl))) rfl
theorem k5j_14 : (Cond.selects "LayerDesk$Shelf" xy_Sh_acceptPackage xy_Sh_acceptPackage) ∈ wT := wT_s (q := (xy_Sh_acceptPackage, 2)) (by decide +kernel) rfl
theorem k5j_15 : (Cond.code xy_Sh_acceptGrant xb_Sh_acceptGrant 7 (some .int)) ∈ wT := wT_t (List.mem_append_right _ (List.mem_append_left _ (List.mem_of_getElem? (i := 161) rfl))) rfl
theorem k5j_16 : (Cond.methodLink "LayerDesk$Shelf" 51 xy_Sh_acceptGrant) ∈ wT := wT_t (List.mem_append_right _ (List.mem_append_left _ (List.mem_of_getElem? (i := 158) rfl))) rfl
theorem k5j_17 : (Cond.instanceMethod xy_Sh_acceptGrant) ∈ wT := wT_t (List.mem_append_right _ (List.mem_append_left _ (List.mem_of_getElem? (i := 160) rfl))) rfl
theorem k5j_18 : (Cond.selects "LayerDesk$Shelf" xy_Sh_acceptGrant xy_Sh_acceptGrant) ∈ wT := wT_s (q := (xy_Sh_acceptGrant, 2)) (by decide +kernel) rfl
theorem k5j_19 : (Cond.code xy_Sh_acceptRequired xb_Sh_acceptRequired 7 (some .int)) ∈ wT := wT_t (List.mem_append_right _ (List.mem_append_left _ (List.mem_of_getElem? (i := 191) rfl))) rfl
theorem k5j_20 : (Cond.methodLink "LayerDesk$Shelf" 56 xy_Sh_acceptRequired) ∈ wT := wT_t (List.mem_append_right _ (List.mem_append_left _ (List.mem_of_getElem? (i := 188) rfl))) rfl
theorem k5j_21 : (Cond.instanceMethod xy_Sh_acceptRequired) ∈ wT := wT_t (List.mem_append_right _ (List.mem_append_left _ (List.mem_of_getElem? (i := 190) rfl))) rfl
theorem k5j_22 : (Cond.selects "LayerDesk$Shelf" xy_Sh_acceptRequired xy_Sh_acceptRequired) ∈ wT := wT_s (q := (xy_Sh_acceptRequired, 2)) (by decide +kernel) rfl
theorem k5j_23 : (Cond.code xy_Sh_acceptService xb_Sh_acceptService 5 (some .int)) ∈ wT := wT_t (List.mem_append_right _ (List.mem_append_left _ (List.mem_of_getElem? (i := 203) rfl))) rfl
theorem k5j_24 : (Cond.methodLink "LayerDesk$Shelf" 63 xy_Sh_acceptService) ∈ wT := wT_t (List.mem_append_right _ (List.mem_append_left _ (List.mem_of_getElem? (i := 200) rfl))) rfl
theorem k5j_25 : (Cond.instanceMethod xy_Sh_acceptService) ∈ wT := wT_t (List.mem_append_right _ (List.mem_append_left _ (List.mem_of_getElem? (i := 202) rfl))) rfl
theorem k5j_26 : (Cond.selects "LayerDesk$Shelf" xy_Sh_acceptService xy_Sh_acceptService) ∈ wT := wT_s (q := (xy_Sh_acceptService, 2)) (by decide +kernel) rfl
set_option maxHeartbeats 4000000 in
set_option maxRecDepth 100000 in
theorem xc_Sh_acceptX (l : Launch) (D : va_G) (kA : Nat → ClassId) (sz : Nat) (ad : Nat → Nat → Nat) (E : Nat → Nat → va_E) (RL : List (Nat × Nat)) (Z : zT) (g : Nat → Nat → Int32) (ml : Nat) (nd : Nat) (len : Nat) (lt : Nat) (wl : List (Nat × Nat)) (cs : Nat) (hCI : CI kA ad E RL ml nd len wl.length cs) (hLW : LW g E lt wl) (hTD : TDs g E nd) (hZI : ZI g nd) : Met l xy_Sh_accept (.code xy_Sh_accept xb_Sh_accept 2 (some .int) :: wT) { frames := 6, cells := 13, slots := 66, locals := 134 } (va_Pc [.ref (ad 0 5), .ref (ad 0 1)] (xPreZ D kA sz (rp ad E RL) Z)) (va_Qi (fun (r : Int32) (u : (Nat → Nat → Nat) × (Nat → Nat → va_E) × List (Nat × Nat)) => CI kA u.1 u.2.1 u.2.2 ml (lnF (g 0) wl nd g).1 len wl.length cs ∧ TDs (lnF (g 0) wl nd g).2 u.2.1 (lnF (g 0) wl nd g).1 ∧ u.1 0 0 = ad 0 0 ∧ FRL ml nd ad u.1 E u.2.1) (fun (u : (Nat → Nat → Nat) × (Nat → Nat → va_E) × List (Nat × Nat)) t => va_P D xcl (rp u.1 u.2.1 u.2.2) t.heap ∧ va_D (va_A (rp ad E RL) sz) (rp u.1 u.2.1 u.2.2)) (va_A (rp ad E RL) sz)) 13 66 (va_A (rp ad E RL) sz) := by
  refine Met.ofW (cc := xb_Sh_accept) (maxL := 2) (ret := (some .int)) (by decide) rfl ?_
  intro p e s m args below meth c s₁ B hml hv
  obtain ⟨rfl, ⟨hsz, hP, hK, hD0⟩, hZ⟩ := hv
  have hx := B.exec
  have hb := B.bytes
  have hr := B.returns
  have hT := x_hT B.pre
  have hown : s.vm.findClass xR_Sh = some m.cls := findClass_of_methodNamed B.named
  have hlocks := B.notSynchronized
  subst hsz
  have hD := hD0.self (sz := s.heap.size)
  generalize hAe : va_A (rp ad E RL) s.heap.size = A at hD hZ ⊢
  have hA : ∀ q : Nat, s.heap.size ≤ q → A q := fun q h => by rw [← hAe]; exact Or.inr h
  have hS : va_S A s.heap s.heap [] := va_S.rf
  have hl := lv_entry ([.ref (ad 0 5), .ref (ad 0 1)]) (n := 2) (Nat.le_of_ble_eq_true rfl)
  rw [lg_entry_eq]
  generalize (lg_sl ([.ref (ad 0 5), .ref (ad 0 1)]) ++ List.replicate (2 - (lg_sl ([.ref (ad 0 5), .ref (ad 0 1)])).length) Slot.unset).toArray = ls at hl ⊢
  have hl : lv_has ls 2 [(0, .ref (ad 0 5)), (1, .ref (ad 0 1))] := hl
  have hP : va_P D xcl (rp ad E RL) s.heap := hP
  obtain ⟨hmB, hDk, hLi, hSh, hCh, hLa, hDIs, hLIs⟩ := id hCI
  obtain ⟨hWL, hlt40, hLwd, hLtx⟩ := id hLW
  obtain ⟨tx_1, fb_1, fe_1, hl1_1, hw2_1, q1_1, q2_1, q3_1, q4_1, hws_1⟩ := id (hLi)
  have c_2 : E 0 1 = .inr (1, [.ref (ad 0 2), .ref (ad 0 3), .ref (ad 0 4), .int (nI len), .int (nI (wl.length))]) := q1_1
  have m_3 : (0, 1) ∈ RL := hmB 1 (by omega)
  have c_4 : E 0 2 = .inl (kA 1, 40, .inl tx_1) := q2_1
  have m_5 : (0, 2) ∈ RL := hmB 2 (by omega)
  have c_6 : E 0 3 = .inl (kA 0, 20, .inl fb_1) := q3_1
  have m_7 : (0, 3) ∈ RL := hmB 3 (by omega)
  have c_8 : E 0 4 = .inl (kA 0, 20, .inl fe_1) := q4_1
  have m_9 : (0, 4) ∈ RL := hmB 4 (by omega)
  obtain ⟨zw0, zw1, zw2, zw3, zw4, zw5, zw6, zw7, zw8, zw9, zw10, zw11⟩ := zW_all
  refine lv_aload_n hx hb xd_Sh_accept_0 rfl (lv_at hl 1 rfl) ?_
  refine px_get (D := D) (ci := 1) (v := .int (nI (wl.length))) (C := xR_Li) (T := xT_Li) (N := 5) hx hb hT xi_Li hown hK.1 hP m_3 c_2 rfl 4 (by decide) (hT _ k5j_0) (fun _ h9 => h9) rfl xd_Sh_accept_1 ?_
  refine xz_ne (a := wl.length) (tgt := 9) hx hb xd_Sh_accept_4 (by decide) (by omega) (fun hc10 => ?_) (fun hc10 => ?_)
  · refine lv_aload_n hx hb xd_Sh_accept_9 rfl (lv_at hl 1 rfl) ?_
    refine lv_iconst (v := 0) hx hb xd_Sh_accept_10 (by decide) ?_
    refine va_ldcS (q := Z.1 0) hx hb hown hZ.2.2.2.1.1 xd_Sh_accept_11 ?_
    have hFc := px_free hD hS hA
    refine va_calli (va_runV (As := [.int 0, .ref (Z.1 0)]) (rest := []) ⟨hx, hb, hml, hown, hT⟩ (xc_Li_wordIsX l D kA s.heap.size ad E RL Z g ml nd len lt wl cs 0 0 (by first | assumption | omega) (by first | assumption | omega) (by first | assumption | omega) (by first | assumption | omega)) (cwV 2 hT (wT_V k5j_2 k5j_3 k5j_4 k5j_5 k5j_1) rfl rfl rfl (by decide +kernel) ⟨Nat.le_of_ble_eq_true rfl, Nat.le_of_ble_eq_true rfl⟩) (px_preVZ hK hP hD m_3 c_2 rfl hFc (hZ.kept hS)) rfl rfl hl.1 rfl (lv_room (Nat.le_of_ble_eq_true rfl)) xd_Sh_accept_13 ⟨(Nat.le_of_ble_eq_true rfl), (Nat.le_of_ble_eq_true rfl)⟩) hS (fun q _ h => hFc q h) hFc (fun r11 u12 t H1 locs ht hvm hp13 hB hz1 hk1 hS => ?_)
    obtain ⟨hP1, hD1⟩ := hB
    rw [ht] at hP1
    have hD1 := hD1.weaken (fun _ _ _ h => hFc _ h)
    generalize H1 = H at hP1 hS ⊢
    have hP := hP1
    have hD := hD1
    have hP : va_P D xcl (rp ad E RL) H := hP
    have hD : va_D A (rp ad E RL) := hD
    rcases hp13 with ⟨rfl, z14⟩ | ⟨rfl, z15⟩
    · have hw0 : wS (g 0) wl 0 zMo := by have q := z14; rw [zw0] at q; exact q
      refine W.eq (g2 := F0 m 16 ls [.int 1]) rfl ?_
      refine lv_if_eq (tgt := 25) hx hb xd_Sh_accept_16 (by decide) (fun hc16 => absurd hc16 (by decide)) (fun _ => ?_)
      refine lv_aload_n hx hb xd_Sh_accept_19 rfl (lv_at hl 0 rfl) ?_
      refine lv_aload_n hx hb xd_Sh_accept_20 rfl (lv_at hl 1 rfl) ?_
      have hFc := px_free hD hS hA
      obtain ⟨fd_17, hnd_17, q5_17, q6_17, hds_17⟩ := id (hSh)
      have c_18 : E 0 5 = .inr (2, [.ref (ad 0 6), .int (nI nd)]) := q5_17
      have m_19 : (0, 5) ∈ RL := hmB 5 (by omega)
      have c_20 : E 0 6 = .inl (kA 4, 12, .inr (.inr (.inr (.inr fd_17)))) := q6_17
      have m_21 : (0, 6) ∈ RL := hmB 6 (by omega)
      refine va_calli (va_runV (As := [.ref (ad 0 1)]) (rest := []) ⟨hx, hb, hml, hown, hT⟩ (xc_Sh_acceptDescriptorX l D kA H.size ad E RL Z g ml nd len lt wl cs (by first | assumption | omega) (by first | assumption | omega) (by first | assumption | omega) (by first | assumption | omega)) (cwV 1 hT (wT_V k5j_7 k5j_8 k5j_9 k5j_10 k5j_6) rfl rfl rfl (by decide +kernel) ⟨Nat.le_of_ble_eq_true rfl, Nat.le_of_ble_eq_true rfl⟩) (px_preVZ hK hP hD m_19 c_18 rfl hFc (hZ.kept hS)) rfl rfl hl.1 rfl (lv_room (Nat.le_of_ble_eq_true rfl)) xd_Sh_accept_21 ⟨(Nat.le_of_ble_eq_true rfl), (Nat.le_of_ble_eq_true rfl)⟩) hS (fun q _ h => hFc q h) hFc (fun r22 u23 t H1 locs ht hvm hp24 hB hz1 hk1 hS => ?_)
      obtain ⟨hP1, hD1⟩ := hB
      rw [ht] at hP1
      have hD1 := hD1.weaken (fun _ _ _ h => hFc _ h)
      generalize H1 = H at hP1 hS ⊢
      have hP := hP1
      have hD := hD1
      obtain ⟨ad25, E26, RL27⟩ := u23
      have hl := lv_sub hl [] rfl
      have hl : lv_has ls 2 [] := hl
      have hP : va_P D xcl (rp ad25 E26 RL27) H := hP
      have hD : va_D A (rp ad25 E26 RL27) := hD
      have hCIx := hp24
      refine W.widen (k := 13) (n := 66) (Nat.le_of_ble_eq_true rfl) (Nat.le_of_ble_eq_true rfl) ?_
      exact W.iret (v := r22) hx hb hr (fun t ht hW => ⟨⟨r22, (ad25, E26, RL27), rfl, (by
        have e9 : lnF (g 0) wl nd g = lD (g 0) wl nd g := by unfold lnF; rw [cif_pos hw0]
        rw [e9]; exact hCIx), by rw [ht]; exact hP, hD⟩, hS.F ht⟩) hS.2.2 xd_Sh_accept_24
    · have hw0 : ¬ wS (g 0) wl 0 zMo := by have q := z15; rw [zw0] at q; exact q
      refine W.eq (g2 := F0 m 16 ls [.int 0]) rfl ?_
      refine lv_if_eq (tgt := 25) hx hb xd_Sh_accept_16 (by decide) (fun _ => ?_) (fun hc28 => absurd (by decide) hc28)
      refine lv_aload_n hx hb xd_Sh_accept_25 rfl (lv_at hl 1 rfl) ?_
      refine lv_iconst (v := 0) hx hb xd_Sh_accept_26 (by decide) ?_
      refine va_ldcS (q := Z.1 1) hx hb hown hZ.2.2.2.1.2.1 xd_Sh_accept_27 ?_
      have hFc := px_free hD hS hA
      refine va_calli (va_runV (As := [.int 0, .ref (Z.1 1)]) (rest := []) ⟨hx, hb, hml, hown, hT⟩ (xc_Li_wordIsX l D kA H.size ad E RL Z g ml nd len lt wl cs 0 1 (by first | assumption | omega) (by first | assumption | omega) (by first | assumption | omega) (by first | assumption | omega)) (cwV 2 hT (wT_V k5j_2 k5j_3 k5j_4 k5j_5 k5j_1) rfl rfl rfl (by decide +kernel) ⟨Nat.le_of_ble_eq_true rfl, Nat.le_of_ble_eq_true rfl⟩) (px_preVZ hK hP hD m_3 c_2 rfl hFc (hZ.kept hS)) rfl rfl hl.1 rfl (lv_room (Nat.le_of_ble_eq_true rfl)) xd_Sh_accept_29 ⟨(Nat.le_of_ble_eq_true rfl), (Nat.le_of_ble_eq_true rfl)⟩) hS (fun q _ h => hFc q h) hFc (fun r29 u30 t H1 locs ht hvm hp31 hB hz1 hk1 hS => ?_)
      obtain ⟨hP1, hD1⟩ := hB
      rw [ht] at hP1
      have hD1 := hD1.weaken (fun _ _ _ h => hFc _ h)
      generalize H1 = H at hP1 hS ⊢
      have hP := hP1
      have hD := hD1
      have hP : va_P D xcl (rp ad E RL) H := hP
      have hD : va_D A (rp ad E RL) := hD
      rcases hp31 with ⟨rfl, z32⟩ | ⟨rfl, z33⟩
      · have hw1 : wS (g 0) wl 0 zPa := by have q := z32; rw [zw1] at q; exact q
        refine W.eq (g2 := F0 m 32 ls [.int 1]) rfl ?_
        refine lv_if_eq (tgt := 41) hx hb xd_Sh_accept_32 (by decide) (fun hc34 => absurd hc34 (by decide)) (fun _ => ?_)
        refine lv_aload_n hx hb xd_Sh_accept_35 rfl (lv_at hl 0 rfl) ?_
        refine lv_aload_n hx hb xd_Sh_accept_36 rfl (lv_at hl 1 rfl) ?_
        have hFc := px_free hD hS hA
        obtain ⟨fd_35, hnd_35, q5_35, q6_35, hds_35⟩ := id (hSh)
        have c_36 : E 0 5 = .inr (2, [.ref (ad 0 6), .int (nI nd)]) := q5_35
        have m_37 : (0, 5) ∈ RL := hmB 5 (by omega)
        have c_38 : E 0 6 = .inl (kA 4, 12, .inr (.inr (.inr (.inr fd_35)))) := q6_35
        have m_39 : (0, 6) ∈ RL := hmB 6 (by omega)
        refine va_calli (va_runV (As := [.ref (ad 0 1)]) (rest := []) ⟨hx, hb, hml, hown, hT⟩ (xc_Sh_acceptPackageX l D kA H.size ad E RL Z g ml nd len lt wl cs (by first | assumption | omega) (by first | assumption | omega) (by first | assumption | omega) (by first | assumption | omega)) (cwV 1 hT (wT_V k5j_12 k5j_13 k5j_14 k5j_10 k5j_11) rfl rfl rfl (by decide +kernel) ⟨Nat.le_of_ble_eq_true rfl, Nat.le_of_ble_eq_true rfl⟩) (px_preVZ hK hP hD m_37 c_36 rfl hFc (hZ.kept hS)) rfl rfl hl.1 rfl (lv_room (Nat.le_of_ble_eq_true rfl)) xd_Sh_accept_37 ⟨(Nat.le_of_ble_eq_true rfl), (Nat.le_of_ble_eq_true rfl)⟩) hS (fun q _ h => hFc q h) hFc (fun r40 u41 t H1 locs ht hvm hp42 hB hz1 hk1 hS => ?_)
        obtain ⟨hP1, hD1⟩ := hB
        rw [ht] at hP1
        have hD1 := hD1.weaken (fun _ _ _ h => hFc _ h)
        generalize H1 = H at hP1 hS ⊢
        have hP := hP1
        have hD := hD1
        obtain ⟨ad43, E44, RL45⟩ := u41
        have hl := lv_sub hl [] rfl
        have hl : lv_has ls 2 [] := hl
        have hP : va_P D xcl (rp ad43 E44 RL45) H := hP
        have hD : va_D A (rp ad43 E44 RL45) := hD
        have hCIx := hp42
        refine W.widen (k := 13) (n := 66) (Nat.le_of_ble_eq_true rfl) (Nat.le_of_ble_eq_true rfl) ?_
        exact W.iret (v := r40) hx hb hr (fun t ht hW => ⟨⟨r40, (ad43, E44, RL45), rfl, (by
        have e9 : lnF (g 0) wl nd g = (nd, lP (g 0) wl nd g) := by unfold lnF; rw [cif_neg hw0, cif_pos hw1]
        rw [e9]; exact hCIx), by rw [ht]; exact hP, hD⟩, hS.F ht⟩) hS.2.2 xd_Sh_accept_40
      · have hw1 : ¬ wS (g 0) wl 0 zPa := by have q := z33; rw [zw1] at q; exact q
        refine W.eq (g2 := F0 m 32 ls [.int 0]) rfl ?_
        refine lv_if_eq (tgt := 41) hx hb xd_Sh_accept_32 (by decide) (fun _ => ?_) (fun hc46 => absurd (by decide) hc46)
        refine lv_aload_n hx hb xd_Sh_accept_41 rfl (lv_at hl 1 rfl) ?_
        refine lv_iconst (v := 0) hx hb xd_Sh_accept_42 (by decide) ?_
        refine va_ldcS (q := Z.1 2) hx hb hown hZ.2.2.2.1.2.2.1 xd_Sh_accept_43 ?_
        have hFc := px_free hD hS hA
        refine va_calli (va_runV (As := [.int 0, .ref (Z.1 2)]) (rest := []) ⟨hx, hb, hml, hown, hT⟩ (xc_Li_wordIsX l D kA H.size ad E RL Z g ml nd len lt wl cs 0 2 (by first | assumption | omega) (by first | assumption | omega) (by first | assumption | omega) (by first | assumption | omega)) (cwV 2 hT (wT_V k5j_2 k5j_3 k5j_4 k5j_5 k5j_1) rfl rfl rfl (by decide +kernel) ⟨Nat.le_of_ble_eq_true rfl, Nat.le_of_ble_eq_true rfl⟩) (px_preVZ hK hP hD m_3 c_2 rfl hFc (hZ.kept hS)) rfl rfl hl.1 rfl (lv_room (Nat.le_of_ble_eq_true rfl)) xd_Sh_accept_45 ⟨(Nat.le_of_ble_eq_true rfl), (Nat.le_of_ble_eq_true rfl)⟩) hS (fun q _ h => hFc q h) hFc (fun r47 u48 t H1 locs ht hvm hp49 hB hz1 hk1 hS => ?_)
        obtain ⟨hP1, hD1⟩ := hB
        rw [ht] at hP1
        have hD1 := hD1.weaken (fun _ _ _ h => hFc _ h)
        generalize H1 = H at hP1 hS ⊢
        have hP := hP1
        have hD := hD1
        have hP : va_P D xcl (rp ad E RL) H := hP
        have hD : va_D A (rp ad E RL) := hD
        rcases hp49 with ⟨rfl, z50⟩ | ⟨rfl, z51⟩
        · have hw2 : wS (g 0) wl 0 zEx := by have q := z50; rw [zw2] at q; exact q
          refine W.eq (g2 := F0 m 48 ls [.int 1]) rfl ?_
          refine lv_if_ne (tgt := 61) hx hb xd_Sh_accept_48 (by decide) (fun _ => ?_) (fun hc52 => absurd hc52 (by decide))
          refine lv_aload_n hx hb xd_Sh_accept_61 rfl (lv_at hl 0 rfl) ?_
          refine lv_aload_n hx hb xd_Sh_accept_62 rfl (lv_at hl 1 rfl) ?_
          have hFc := px_free hD hS hA
          obtain ⟨fd_53, hnd_53, q5_53, q6_53, hds_53⟩ := id (hSh)
          have c_54 : E 0 5 = .inr (2, [.ref (ad 0 6), .int (nI nd)]) := q5_53
          have m_55 : (0, 5) ∈ RL := hmB 5 (by omega)
          have c_56 : E 0 6 = .inl (kA 4, 12, .inr (.inr (.inr (.inr fd_53)))) := q6_53
          have m_57 : (0, 6) ∈ RL := hmB 6 (by omega)
          refine va_calli (va_runV (As := [.ref (ad 0 1)]) (rest := []) ⟨hx, hb, hml, hown, hT⟩ (xc_Sh_acceptGrantX l D kA H.size ad E RL Z g ml nd len lt wl cs (by first | assumption | omega) (by first | assumption | omega) (by first | assumption | omega) (by first | assumption | omega)) (cwV 1 hT (wT_V k5j_16 k5j_17 k5j_18 k5j_10 k5j_15) rfl rfl rfl (by decide +kernel) ⟨Nat.le_of_ble_eq_true rfl, Nat.le_of_ble_eq_true rfl⟩) (px_preVZ hK hP hD m_55 c_54 rfl hFc (hZ.kept hS)) rfl rfl hl.1 rfl (lv_room (Nat.le_of_ble_eq_true rfl)) xd_Sh_accept_63 ⟨(Nat.le_of_ble_eq_true rfl), (Nat.le_of_ble_eq_true rfl)⟩) hS (fun q _ h => hFc q h) hFc (fun r58 u59 t H1 locs ht hvm hp60 hB hz1 hk1 hS => ?_)
          obtain ⟨hP1, hD1⟩ := hB
          rw [ht] at hP1
          have hD1 := hD1.weaken (fun _ _ _ h => hFc _ h)
          generalize H1 = H at hP1 hS ⊢
          have hP := hP1
          have hD := hD1
          obtain ⟨ad61, E62, RL63⟩ := u59
          have hl := lv_sub hl [] rfl
          have hl : lv_has ls 2 [] := hl
          have hP : va_P D xcl (rp ad61 E62 RL63) H := hP
          have hD : va_D A (rp ad61 E62 RL63) := hD
          have hCIx := hp60
          refine W.widen (k := 13) (n := 66) (Nat.le_of_ble_eq_true rfl) (Nat.le_of_ble_eq_true rfl) ?_
          exact W.iret (v := r58) hx hb hr (fun t ht hW => ⟨⟨r58, (ad61, E62, RL63), rfl, (by
        have e9 : lnF (g 0) wl nd g = (nd, lG 7 9 (g 0) wl nd g) := by unfold lnF; rw [cif_neg hw0, cif_neg hw1, cif_pos hw2]
        rw [cif_pos hw2] at hCIx
        rw [e9]; exact hCIx), by rw [ht]; exact hP, hD⟩, hS.F ht⟩) hS.2.2 xd_Sh_accept_66
        · have hw2 : ¬ wS (g 0) wl 0 zEx := by have q := z51; rw [zw2] at q; exact q
          refine W.eq (g2 := F0 m 48 ls [.int 0]) rfl ?_
          refine lv_if_ne (tgt := 61) hx hb xd_Sh_accept_48 (by decide) (fun hc64 => absurd (by decide) hc64) (fun _ => ?_)
          refine lv_aload_n hx hb xd_Sh_accept_51 rfl (lv_at hl 1 rfl) ?_
          refine lv_iconst (v := 0) hx hb xd_Sh_accept_52 (by decide) ?_
          refine va_ldcS (q := Z.1 3) hx hb hown hZ.2.2.2.1.2.2.2.1 xd_Sh_accept_53 ?_
          have hFc := px_free hD hS hA
          refine va_calli (va_runV (As := [.int 0, .ref (Z.1 3)]) (rest := []) ⟨hx, hb, hml, hown, hT⟩ (xc_Li_wordIsX l D kA H.size ad E RL Z g ml nd len lt wl cs 0 3 (by first | assumption | omega) (by first | assumption | omega) (by first | assumption | omega) (by first | assumption | omega)) (cwV 2 hT (wT_V k5j_2 k5j_3 k5j_4 k5j_5 k5j_1) rfl rfl rfl (by decide +kernel) ⟨Nat.le_of_ble_eq_true rfl, Nat.le_of_ble_eq_true rfl⟩) (px_preVZ hK hP hD m_3 c_2 rfl hFc (hZ.kept hS)) rfl rfl hl.1 rfl (lv_room (Nat.le_of_ble_eq_true rfl)) xd_Sh_accept_55 ⟨(Nat.le_of_ble_eq_true rfl), (Nat.le_of_ble_eq_true rfl)⟩) hS (fun q _ h => hFc q h) hFc (fun r65 u66 t H1 locs ht hvm hp67 hB hz1 hk1 hS => ?_)
          obtain ⟨hP1, hD1⟩ := hB
          rw [ht] at hP1
          have hD1 := hD1.weaken (fun _ _ _ h => hFc _ h)
          generalize H1 = H at hP1 hS ⊢
          have hP := hP1
          have hD := hD1
          have hP : va_P D xcl (rp ad E RL) H := hP
          have hD : va_D A (rp ad E RL) := hD
          rcases hp67 with ⟨rfl, z68⟩ | ⟨rfl, z69⟩
          · have hw3 : wS (g 0) wl 0 zOp := by have q := z68; rw [zw3] at q; exact q
            refine W.eq (g2 := F0 m 58 ls [.int 1]) rfl ?_
            refine lv_if_eq (tgt := 67) hx hb xd_Sh_accept_58 (by decide) (fun hc70 => absurd hc70 (by decide)) (fun _ => ?_)
            refine lv_aload_n hx hb xd_Sh_accept_61 rfl (lv_at hl 0 rfl) ?_
            refine lv_aload_n hx hb xd_Sh_accept_62 rfl (lv_at hl 1 rfl) ?_
            have hFc := px_free hD hS hA
            obtain ⟨fd_71, hnd_71, q5_71, q6_71, hds_71⟩ := id (hSh)
            have c_72 : E 0 5 = .inr (2, [.ref (ad 0 6), .int (nI nd)]) := q5_71
            have m_73 : (0, 5) ∈ RL := hmB 5 (by omega)
            have c_74 : E 0 6 = .inl (kA 4, 12, .inr (.inr (.inr (.inr fd_71)))) := q6_71
            have m_75 : (0, 6) ∈ RL := hmB 6 (by omega)
            refine va_calli (va_runV (As := [.ref (ad 0 1)]) (rest := []) ⟨hx, hb, hml, hown, hT⟩ (xc_Sh_acceptGrantX l D kA H.size ad E RL Z g ml nd len lt wl cs (by first | assumption | omega) (by first | assumption | omega) (by first | assumption | omega) (by first | assumption | omega)) (cwV 1 hT (wT_V k5j_16 k5j_17 k5j_18 k5j_10 k5j_15) rfl rfl rfl (by decide +kernel) ⟨Nat.le_of_ble_eq_true rfl, Nat.le_of_ble_eq_true rfl⟩) (px_preVZ hK hP hD m_73 c_72 rfl hFc (hZ.kept hS)) rfl rfl hl.1 rfl (lv_room (Nat.le_of_ble_eq_true rfl)) xd_Sh_accept_63 ⟨(Nat.le_of_ble_eq_true rfl), (Nat.le_of_ble_eq_true rfl)⟩) hS (fun q _ h => hFc q h) hFc (fun r76 u77 t H1 locs ht hvm hp78 hB hz1 hk1 hS => ?_)
            obtain ⟨hP1, hD1⟩ := hB
            rw [ht] at hP1
            have hD1 := hD1.weaken (fun _ _ _ h => hFc _ h)
            generalize H1 = H at hP1 hS ⊢
            have hP := hP1
            have hD := hD1
            obtain ⟨ad79, E80, RL81⟩ := u77
            have hl := lv_sub hl [] rfl
            have hl : lv_has ls 2 [] := hl
            have hP : va_P D xcl (rp ad79 E80 RL81) H := hP
            have hD : va_D A (rp ad79 E80 RL81) := hD
            have hCIx := hp78
            refine W.widen (k := 13) (n := 66) (Nat.le_of_ble_eq_true rfl) (Nat.le_of_ble_eq_true rfl) ?_
            exact W.iret (v := r76) hx hb hr (fun t ht hW => ⟨⟨r76, (ad79, E80, RL81), rfl, (by
        have e9 : lnF (g 0) wl nd g = (nd, lG 8 10 (g 0) wl nd g) := by unfold lnF; rw [cif_neg hw0, cif_neg hw1, cif_neg hw2, cif_pos hw3]
        rw [cif_neg hw2] at hCIx
        rw [e9]; exact hCIx), by rw [ht]; exact hP, hD⟩, hS.F ht⟩) hS.2.2 xd_Sh_accept_66
          · have hw3 : ¬ wS (g 0) wl 0 zOp := by have q := z69; rw [zw3] at q; exact q
            refine W.eq (g2 := F0 m 58 ls [.int 0]) rfl ?_
            refine lv_if_eq (tgt := 67) hx hb xd_Sh_accept_58 (by decide) (fun _ => ?_) (fun hc82 => absurd (by decide) hc82)
            refine lv_aload_n hx hb xd_Sh_accept_67 rfl (lv_at hl 1 rfl) ?_
            refine lv_iconst (v := 0) hx hb xd_Sh_accept_68 (by decide) ?_
            refine va_ldcS (q := Z.1 4) hx hb hown hZ.2.2.2.1.2.2.2.2.1 xd_Sh_accept_69 ?_
            have hFc := px_free hD hS hA
            refine va_calli (va_runV (As := [.int 0, .ref (Z.1 4)]) (rest := []) ⟨hx, hb, hml, hown, hT⟩ (xc_Li_wordIsX l D kA H.size ad E RL Z g ml nd len lt wl cs 0 4 (by first | assumption | omega) (by first | assumption | omega) (by first | assumption | omega) (by first | assumption | omega)) (cwV 2 hT (wT_V k5j_2 k5j_3 k5j_4 k5j_5 k5j_1) rfl rfl rfl (by decide +kernel) ⟨Nat.le_of_ble_eq_true rfl, Nat.le_of_ble_eq_true rfl⟩) (px_preVZ hK hP hD m_3 c_2 rfl hFc (hZ.kept hS)) rfl rfl hl.1 rfl (lv_room (Nat.le_of_ble_eq_true rfl)) xd_Sh_accept_71 ⟨(Nat.le_of_ble_eq_true rfl), (Nat.le_of_ble_eq_true rfl)⟩) hS (fun q _ h => hFc q h) hFc (fun r83 u84 t H1 locs ht hvm hp85 hB hz1 hk1 hS => ?_)
            obtain ⟨hP1, hD1⟩ := hB
            rw [ht] at hP1
            have hD1 := hD1.weaken (fun _ _ _ h => hFc _ h)
            generalize H1 = H at hP1 hS ⊢
            have hP := hP1
            have hD := hD1
            have hP : va_P D xcl (rp ad E RL) H := hP
            have hD : va_D A (rp ad E RL) := hD
            rcases hp85 with ⟨rfl, z86⟩ | ⟨rfl, z87⟩
            · have hw4 : wS (g 0) wl 0 zRe := by have q := z86; rw [zw4] at q; exact q
              refine W.eq (g2 := F0 m 74 ls [.int 1]) rfl ?_
              refine lv_if_eq (tgt := 83) hx hb xd_Sh_accept_74 (by decide) (fun hc88 => absurd hc88 (by decide)) (fun _ => ?_)
              refine lv_aload_n hx hb xd_Sh_accept_77 rfl (lv_at hl 0 rfl) ?_
              refine lv_aload_n hx hb xd_Sh_accept_78 rfl (lv_at hl 1 rfl) ?_
              have hFc := px_free hD hS hA
              obtain ⟨fd_89, hnd_89, q5_89, q6_89, hds_89⟩ := id (hSh)
              have c_90 : E 0 5 = .inr (2, [.ref (ad 0 6), .int (nI nd)]) := q5_89
              have m_91 : (0, 5) ∈ RL := hmB 5 (by omega)
              have c_92 : E 0 6 = .inl (kA 4, 12, .inr (.inr (.inr (.inr fd_89)))) := q6_89
              have m_93 : (0, 6) ∈ RL := hmB 6 (by omega)
              refine va_calli (va_runV (As := [.ref (ad 0 1)]) (rest := []) ⟨hx, hb, hml, hown, hT⟩ (xc_Sh_acceptRequiredX l D kA H.size ad E RL Z g ml nd len lt wl cs (by first | assumption | omega) (by first | assumption | omega) (by first | assumption | omega) (by first | assumption | omega) (by first | assumption | omega)) (cwV 1 hT (wT_V k5j_20 k5j_21 k5j_22 k5j_10 k5j_19) rfl rfl rfl (by decide +kernel) ⟨Nat.le_of_ble_eq_true rfl, Nat.le_of_ble_eq_true rfl⟩) (px_preVZ hK hP hD m_91 c_90 rfl hFc (hZ.kept hS)) rfl rfl hl.1 rfl (lv_room (Nat.le_of_ble_eq_true rfl)) xd_Sh_accept_79 ⟨(Nat.le_of_ble_eq_true rfl), (Nat.le_of_ble_eq_true rfl)⟩) hS (fun q _ h => hFc q h) hFc (fun r94 u95 t H1 locs ht hvm hp96 hB hz1 hk1 hS => ?_)
              obtain ⟨hP1, hD1⟩ := hB
              rw [ht] at hP1
              have hD1 := hD1.weaken (fun _ _ _ h => hFc _ h)
              generalize H1 = H at hP1 hS ⊢
              have hP := hP1
              have hD := hD1
              obtain ⟨ad97, E98, RL99⟩ := u95
              have hl := lv_sub hl [] rfl
              have hl : lv_has ls 2 [] := hl
              have hP : va_P D xcl (rp ad97 E98 RL99) H := hP
              have hD : va_D A (rp ad97 E98 RL99) := hD
              have hCIx := hp96
              refine W.widen (k := 13) (n := 66) (Nat.le_of_ble_eq_true rfl) (Nat.le_of_ble_eq_true rfl) ?_
              exact W.iret (v := r94) hx hb hr (fun t ht hW => ⟨⟨r94, (ad97, E98, RL99), rfl, (by
        have e9 : lnF (g 0) wl nd g = (nd, lR (g 0) wl nd g) := by unfold lnF; rw [cif_neg hw0, cif_neg hw1, cif_neg hw2, cif_neg hw3, cif_pos hw4]
        rw [e9]; exact hCIx), by rw [ht]; exact hP, hD⟩, hS.F ht⟩) hS.2.2 xd_Sh_accept_82
            · have hw4 : ¬ wS (g 0) wl 0 zRe := by have q := z87; rw [zw4] at q; exact q
              refine W.eq (g2 := F0 m 74 ls [.int 0]) rfl ?_
              refine lv_if_eq (tgt := 83) hx hb xd_Sh_accept_74 (by decide) (fun _ => ?_) (fun hc100 => absurd (by decide) hc100)
              refine lv_aload_n hx hb xd_Sh_accept_83 rfl (lv_at hl 1 rfl) ?_
              refine lv_iconst (v := 0) hx hb xd_Sh_accept_84 (by decide) ?_
              refine va_ldcS (q := Z.1 5) hx hb hown hZ.2.2.2.1.2.2.2.2.2.1 xd_Sh_accept_85 ?_
              have hFc := px_free hD hS hA
              refine va_calli (va_runV (As := [.int 0, .ref (Z.1 5)]) (rest := []) ⟨hx, hb, hml, hown, hT⟩ (xc_Li_wordIsX l D kA H.size ad E RL Z g ml nd len lt wl cs 0 5 (by first | assumption | omega) (by first | assumption | omega) (by first | assumption | omega) (by first | assumption | omega)) (cwV 2 hT (wT_V k5j_2 k5j_3 k5j_4 k5j_5 k5j_1) rfl rfl rfl (by decide +kernel) ⟨Nat.le_of_ble_eq_true rfl, Nat.le_of_ble_eq_true rfl⟩) (px_preVZ hK hP hD m_3 c_2 rfl hFc (hZ.kept hS)) rfl rfl hl.1 rfl (lv_room (Nat.le_of_ble_eq_true rfl)) xd_Sh_accept_87 ⟨(Nat.le_of_ble_eq_true rfl), (Nat.le_of_ble_eq_true rfl)⟩) hS (fun q _ h => hFc q h) hFc (fun r101 u102 t H1 locs ht hvm hp103 hB hz1 hk1 hS => ?_)
              obtain ⟨hP1, hD1⟩ := hB
              rw [ht] at hP1
              have hD1 := hD1.weaken (fun _ _ _ h => hFc _ h)
              generalize H1 = H at hP1 hS ⊢
              have hP := hP1
              have hD := hD1
              have hP : va_P D xcl (rp ad E RL) H := hP
              have hD : va_D A (rp ad E RL) := hD
              rcases hp103 with ⟨rfl, z104⟩ | ⟨rfl, z105⟩
              · have hw5 : wS (g 0) wl 0 zUs := by have q := z104; rw [zw5] at q; exact q
                refine W.eq (g2 := F0 m 90 ls [.int 1]) rfl ?_
                refine lv_if_ne (tgt := 103) hx hb xd_Sh_accept_90 (by decide) (fun _ => ?_) (fun hc106 => absurd hc106 (by decide))
                refine lv_aload_n hx hb xd_Sh_accept_103 rfl (lv_at hl 0 rfl) ?_
                refine lv_aload_n hx hb xd_Sh_accept_104 rfl (lv_at hl 1 rfl) ?_
                have hFc := px_free hD hS hA
                obtain ⟨fd_107, hnd_107, q5_107, q6_107, hds_107⟩ := id (hSh)
                have c_108 : E 0 5 = .inr (2, [.ref (ad 0 6), .int (nI nd)]) := q5_107
                have m_109 : (0, 5) ∈ RL := hmB 5 (by omega)
                have c_110 : E 0 6 = .inl (kA 4, 12, .inr (.inr (.inr (.inr fd_107)))) := q6_107
                have m_111 : (0, 6) ∈ RL := hmB 6 (by omega)
                refine va_calli (va_runV (As := [.ref (ad 0 1)]) (rest := []) ⟨hx, hb, hml, hown, hT⟩ (xc_Sh_acceptServiceX l D kA H.size ad E RL Z g ml nd len lt wl cs (by first | assumption | omega) (by first | assumption | omega) (by first | assumption | omega) (by first | assumption | omega)) (cwV 1 hT (wT_V k5j_24 k5j_25 k5j_26 k5j_10 k5j_23) rfl rfl rfl (by decide +kernel) ⟨Nat.le_of_ble_eq_true rfl, Nat.le_of_ble_eq_true rfl⟩) (px_preVZ hK hP hD m_109 c_108 rfl hFc (hZ.kept hS)) rfl rfl hl.1 rfl (lv_room (Nat.le_of_ble_eq_true rfl)) xd_Sh_accept_105 ⟨(Nat.le_of_ble_eq_true rfl), (Nat.le_of_ble_eq_true rfl)⟩) hS (fun q _ h => hFc q h) hFc (fun r112 u113 t H1 locs ht hvm hp114 hB hz1 hk1 hS => ?_)
                obtain ⟨hP1, hD1⟩ := hB
                rw [ht] at hP1
                have hD1 := hD1.weaken (fun _ _ _ h => hFc _ h)
                generalize H1 = H at hP1 hS ⊢
                have hP := hP1
                have hD := hD1
                obtain ⟨ad115, E116, RL117⟩ := u113
                have hl := lv_sub hl [] rfl
                have hl : lv_has ls 2 [] := hl
                have hP : va_P D xcl (rp ad115 E116 RL117) H := hP
                have hD : va_D A (rp ad115 E116 RL117) := hD
                have hCIx := hp114
                refine W.widen (k := 13) (n := 66) (Nat.le_of_ble_eq_true rfl) (Nat.le_of_ble_eq_true rfl) ?_
                exact W.iret (v := r112) hx hb hr (fun t ht hW => ⟨⟨r112, (ad115, E116, RL117), rfl, (by
        have e9 : lnF (g 0) wl nd g = (nd, lS 14 (g 0) wl nd g) := by unfold lnF; rw [cif_neg hw0, cif_neg hw1, cif_neg hw2, cif_neg hw3, cif_neg hw4, cif_pos hw5]
        rw [cif_pos hw5] at hCIx
        rw [e9]; exact hCIx), by rw [ht]; exact hP, hD⟩, hS.F ht⟩) hS.2.2 xd_Sh_accept_108
              · have hw5 : ¬ wS (g 0) wl 0 zUs := by have q := z105; rw [zw5] at q; exact q
                refine W.eq (g2 := F0 m 90 ls [.int 0]) rfl ?_
                refine lv_if_ne (tgt := 103) hx hb xd_Sh_accept_90 (by decide) (fun hc118 => absurd (by decide) hc118) (fun _ => ?_)
                refine lv_aload_n hx hb xd_Sh_accept_93 rfl (lv_at hl 1 rfl) ?_
                refine lv_iconst (v := 0) hx hb xd_Sh_accept_94 (by decide) ?_
                refine va_ldcS (q := Z.1 6) hx hb hown hZ.2.2.2.1.2.2.2.2.2.2.1 xd_Sh_accept_95 ?_
                have hFc := px_free hD hS hA
                refine va_calli (va_runV (As := [.int 0, .ref (Z.1 6)]) (rest := []) ⟨hx, hb, hml, hown, hT⟩ (xc_Li_wordIsX l D kA H.size ad E RL Z g ml nd len lt wl cs 0 6 (by first | assumption | omega) (by first | assumption | omega) (by first | assumption | omega) (by first | assumption | omega)) (cwV 2 hT (wT_V k5j_2 k5j_3 k5j_4 k5j_5 k5j_1) rfl rfl rfl (by decide +kernel) ⟨Nat.le_of_ble_eq_true rfl, Nat.le_of_ble_eq_true rfl⟩) (px_preVZ hK hP hD m_3 c_2 rfl hFc (hZ.kept hS)) rfl rfl hl.1 rfl (lv_room (Nat.le_of_ble_eq_true rfl)) xd_Sh_accept_97 ⟨(Nat.le_of_ble_eq_true rfl), (Nat.le_of_ble_eq_true rfl)⟩) hS (fun q _ h => hFc q h) hFc (fun r119 u120 t H1 locs ht hvm hp121 hB hz1 hk1 hS => ?_)
                obtain ⟨hP1, hD1⟩ := hB
                rw [ht] at hP1
                have hD1 := hD1.weaken (fun _ _ _ h => hFc _ h)
                generalize H1 = H at hP1 hS ⊢
                have hP := hP1
                have hD := hD1
                have hP : va_P D xcl (rp ad E RL) H := hP
                have hD : va_D A (rp ad E RL) := hD
                rcases hp121 with ⟨rfl, z122⟩ | ⟨rfl, z123⟩
                · have hw6 : wS (g 0) wl 0 zPr := by have q := z122; rw [zw6] at q; exact q
                  refine W.eq (g2 := F0 m 100 ls [.int 1]) rfl ?_
                  refine lv_if_eq (tgt := 109) hx hb xd_Sh_accept_100 (by decide) (fun hc124 => absurd hc124 (by decide)) (fun _ => ?_)
                  refine lv_aload_n hx hb xd_Sh_accept_103 rfl (lv_at hl 0 rfl) ?_
                  refine lv_aload_n hx hb xd_Sh_accept_104 rfl (lv_at hl 1 rfl) ?_
                  have hFc := px_free hD hS hA
                  obtain ⟨fd_125, hnd_125, q5_125, q6_125, hds_125⟩ := id (hSh)
                  have c_126 : E 0 5 = .inr (2, [.ref (ad 0 6), .int (nI nd)]) := q5_125
                  have m_127 : (0, 5) ∈ RL := hmB 5 (by omega)
                  have c_128 : E 0 6 = .inl (kA 4, 12, .inr (.inr (.inr (.inr fd_125)))) := q6_125
                  have m_129 : (0, 6) ∈ RL := hmB 6 (by omega)
                  refine va_calli (va_runV (As := [.ref (ad 0 1)]) (rest := []) ⟨hx, hb, hml, hown, hT⟩ (xc_Sh_acceptServiceX l D kA H.size ad E RL Z g ml nd len lt wl cs (by first | assumption | omega) (by first | assumption | omega) (by first | assumption | omega) (by first | assumption | omega)) (cwV 1 hT (wT_V k5j_24 k5j_25 k5j_26 k5j_10 k5j_23) rfl rfl rfl (by decide +kernel) ⟨Nat.le_of_ble_eq_true rfl, Nat.le_of_ble_eq_true rfl⟩) (px_preVZ hK hP hD m_127 c_126 rfl hFc (hZ.kept hS)) rfl rfl hl.1 rfl (lv_room (Nat.le_of_ble_eq_true rfl)) xd_Sh_accept_105 ⟨(Nat.le_of_ble_eq_true rfl), (Nat.le_of_ble_eq_true rfl)⟩) hS (fun q _ h => hFc q h) hFc (fun r130 u131 t H1 locs ht hvm hp132 hB hz1 hk1 hS => ?_)
                  obtain ⟨hP1, hD1⟩ := hB
                  rw [ht] at hP1
                  have hD1 := hD1.weaken (fun _ _ _ h => hFc _ h)
                  generalize H1 = H at hP1 hS ⊢
                  have hP := hP1
                  have hD := hD1
                  obtain ⟨ad133, E134, RL135⟩ := u131
                  have hl := lv_sub hl [] rfl
                  have hl : lv_has ls 2 [] := hl
                  have hP : va_P D xcl (rp ad133 E134 RL135) H := hP
                  have hD : va_D A (rp ad133 E134 RL135) := hD
                  have hCIx := hp132
                  refine W.widen (k := 13) (n := 66) (Nat.le_of_ble_eq_true rfl) (Nat.le_of_ble_eq_true rfl) ?_
                  exact W.iret (v := r130) hx hb hr (fun t ht hW => ⟨⟨r130, (ad133, E134, RL135), rfl, (by
        have e9 : lnF (g 0) wl nd g = (nd, lS 15 (g 0) wl nd g) := by unfold lnF; rw [cif_neg hw0, cif_neg hw1, cif_neg hw2, cif_neg hw3, cif_neg hw4, cif_neg hw5, cif_pos hw6]
        rw [cif_neg hw5] at hCIx
        rw [e9]; exact hCIx), by rw [ht]; exact hP, hD⟩, hS.F ht⟩) hS.2.2 xd_Sh_accept_108
                · have hw6 : ¬ wS (g 0) wl 0 zPr := by have q := z123; rw [zw6] at q; exact q
                  refine W.eq (g2 := F0 m 100 ls [.int 0]) rfl ?_
                  refine lv_if_eq (tgt := 109) hx hb xd_Sh_accept_100 (by decide) (fun _ => ?_) (fun hc136 => absurd (by decide) hc136)
                  refine lv_iconst (v := (-1)) hx hb xd_Sh_accept_109 (by decide) ?_
                  refine W.widen (k := 13) (n := 66) (Nat.le_of_ble_eq_true rfl) (Nat.le_of_ble_eq_true rfl) ?_
                  exact W.iret (v := (-1)) hx hb hr (fun t ht hW => ⟨⟨(-1), (ad, E, RL), rfl, (by
        have e9 : lnF (g 0) wl nd g = (nd, g) := by unfold lnF; rw [cif_neg hw0, cif_neg hw1, cif_neg hw2, cif_neg hw3, cif_neg hw4, cif_neg hw5, cif_neg hw6]
        rw [e9]; exact ⟨hCI, hTD, rfl, FRL_rf⟩), by rw [ht]; exact hP, hD⟩, hS.F ht⟩) hS.2.2 xd_Sh_accept_110
  · refine lv_iconst (v := 0) hx hb xd_Sh_accept_7 (by decide) ?_
    refine W.widen (k := 13) (n := 66) (Nat.le_of_ble_eq_true rfl) (Nat.le_of_ble_eq_true rfl) ?_
    exact W.iret (v := 0) hx hb hr (fun t ht hW => ⟨⟨0, (ad, E, RL), rfl, (by rw [lnF_nil (by omega)]; exact ⟨hCI, hTD, rfl, FRL_rf⟩), by rw [ht]; exact hP, hD⟩, hS.F ht⟩) hS.2.2 xd_Sh_accept_8
