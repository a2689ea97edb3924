theorem k5j_0 : (Cond.fieldLink "LayerDesk$Shelf" 27 "LayerDesk$Line" "words" "I") ∈ wT := wT_t (List.mem_append_left _ (List.mem_of_getElem? (i := 41) rfl)) rfl
theorem k5j_1 : (Cond.code xy_Li_wordIs xb_Li_wordIs 4 (some .boolean)) ∈ wT := wT_t (List.mem_append_left _ (List.mem_of_getElem? (i := 199) rfl)) rfl
theorem k5j_2 : (Cond.methodLink "LayerDesk$Shelf" 34 xy_Li_wordIs) ∈ wT := wT_t (List.mem_append_left _ (List.mem_of_getElem? (i := 196) rfl)) rfl
theorem k5j_3 : (Cond.instanceMethod xy_Li_wordIs) ∈ wT := wT_t (List.mem_append_left _ (List.mem_of_getElem? (i := 197) rfl)) rfl
theorem k5j_4 : (Cond.selects "LayerDesk$Line" xy_Li_wordIs xy_Li_wordIs) ∈ wT := wT_t (List.mem_append_left _ (List.mem_of_getElem? (i := 198) rfl)) rfl
theorem k5j_5 : (Cond.initialized "LayerDesk$Line") ∈ wT := wT_t (List.mem_append_left _ (List.mem_of_getElem? (i := 2) rfl)) rfl
theorem k5j_6 : (Cond.code xy_Sh_acceptDescriptor xb_Sh_acceptDescriptor 5 (some .int)) ∈ wT := wT_t (List.mem_append_right _ (List.mem_append_left _ (List.mem_of_getElem? (i := 11) rfl))) rfl
theorem k5j_7 : (Cond.methodLink "LayerDesk$Shelf" 38 xy_Sh_acceptDescriptor) ∈ wT := wT_t (List.mem_append_right _ (List.mem_append_left _ (List.mem_of_getElem? (i := 8) rfl))) rfl
theorem k5j_8 : (Cond.instanceMethod xy_Sh_acceptDescriptor) ∈ wT := wT_t (List.mem_append_right _ (List.mem_append_left _ (List.mem_of_getElem? (i := 10) rfl))) rfl
theorem k5j_9 : (Cond.selects "LayerDesk$Shelf" xy_Sh_acceptDescriptor xy_Sh_acceptDescriptor) ∈ wT := wT_s (q := (xy_Sh_acceptDescriptor, 2)) (by decide +kernel) rfl
theorem k5j_10 : (Cond.initialized "LayerDesk$Shelf") ∈ wT := wT_t (List.mem_append_left _ (List.mem_of_getElem? (i := 3) rfl)) rfl
theorem k5j_11 : (Cond.code xy_Sh_acceptPackage xb_Sh_acceptPackage 4 (some .int)) ∈ wT := wT_t (List.mem_append_right _ (List.mem_append_left _ (List.mem_of_getElem? (i := 115) rfl))) rfl
theorem k5j_12 : (Cond.methodLink "LayerDesk$Shelf" 44 xy_Sh_acceptPackage) ∈ wT := wT_t (List.mem_append_right _ (List.mem_append_left _ (List.mem_of_getElem? (i := 112) rfl))) rfl
theorem k5j_13 : (Cond.instanceMethod xy_Sh_acceptPackage) ∈ wT := wT_t (List.mem_append_right _ (List.mem_append_left _ (List.mem_of_getElem? (i := 114) rfl))) rfl
theorem k5j_14 : (Cond.selects "LayerDesk$Shelf" xy_Sh_acceptPackage xy_Sh_acceptPackage) ∈ wT := wT_s (q := (xy_Sh_acceptPackage, 2)) (by decide +kernel) rfl
theorem k5j_15 : (Cond.code xy_Sh_acceptGrant xb_Sh_acceptGrant 7 (some .int)) ∈ wT := wT_t (List.mem_append_right _ (List.mem_append_left _ (List.mem_of_getElem? (i := 161) rfl))) rfl
theorem k5j_16 : (Cond.methodLink "LayerDesk$Shelf" 51 xy_Sh_acceptGrant) ∈ wT := wT_t (List.mem_append_right _ (List.mem_append_left _ (List.mem_of_getElem? (i := 158) rfl))) rfl
theorem k5j_17 : (Cond.instanceMethod xy_Sh_acceptGrant) ∈ wT := wT_t (List.mem_append_right _ (List.mem_append_left _ (List.mem_of_getElem? (i := 160) rfl))) rfl
theorem k5j_18 : (Cond.selects "LayerDesk$Shelf" xy_Sh_acceptGrant xy_Sh_acceptGrant) ∈ wT := wT_s (q := (xy_Sh_acceptGrant, 2)) (by decide +kernel) rfl
theorem k5j_19 : (Cond.code xy_Sh_acceptRequired xb_Sh_acceptRequired 7 (some .int)) ∈ wT := wT_t (List.mem_append_right _ (List.mem_append_left _ (List.mem_of_getElem? (i := 191) rfl))) rfl
theorem k5j_20 : (Cond.methodLink "LayerDesk$Shelf" 56 xy_Sh_acceptRequired) ∈ wT := wT_t (List.mem_append_right _ (List.mem_append_left _ (List.mem_of_getElem? (i := 188) rfl))) rfl
theorem k5j_21 : (Cond.instanceMethod xy_Sh_acceptRequired) ∈ wT := wT_t (List.mem_append_right _ (List.mem_append_left _ (List.mem_of_getElem? (i := 190) rfl))) rfl
theorem k5j_22 : (Cond.selects "LayerDesk$Shelf" xy_Sh_acceptRequired xy_Sh_acceptRequired) ∈ wT := wT_s (q := (xy_Sh_acceptRequired, 2)) (by decide +kernel) rfl
theorem k5j_23 : (Cond.code xy_Sh_acceptService xb_Sh_acceptService 5 (some .int)) ∈ wT := wT_t (List.mem_append_right _ (List.mem_append_left _ (List.mem_of_getElem? (i := 203) rfl))) rfl
theorem k5j_24 : (Cond.methodLink "LayerDesk$Shelf" 63 xy_Sh_acceptService) ∈ wT := wT_t (List.mem_append_right _ (List.mem_append_left _ (List.mem_of_getElem? (i := 200) rfl))) rfl
theorem k5j_25 : (Cond.instanceMethod xy_Sh_acceptService) ∈ wT := wT_t (List.mem_append_right _ (List.mem_append_left _ (List.mem_of_getElem? (i := 202) rfl))) rfl
theorem k5j_26 : (Cond.selects "LayerDesk$Shelf" xy_Sh_acceptService xy_Sh_acceptService) ∈ wT := wT_s (q := (xy_Sh_acceptService, 2)) (by decide +kernel) rfl
set_option maxHeartbeats 4000000 in
set_option maxRecDepth 100000 in
theorem xc_Sh_acceptX (l : Launch) (D : va_G) (kA : Nat → ClassId) (sz : Nat) (ad : Nat → Nat → Nat) (E : Nat → Nat → va_E) (RL : List (Nat × Nat)) (Z : zT) (g : Nat → Nat → Int32) (ml : Nat) (nd : Nat) (len : Nat) (lt : Nat) (wl : List (Nat × Nat)) (cs : Nat) (hCI : CI kA ad E RL ml nd len wl.length cs) (hLW : LW g E lt wl) (hTD : TDs g E nd) (hZI : ZI g nd) : Met l xy_Sh_accept (.code xy_Sh_accept xb_Sh_accept 2 (some .int) :: wT) { frames := 6, cells := 13, slots := 66, locals := 134 } (va_Pc [.ref (ad 0 5), .ref (ad 0 1)] (xPreZ D kA sz (rp ad E RL) Z)) (va_Qi (fun (r : Int32) (u : (Nat → Nat → Nat) × (Nat → Nat → va_E) × List (Nat × Nat)) => CI kA u.1 u.2.1 u.2.2 ml (lnF (g 0) wl nd g).1 len wl.length cs ∧ TDs (lnF (g 0) wl nd g).2 u.2.1 (lnF (g 0) wl nd g).1 ∧ u.1 0 0 = ad 0 0 ∧ FRL ml nd ad u.1 E u.2.1) (fun (u : (Nat → Nat → Nat) × (Nat → Nat → va_E) × List (Nat × Nat)) t => va_P D xcl (rp u.1 u.2.1 u.2.2) t.heap ∧ va_D (va_A (rp ad E RL) sz) (rp u.1 u.2.1 u.2.2)) (va_A (rp ad E RL) sz)) 13 66 (va_A (rp ad E RL) sz) := by
  refine Met.ofW (cc := xb_Sh_accept) (maxL := 2) (ret := (some .int)) (by decide) rfl ?_
  intro p e s m args below meth c s₁ B hml hv
  obtain ⟨rfl, ⟨hsz, hP, hK, hD0⟩, hZ⟩ := hv
  have hx := B.exec
  have hb := B.bytes
  have hr := B.returns
  have hT := x_hT B.pre
  have hown : s.vm.findClass xR_Sh = some m.cls := findClass_of_methodNamed B.named
  have hlocks := B.notSynchronized
  subst hsz
  have hD := hD0.self (sz := s.heap.size)
  generalize hAe : va_A (rp ad E RL) s.heap.size = A at hD hZ ⊢
  have hA : ∀ q : Nat, s.heap.size ≤ q → A q := fun q h => by rw [← hAe]; exact Or.inr h
  have hS : va_S A s.heap s.heap [] := va_S.rf
  have hl := lv_entry ([.ref (ad 0 5), .ref (ad 0 1)]) (n := 2) (Nat.le_of_ble_eq_true rfl)
  rw [lg_entry_eq]
  generalize (lg_sl ([.ref (ad 0 5), .ref (ad 0 1)]) ++ List.replicate (2 - (lg_sl ([.ref (ad 0 5), .ref (ad 0 1)])).length) Slot.unset).toArray = ls at hl ⊢
  have hl : lv_has ls 2 [(0, .ref (ad 0 5)), (1, .ref (ad 0 1))] := hl
  have hP : va_P D xcl (rp ad E RL) s.heap := hP
  obtain ⟨hmB, hDk, hLi, hSh, hCh, hLa, hDIs, hLIs⟩ := id hCI
  obtain ⟨hWL, hlt40, hLwd, hLtx⟩ := id hLW
  obtain ⟨tx_1, fb_1, fe_1, hl1_1, hw2_1, q1_1, q2_1, q3_1, q4_1, hws_1⟩ := id (hLi)
  have c_2 : E 0 1 = .inr (1, [.ref (ad 0 2), .ref (ad 0 3), .ref (ad 0 4), .int (nI len), .int (nI (wl.length))]) := q1_1
  have m_3 : (0, 1) ∈ RL := hmB 1 (by omega)
  have c_4 : E 0 2 = .inl (kA 1, 40, .inl tx_1) := q2_1
  have m_5 : (0, 2) ∈ RL := hmB 2 (by omega)
  have c_6 : E 0 3 = .inl (kA 0, 20, .inl fb_1) := q3_1
  have m_7 : (0, 3) ∈ RL := hmB 3 (by omega)
  have c_8 : E 0 4 = .inl (kA 0, 20, .inl fe_1) := q4_1
  have m_9 : (0, 4) ∈ RL := hmB 4 (by omega)
  obtain ⟨zw0, zw1, zw2, zw3, zw4, zw5, zw6, zw7, zw8, zw9, zw10, zw11⟩ := zW_all
  refine lv_aload_n hx hb xd_Sh_accept_0 rfl (lv_at hl 1 rfl) ?_
  refine px_get (D := D) (ci := 1) (v := .int (nI (wl.length))) (C := xR_Li) (T := xT_Li) (N := 5) hx hb hT xi_Li hown hK.1 hP m_3 c_2 rfl 4 (by decide) (hT _ k5j_0) (fun _ h9 => h9) rfl xd_Sh_accept_1 ?_
  refine xz_ne (a := wl.length) (tgt := 9) hx hb xd_Sh_accept_4 (by decide) (by omega) (fun hc10 => ?_) (fun hc10 => ?_)
  · refine lv_aload_n hx hb xd_Sh_accept_9 rfl (lv_at hl 1 rfl) ?_
    refine lv_iconst (v := 0) hx hb xd_Sh_accept_10 (by decide) ?_
    refine va_ldcS (q := Z.1 0) hx hb hown hZ.2.2.2.1.1 xd_Sh_accept_11 ?_
    have hFc := px_free hD hS hA
    refine va_calli (va_runV (As := [.int 0, .ref (Z.1 0)]) (rest := []) ⟨hx, hb, hml, hown, hT⟩ (xc_Li_wordIsX l D kA s.heap.size ad E RL Z g ml nd len lt wl cs 0 0 (by first | assumption | omega) (by first | assumption | omega) (by first | assumption | omega) (by first | assumption | omega)) (cwV 2 hT (wT_V k5j_2 k5j_3 k5j_4 k5j_5 k5j_1) rfl rfl rfl (by decide +kernel) ⟨Nat.le_of_ble_eq_true rfl, Nat.le_of_ble_eq_true rfl⟩) (px_preVZ hK hP hD m_3 c_2 rfl hFc (hZ.kept hS)) rfl rfl hl.1 rfl (lv_room (Nat.le_of_ble_eq_true rfl)) xd_Sh_accept_13 ⟨(Nat.le_of_ble_eq_true rfl), (Nat.le_of_ble_eq_true rfl)⟩) hS (fun q _ h => hFc q h) hFc (fun r11 u12 t H1 locs ht hvm hp13 hB hz1 hk1 hS => ?_)
    obtain ⟨hP1, hD1⟩ := hB
    rw [ht] at hP1
    have hD1 := hD1.weaken (fun _ _ _ h => hFc _ h)
    generalize H1 = H at hP1 hS ⊢
    have hP := hP1
    have hD := hD1
    have hP : va_P D xcl (rp ad E RL) H := hP
    have hD : va_D A (rp ad E RL) := hD
    rcases hp13 with ⟨rfl, z14⟩ | ⟨rfl, z15⟩
    · have hw0 : wS (g 0) wl 0 zMo := by have q := z14; rw [zw0] at q; exact q
      refine W.eq (g2 := F0 m 16 ls [.int 1]) rfl ?_
      refine lv_if_eq (tgt := 25) hx hb xd_Sh_accept_16 (by decide) (fun hc16 => absurd hc16 (by decide)) (fun _ => ?_)
      refine lv_aload_n hx hb xd_Sh_accept_19 rfl (lv_at hl 0 rfl) ?_
      refine lv_aload_n hx hb xd_Sh_accept_20 rfl (lv_at hl 1 rfl) ?_
      have hFc := px_free hD hS hA
      obtain ⟨fd_17, hnd_17, q5_17, q6_17, hds_17⟩ := id (hSh)
      have c_18 : E 0 5 = .inr (2, [.ref (ad 0 6), .int (nI nd)]) := q5_17
      have m_19 : (0, 5) ∈ RL := hmB 5 (by omega)
      have c_20 : E 0 6 = .inl (kA 4, 12, .inr (.inr (.inr (.inr fd_17)))) := q6_17
      have m_21 : (0, 6) ∈ RL := hmB 6 (by omega)
      refine va_calli (va_runV (As := [.ref (ad 0 1)]) (rest := []) ⟨hx, hb, hml, hown, hT⟩ (xc_Sh_acceptDescriptorX l D kA H.size ad E RL Z g ml nd len lt wl cs (by first | assumption | omega) (by first | assumption | omega) (by first | assumption | omega) (by first | assumption | omega)) (cwV 1 hT (wT_V k5j_7 k5j_8 k5j_9 k5j_10 k5j_6) rfl rfl rfl (by decide +kernel) ⟨Nat.le_of_ble_eq_true rfl, Nat.le_of_ble_eq_true rfl⟩) (px_preVZ hK hP hD m_19 c_18 rfl hFc (hZ.kept hS)) rfl rfl hl.1 rfl (lv_room (Nat.le_of_ble_eq_true rfl)) xd_Sh_accept_21 ⟨(Nat.le_of_ble_eq_true rfl), (Nat.le_of_ble_eq_true rfl)⟩) hS (fun q _ h => hFc q h) hFc (fun r22 u23 t H1 locs ht hvm hp24 hB hz1 hk1 hS => ?_)
      obtain ⟨hP1, hD1⟩ := hB
      rw [ht] at hP1
      have hD1 := hD1.weaken (fun _ _ _ h => hFc _ h)
      generalize H1 = H at hP1 hS ⊢
      have hP := hP1
      have hD := hD1
      obtain ⟨ad25, E26, RL27⟩ := u23
      have hl := lv_sub hl [] rfl
      have hl : lv_has ls 2 [] := hl
      have hP : va_P D xcl (rp ad25 E26 RL27) H := hP
      have hD : va_D A (rp ad25 E26 RL27) := hD
      have hCIx := hp24
      refine W.widen (k := 13) (n := 66) (Nat.le_of_ble_eq_true rfl) (Nat.le_of_ble_eq_true rfl) ?_
      exact W.iret (v := r22) hx hb hr (fun t ht hW => ⟨⟨r22, (ad25, E26, RL27), rfl, (by
        have e9 : lnF (g 0) wl nd g = lD (g 0) wl nd g := by unfold lnF; rw [cif_pos hw0]
        rw [e9]; exact hCIx), by rw [ht]; exact hP, hD⟩, hS.F ht⟩) hS.2.2 xd_Sh_accept_24
    · have hw0 : ¬ wS (g 0) wl 0 zMo := by have q := z15; rw [zw0] at q; exact q
      refine W.eq (g2 := F0 m 16 ls [.int 0]) rfl ?_
      refine lv_if_eq (tgt := 25) hx hb xd_Sh_accept_16 (by decide) (fun _ => ?_) (fun hc28 => absurd (by decide) hc28)
      refine lv_aload_n hx hb xd_Sh_accept_25 rfl (lv_at hl 1 rfl) ?_
      refine lv_iconst (v := 0) hx hb xd_Sh_accept_26 (by decide) ?_
      refine va_ldcS (q := Z.1 1) hx hb hown hZ.2.2.2.1.2.1 xd_Sh_accept_27 ?_
      have hFc := px_free hD hS hA
      refine va_calli (va_runV (As := [.int 0, .ref (Z.1 1)]) (rest := []) ⟨hx, hb, hml, hown, hT⟩ (xc_Li_wordIsX l D kA H.size ad E RL Z g ml nd len lt wl cs 0 1 (by first | assumption | omega) (by first | assumption | omega) (by first | assumption | omega) (by first | assumption | omega)) (cwV 2 hT (wT_V k5j_2 k5j_3 k5j_4 k5j_5 k5j_1) rfl rfl rfl (by decide +kernel) ⟨Nat.le_of_ble_eq_true rfl, Nat.le_of_ble_eq_true rfl⟩) (px_preVZ hK hP hD m_3 c_2 rfl hFc (hZ.kept hS)) rfl rfl hl.1 rfl (lv_room (Nat.le_of_ble_eq_true rfl)) xd_Sh_accept_29 ⟨(Nat.le_of_ble_eq_true rfl), (Nat.le_of_ble_eq_true rfl)⟩) hS (fun q _ h => hFc q h) hFc (fun r29 u30 t H1 locs ht hvm hp31 hB hz1 hk1 hS => ?_)
      obtain ⟨hP1, hD1⟩ := hB
      rw [ht] at hP1
      have hD1 := hD1.weaken (fun _ _ _ h => hFc _ h)
      generalize H1 = H at hP1 hS ⊢
      have hP := hP1
      have hD := hD1
      have hP : va_P D xcl (rp ad E RL) H := hP
      have hD : va_D A (rp ad E RL) := hD
      rcases hp31 with ⟨rfl, z32⟩ | ⟨rfl, z33⟩
      · have hw1 : wS (g 0) wl 0 zPa := by have q := z32; rw [zw1] at q; exact q
        refine W.eq (g2 := F0 m 32 ls [.int 1]) rfl ?_
        refine lv_if_eq (tgt := 41) hx hb xd_Sh_accept_32 (by decide) (fun hc34 => absurd hc34 (by decide)) (fun _ => ?_)
        refine lv_aload_n hx hb xd_Sh_accept_35 rfl (lv_at hl 0 rfl) ?_
        refine lv_aload_n hx hb xd_Sh_accept_36 rfl (lv_at hl 1 rfl) ?_
        have hFc := px_free hD hS hA
        obtain ⟨fd_35, hnd_35, q5_35, q6_35, hds_35⟩ := id (hSh)
        have c_36 : E 0 5 = .inr (2, [.ref (ad 0 6), .int (nI nd)]) := q5_35
        have m_37 : (0, 5) ∈ RL := hmB 5 (by omega)
        have c_38 : E 0 6 = .inl (kA 4, 12, .inr (.inr (.inr (.inr fd_35)))) := q6_35
        have m_39 : (0, 6) ∈ RL := hmB 6 (by omega)
        refine va_calli (va_runV (As := [.ref (ad 0 1)]) (rest := []) ⟨hx, hb, hml, hown, hT⟩ (xc_Sh_acceptPackageX l D kA H.size ad E RL Z g ml nd len lt wl cs (by first | assumption | omega) (by first | assumption | omega) (by first | assumption | omega) (by first | assumption | omega)) (cwV 1 hT (wT_V k5j_12 k5j_13 k5j_14 k5j_10 k5j_11) rfl rfl rfl (by decide +kernel) ⟨Nat.le_of_ble_eq_true rfl, Nat.le_of_ble_eq_true rfl⟩) (px_preVZ hK hP hD m_37 c_36 rfl hFc (hZ.kept hS)) rfl rfl hl.1 rfl (lv_room (Nat.le_of_ble_eq_true rfl)) xd_Sh_accept_37 ⟨(Nat.le_of_ble_eq_true rfl), (Nat.le_of_ble_eq_true rfl)⟩) hS (fun q _ h => hFc q h) hFc (fun r40 u41 t H1 locs ht hvm hp42 hB hz1 hk1 hS => ?_)
        obtain ⟨hP1, hD1⟩ := hB
        rw [ht] at hP1
        have hD1 := hD1.weaken (fun _ _ _ h => hFc _ h)
        generalize H1 = H at hP1 hS ⊢
        have hP := hP1
        have hD := hD1
        obtain ⟨ad43, E44, RL45⟩ := u41
        have hl := lv_sub hl [] rfl
        have hl : lv_has ls 2 [] := hl
        have hP : va_P D xcl (rp ad43 E44 RL45) H := hP
        have hD : va_D A (rp ad43 E44 RL45) := hD
        have hCIx := hp42
        refine W.widen (k := 13) (n := 66) (Nat.le_of_ble_eq_true rfl) (Nat.le_of_ble_eq_true rfl) ?_
        exact W.iret (v := r40) hx hb hr (fun t ht hW => ⟨⟨r40, (ad43, E44, RL45), rfl, (by
        have e9 : lnF (g 0) wl nd g = (nd, lP (g 0) wl nd g) := by unfold lnF; rw [cif_neg hw0, cif_pos hw1]
        rw [e9]; exact hCIx), by rw [ht]; exact hP, hD⟩, hS.F ht⟩) hS.2.2 xd_Sh_accept_40
      · have hw1 : ¬ wS (g 0) wl 0 zPa := by have q := z33; rw [zw1] at q; exact q
        refine W.eq (g2 := F0 m 32 ls [.int 0]) rfl ?_
        refine lv_if_eq (tgt := 41) hx hb xd_Sh_accept_32 (by decide) (fun _ => ?_) (fun hc46 => absurd (by decide) hc46)
        refine lv_aload_n hx hb xd_Sh_accept_41 rfl (lv_at hl 1 rfl) ?_
        refine lv_iconst (v := 0) hx hb xd_Sh_accept_42 (by decide) ?_
        refine va_ldcS (q := Z.1 2) hx hb hown hZ.2.2.2.1.2.2.1 xd_Sh_accept_43 ?_
        have hFc := px_free hD hS hA
        refine va_calli (va_runV (As := [.int 0, .ref (Z.1 2)]) (rest := []) ⟨hx, hb, hml, hown, hT⟩ (xc_Li_wordIsX l D kA H.size ad E RL Z g ml nd len lt wl cs 0 2 (by first | assumption | omega) (by first | assumption | omega) (by first | assumption | omega) (by first | assumption | omega)) (cwV 2 hT (wT_V k5j_2 k5j_3 k5j_4 k5j_5 k5j_1) rfl rfl rfl (by decide +kernel) ⟨Nat.le_of_ble_eq_true rfl, Nat.le_of_ble_eq_true rfl⟩) (px_preVZ hK hP hD m_3 c_2 rfl hFc (hZ.kept hS)) rfl rfl hl.1 rfl (lv_room (Nat.le_of_ble_eq_true rfl)) xd_Sh_accept_45 ⟨(Nat.le_of_ble_eq_true rfl), (Nat.le_of_ble_eq_true rfl)⟩) hS (fun q _ h => hFc q h) hFc (fun r47 u48 t H1 locs ht hvm hp49 hB hz1 hk1 hS => ?_)
        obtain ⟨hP1, hD1⟩ := hB
        rw [ht] at hP1
        have hD1 := hD1.weaken (fun _ _ _ h => hFc _ h)
        generalize H1 = H at hP1 hS ⊢
        have hP := hP1
        have hD := hD1
        have hP : va_P D xcl (rp ad E RL) H := hP
        have hD : va_D A (rp ad E RL) := hD
        rcases hp49 with ⟨rfl, z50⟩ | ⟨rfl, z51⟩
        · have hw2 : wS (g 0) wl 0 zEx := by have q := z50; rw [zw2] at q; exact q
          refine W.eq (g2 := F0 m 48 ls [.int 1]) rfl ?_
          refine lv_if_ne (tgt := 61) hx hb xd_Sh_accept_48 (by decide) (fun _ => ?_) (fun hc52 => absurd hc52 (by decide))
          refine lv_aload_n hx hb xd_Sh_accept_61 rfl (lv_at hl 0 rfl) ?_
          refine lv_aload_n hx hb xd_Sh_accept_62 rfl (lv_at hl 1 rfl) ?_
          have hFc := px_free hD hS hA
          obtain ⟨fd_53, hnd_53, q5_53, q6_53, hds_53⟩ := id (hSh)
          have c_54 : E 0 5 = .inr (2, [.ref (ad 0 6), .int (nI nd)]) := q5_53
          have m_55 : (0, 5) ∈ RL := hmB 5 (by omega)
          have c_56 : E 0 6 = .inl (kA 4, 12, .inr (.inr (.inr (.inr fd_53)))) := q6_53
          have m_57 : (0, 6) ∈ RL := hmB 6 (by omega)
          refine va_calli (va_runV (As := [.ref (ad 0 1)]) (rest := []) ⟨hx, hb, hml, hown, hT⟩ (xc_Sh_acceptGrantX l D kA H.size ad E RL Z g ml nd len lt wl cs (by first | assumption | omega) (by first | assumption | omega) (by first | assumption | omega) (by first | assumption | omega)) (cwV 1 hT (wT_V k5j_16 k5j_17 k5j_18 k5j_10 k5j_15) rfl rfl rfl (by decide +kernel) ⟨Nat.le_of_ble_eq_true rfl, Nat.le_of_ble_eq_true rfl⟩) (px_preVZ hK hP hD m_55 c_54 rfl hFc (hZ.kept hS)) rfl rfl hl.1 rfl (lv_room (Nat.le_of_ble_eq_true rfl)) xd_Sh_accept_63 ⟨(Nat.le_of_ble_eq_true rfl), (Nat.le_of_ble_eq_true rfl)⟩) hS (fun q _ h => hFc q h) hFc (fun r58 u59 t H1 locs ht hvm hp60 hB hz1 hk1 hS => ?_)
          obtain ⟨hP1, hD1⟩ := hB
          rw [ht] at hP1
          have hD1 := hD1.weaken (fun _ _ _ h => hFc _ h)
          generalize H1 = H at hP1 hS ⊢
          have hP := hP1
          have hD := hD1
          obtain ⟨ad61, E62, RL63⟩ := u59
          have hl := lv_sub hl [] rfl
          have hl : lv_has ls 2 [] := hl
          have hP : va_P D xcl (rp ad61 E62 RL63) H := hP
          have hD : va_D A (rp ad61 E62 RL63) := hD
          have hCIx := hp60
          refine W.widen (k := 13) (n := 66) (Nat.le_of_ble_eq_true rfl) (Nat.le_of_ble_eq_true rfl) ?_
          exact W.iret (v := r58) hx hb hr (fun t ht hW => ⟨⟨r58, (ad61, E62, RL63), rfl, (by
        have e9 : lnF (g 0) wl nd g = (nd, lG 7 9 (g 0) wl nd g) := by unfold lnF; rw [cif_neg hw0, cif_neg hw1, cif_pos hw2]
        rw [cif_pos hw2] at hCIx
        rw [e9]; exact hCIx), by rw [ht]; exact hP, hD⟩, hS.F ht⟩) hS.2.2 xd_Sh_accept_66
        · have hw2 : ¬ wS (g 0) wl 0 zEx := by have q := z51; rw [zw2] at q; exact q
          refine W.eq (g2 := F0 m 48 ls [.int 0]) rfl ?_
          refine lv_if_ne (tgt := 61) hx hb xd_Sh_accept_48 (by decide) (fun hc64 => absurd (by decide) hc64) (fun _ => ?_)
          refine lv_aload_n hx hb xd_Sh_accept_51 rfl (lv_at hl 1 rfl) ?_
          refine lv_iconst (v := 0) hx hb xd_Sh_accept_52 (by decide) ?_
          refine va_ldcS (q := Z.1 3) hx hb hown hZ.2.2.2.1.2.2.2.1 xd_Sh_accept_53 ?_
          have hFc := px_free hD hS hA
          refine va_calli (va_runV (As := [.int 0, .ref (Z.1 3)]) (rest := []) ⟨hx, hb, hml, hown, hT⟩ (xc_Li_wordIsX l D kA H.size ad E RL Z g ml nd len lt wl cs 0 3 (by first | assumption | omega) (by first | assumption | omega) (by first | assumption | omega) (by first | assumption | omega)) (cwV 2 hT (wT_V k5j_2 k5j_3 k5j_4 k5j_5 k5j_1) rfl rfl rfl (by decide +kernel) ⟨Nat.le_of_ble_eq_true rfl, Nat.le_of_ble_eq_true rfl⟩) (px_preVZ hK hP hD m_3 c_2 rfl hFc (hZ.kept hS)) rfl rfl hl.1 rfl (lv_room (Nat.le_of_ble_eq_true rfl)) xd_Sh_accept_55 ⟨(Nat.le_of_ble_eq_true rfl), (Nat.le_of_ble_eq_true rfl)⟩) hS (fun q _ h => hFc q h) hFc (fun r65 u66 t H1 locs ht hvm hp67 hB hz1 hk1 hS => ?_)
          obtain ⟨hP1, hD1⟩ := hB
          rw [ht] at hP1
          have hD1 := hD1.weaken (fun _ _ _ h => hFc _ h)
          generalize H1 = H at hP1 hS ⊢
          have hP := hP1
          have hD := hD1
          have hP : va_P D xcl (rp ad E RL) H := hP
          have hD : va_D A (rp ad E RL) := hD
          rcases hp67 with ⟨rfl, z68⟩ | ⟨rfl, z69⟩
          · have hw3 : wS (g 0) wl 0 zOp := by have q := z68; rw [zw3] at q; exact q
            refine W.eq (g2 := F0 m 58 ls [.int 1]) rfl ?_
            refine lv_if_eq (tgt := 67) hx hb xd_Sh_accept_58 (by decide) (fun hc70 => absurd hc70 (by decide)) (fun _ => ?_)
            refine lv_aload_n hx hb xd_Sh_accept_61 rfl (lv_at hl 0 rfl) ?_
            refine lv_aload_n hx hb xd_Sh_accept_62 rfl (lv_at hl 1 rfl) ?_
            have hFc := px_free hD hS hA
            obtain ⟨fd_71, hnd_71, q5_71, q6_71, hds_71⟩ := id (hSh)
            have c_72 : E 0 5 = .inr (2, [.ref (ad 0 6), .int (nI nd)]) := q5_71
            have m_73 : (0, 5) ∈ RL := hmB 5 (by omega)
            have c_74 : E 0 6 = .inl (kA 4, 12, .inr (.inr (.inr (.inr fd_71)))) := q6_71
            have m_75 : (0, 6) ∈ RL := hmB 6 (by omega)
            refine va_calli (va_runV (As := [.ref (ad 0 1)]) (rest := []) ⟨hx, hb, hml, hown, hT⟩ (xc_Sh_acceptGrantX l D kA H.size ad E RL Z g ml nd len lt wl cs (by first | assumption | omega) (by first | assumption | omega) (by first | assumption | omega) (by first | assumption | omega)) (cwV 1 hT (wT_V k5j_16 k5j_17 k5j_18 k5j_10 k5j_15) rfl rfl rfl (by decide +kernel) ⟨Nat.le_of_ble_eq_true rfl, Nat.le_of_ble_eq_true rfl⟩) (px_preVZ hK hP hD m_73 c_72 rfl hFc (hZ.kept hS)) rfl rfl hl.1 rfl (lv_room (Nat.le_of_ble_eq_true rfl)) xd_Sh_accept_63 ⟨(Nat.le_of_ble_eq_true rfl), (Nat.le_of_ble_eq_true rfl)⟩) hS (fun q _ h => hFc q h) hFc (fun r76 u77 t H1 locs ht hvm hp78 hB hz1 hk1 hS => ?_)
            obtain ⟨hP1, hD1⟩ := hB
            rw [ht] at hP1
            have hD1 := hD1.weaken (fun _ _ _ h => hFc _ h)
            generalize H1 = H at hP1 hS ⊢
            have hP := hP1
            have hD := hD1
            obtain ⟨ad79, E80, RL81⟩ := u77
            have hl := lv_sub hl [] rfl
            have hl : lv_has ls 2 [] := hl
            have hP : va_P D xcl (rp ad79 E80 RL81) H := hP
            have hD : va_D A (rp ad79 E80 RL81) := hD
            have hCIx := hp78
            refine W.widen (k := 13) (n := 66) (Nat.le_of_ble_eq_true rfl) (Nat.le_of_ble_eq_true rfl) ?_
            exact W.iret (v := r76) hx hb hr (fun t ht hW => ⟨⟨r76, (ad79, E80, RL81), rfl, (by
        have e9 : lnF (g 0) wl nd g = (nd, lG 8 10 (g 0) wl nd g) := by unfold lnF; rw [cif_neg hw0, cif_neg hw1, cif_neg hw2, cif_pos hw3]
        rw [cif_neg hw2] at hCIx
        rw [e9]; exact hCIx), by rw [ht]; exact hP, hD⟩, hS.F ht⟩) hS.2.2 xd_Sh_accept_66
          · have hw3 : ¬ wS (g 0) wl 0 zOp := by have q := z69; rw [zw3] at q; exact q
            refine W.eq (g2 := F0 m 58 ls [.int 0]) rfl ?_
            refine lv_if_eq (tgt := 67) hx hb xd_Sh_accept_58 (by decide) (fun _ => ?_) (fun hc82 => absurd (by decide) hc82)
            refine lv_aload_n hx hb xd_Sh_accept_67 rfl (lv_at hl 1 rfl) ?_
            refine lv_iconst (v := 0) hx hb xd_Sh_accept_68 (by decide) ?_
            refine va_ldcS (q := Z.1 4) hx hb hown hZ.2.2.2.1.2.2.2.2.1 xd_Sh_accept_69 ?_
            have hFc := px_free hD hS hA
            refine va_calli (va_runV (As := [.int 0, .ref (Z.1 4)]) (rest := []) ⟨hx, hb, hml, hown, hT⟩ (xc_Li_wordIsX l D kA H.size ad E RL Z g ml nd len lt wl cs 0 4 (by first | assumption | omega) (by first | assumption | omega) (by first | assumption | omega) (by first | assumption | omega)) (cwV 2 hT (wT_V k5j_2 k5j_3 k5j_4 k5j_5 k5j_1) rfl rfl rfl (by decide +kernel) ⟨Nat.le_of_ble_eq_true rfl, Nat.le_of_ble_eq_true rfl⟩) (px_preVZ hK hP hD m_3 c_2 rfl hFc (hZ.kept hS)) rfl rfl hl.1 rfl (lv_room (Nat.le_of_ble_eq_true rfl)) xd_Sh_accept_71 ⟨(Nat.le_of_ble_eq_true rfl), (Nat.le_of_ble_eq_true rfl)⟩) hS (fun q _ h => hFc q h) hFc (fun r83 u84 t H1 locs ht hvm hp85 hB hz1 hk1 hS => ?_)
            obtain ⟨hP1, hD1⟩ := hB
            rw [ht] at hP1
            have hD1 := hD1.weaken (fun _ _ _ h => hFc _ h)
            generalize H1 = H at hP1 hS ⊢
            have hP := hP1
            have hD := hD1
            have hP : va_P D xcl (rp ad E RL) H := hP
            have hD : va_D A (rp ad E RL) := hD
            rcases hp85 with ⟨rfl, z86⟩ | ⟨rfl, z87⟩
            · have hw4 : wS (g 0) wl 0 zRe := by have q := z86; rw [zw4] at q; exact q
              refine W.eq (g2 := F0 m 74 ls [.int 1]) rfl ?_
              refine lv_if_eq (tgt := 83) hx hb xd_Sh_accept_74 (by decide) (fun hc88 => absurd hc88 (by decide)) (fun _ => ?_)
              refine lv_aload_n hx hb xd_Sh_accept_77 rfl (lv_at hl 0 rfl) ?_
              refine lv_aload_n hx hb xd_Sh_accept_78 rfl (lv_at hl 1 rfl) ?_
              have hFc := px_free hD hS hA
              obtain ⟨fd_89, hnd_89, q5_89, q6_89, hds_89⟩ := id (hSh)
              have c_90 : E 0 5 = .inr (2, [.ref (ad 0 6), .int (nI nd)]) := q5_89
              have m_91 : (0, 5) ∈ RL := hmB 5 (by omega)
              have c_92 : E 0 6 = .inl (kA 4, 12, .inr (.inr (.inr (.inr fd_89)))) := q6_89
              have m_93 : (0, 6) ∈ RL := hmB 6 (by omega)
              refine va_calli (va_runV (As := [.ref (ad 0 1)]) (rest := []) ⟨hx, hb, hml, hown, hT⟩ (xc_Sh_acceptRequiredX l D kA H.size ad E RL Z g ml nd len lt wl cs (by first | assumption | omega) (by first | assumption | omega) (by first | assumption | omega) (by first | assumption | omega) (by first | assumption | omega)) (cwV 1 hT (wT_V k5j_20 k5j_21 k5j_22 k5j_10 k5j_19) rfl rfl rfl (by decide +kernel) ⟨Nat.le_of_ble_eq_true rfl, Nat.le_of_ble_eq_true rfl⟩) (px_preVZ hK hP hD m_91 c_90 rfl hFc (hZ.kept hS)) rfl rfl hl.1 rfl (lv_room (Nat.le_of_ble_eq_true rfl)) xd_Sh_accept_79 ⟨(Nat.le_of_ble_eq_true rfl), (Nat.le_of_ble_eq_true rfl)⟩) hS (fun q _ h => hFc q h) hFc (fun r94 u95 t H1 locs ht hvm hp96 hB hz1 hk1 hS => ?_)
              obtain ⟨hP1, hD1⟩ := hB
              rw [ht] at hP1
              have hD1 := hD1.weaken (fun _ _ _ h => hFc _ h)
              generalize H1 = H at hP1 hS ⊢
              have hP := hP1
              have hD := hD1
              obtain ⟨ad97, E98, RL99⟩ := u95
              have hl := lv_sub hl [] rfl
              have hl : lv_has ls 2 [] := hl
              have hP : va_P D xcl (rp ad97 E98 RL99) H := hP
              have hD : va_D A (rp ad97 E98 RL99) := hD
              have hCIx := hp96
              refine W.widen (k := 13) (n := 66) (Nat.le_of_ble_eq_true rfl) (Nat.le_of_ble_eq_true rfl) ?_
              exact W.iret (v := r94) hx hb hr (fun t ht hW => ⟨⟨r94, (ad97, E98, RL99), rfl, (by
        have e9 : lnF (g 0) wl nd g = (nd, lR (g 0) wl nd g) := by unfold lnF; rw [cif_neg hw0, cif_neg hw1, cif_neg hw2, cif_neg hw3, cif_pos hw4]
        rw [e9]; exact hCIx), by rw [ht]; exact hP, hD⟩, hS.F ht⟩) hS.2.2 xd_Sh_accept_82
            · have hw4 : ¬ wS (g 0) wl 0 zRe := by have q := z87; rw [zw4] at q; exact q
              refine W.eq (g2 := F0 m 74 ls [.int 0]) rfl ?_
              refine lv_if_eq (tgt := 83) hx hb xd_Sh_accept_74 (by decide) (fun _ => ?_) (fun hc100 => absurd (by decide) hc100)
              refine lv_aload_n hx hb xd_Sh_accept_83 rfl (lv_at hl 1 rfl) ?_
              refine lv_iconst (v := 0) hx hb xd_Sh_accept_84 (by decide) ?_
              refine va_ldcS (q := Z.1 5) hx hb hown hZ.2.2.2.1.2.2.2.2.2.1 xd_Sh_accept_85 ?_
              have hFc := px_free hD hS hA
              refine va_calli (va_runV (As := [.int 0, .ref (Z.1 5)]) (rest := []) ⟨hx, hb, hml, hown, hT⟩ (xc_Li_wordIsX l D kA H.size ad E RL Z g ml nd len lt wl cs 0 5 (by first | assumption | omega) (by first | assumption | omega) (by first | assumption | omega) (by first | assumption | omega)) (cwV 2 hT (wT_V k5j_2 k5j_3 k5j_4 k5j_5 k5j_1) rfl rfl rfl (by decide +kernel) ⟨Nat.le_of_ble_eq_true rfl, Nat.le_of_ble_eq_true rfl⟩) (px_preVZ hK hP hD m_3 c_2 rfl hFc (hZ.kept hS)) rfl rfl hl.1 rfl (lv_room (Nat.le_of_ble_eq_true rfl)) xd_Sh_accept_87 ⟨(Nat.le_of_ble_eq_true rfl), (Nat.le_of_ble_eq_true rfl)⟩) hS (fun q _ h => hFc q h) hFc (fun r101 u102 t H1 locs ht hvm hp103 hB hz1 hk1 hS => ?_)
              obtain ⟨hP1, hD1⟩ := hB
              rw [ht] at hP1
              have hD1 := hD1.weaken (fun _ _ _ h => hFc _ h)
              generalize H1 = H at hP1 hS ⊢
              have hP := hP1
              have hD := hD1
              have hP : va_P D xcl (rp ad E RL) H := hP
              have hD : va_D A (rp ad E RL) := hD
              rcases hp103 with ⟨rfl, z104⟩ | ⟨rfl, z105⟩
              · have hw5 : wS (g 0) wl 0 zUs := by have q := z104; rw [zw5] at q; exact q
                refine W.eq (g2 := F0 m 90 ls [.int 1]) rfl ?_
                refine lv_if_ne (tgt := 103) hx hb xd_Sh_accept_90 (by decide) (fun _ => ?_) (fun hc106 => absurd hc106 (by decide))
                refine lv_aload_n hx hb xd_Sh_accept_103 rfl (lv_at hl 0 rfl) ?_
                refine lv_aload_n hx hb xd_Sh_accept_104 rfl (lv_at hl 1 rfl) ?_
                have hFc := px_free hD hS hA
                obtain ⟨fd_107, hnd_107, q5_107, q6_107, hds_107⟩ := id (hSh)
                have c_108 : E 0 5 = .inr (2, [.ref (ad 0 6), .int (nI nd)]) := q5_107
                have m_109 : (0, 5) ∈ RL := hmB 5 (by omega)
                have c_110 : E 0 6 = .inl (kA 4, 12, .inr (.inr (.inr (.inr fd_107)))) := q6_107
                have m_111 : (0, 6) ∈ RL := hmB 6 (by omega)
                refine va_calli (va_runV (As := [.ref (ad 0 1)]) (rest := []) ⟨hx, hb, hml, hown, hT⟩ (xc_Sh_acceptServiceX l D kA H.size ad E RL Z g ml nd len lt wl cs (by first | assumption | omega) (by first | assumption | omega) (by first | assumption | omega) (by first | assumption | omega)) (cwV 1 hT (wT_V k5j_24 k5j_25 k5j_26 k5j_10 k5j_23) rfl rfl rfl (by decide +kernel) ⟨Nat.le_of_ble_eq_true rfl, Nat.le_of_ble_eq_true rfl⟩) (px_preVZ hK hP hD m_109 c_108 rfl hFc (hZ.kept hS)) rfl rfl hl.1 rfl (lv_room (Nat.le_of_ble_eq_true rfl)) xd_Sh_accept_105 ⟨(Nat.le_of_ble_eq_true rfl), (Nat.le_of_ble_eq_true rfl)⟩) hS (fun q _ h => hFc q h) hFc (fun r112 u113 t H1 locs ht hvm hp114 hB hz1 hk1 hS => ?_)
                obtain ⟨hP1, hD1⟩ := hB
                rw [ht] at hP1
                have hD1 := hD1.weaken (fun _ _ _ h => hFc _ h)
                generalize H1 = H at hP1 hS ⊢
                have hP := hP1
                have hD := hD1
                obtain ⟨ad115, E116, RL117⟩ := u113
                have hl := lv_sub hl [] rfl
                have hl : lv_has ls 2 [] := hl
                have hP : va_P D xcl (rp ad115 E116 RL117) H := hP
                have hD : va_D A (rp ad115 E116 RL117) := hD
                have hCIx := hp114
                refine W.widen (k := 13) (n := 66) (Nat.le_of_ble_eq_true rfl) (Nat.le_of_ble_eq_true rfl) ?_
                exact W.iret (v := r112) hx hb hr (fun t ht hW => ⟨⟨r112, (ad115, E116, RL117), rfl, (by
        have e9 : lnF (g 0) wl nd g = (nd, lS 14 (g 0) wl nd g) := by unfold lnF; rw [cif_neg hw0, cif_neg hw1, cif_neg hw2, cif_neg hw3, cif_neg hw4, cif_pos hw5]
        rw [cif_pos hw5] at hCIx
        rw [e9]; exact hCIx), by rw [ht]; exact hP, hD⟩, hS.F ht⟩) hS.2.2 xd_Sh_accept_108
              · have hw5 : ¬ wS (g 0) wl 0 zUs := by have q := z105; rw [zw5] at q; exact q
                refine W.eq (g2 := F0 m 90 ls [.int 0]) rfl ?_
                refine lv_if_ne (tgt := 103) hx hb xd_Sh_accept_90 (by decide) (fun hc118 => absurd (by decide) hc118) (fun _ => ?_)
                refine lv_aload_n hx hb xd_Sh_accept_93 rfl (lv_at hl 1 rfl) ?_
                refine lv_iconst (v := 0) hx hb xd_Sh_accept_94 (by decide) ?_
                refine va_ldcS (q := Z.1 6) hx hb hown hZ.2.2.2.1.2.2.2.2.2.2.1 xd_Sh_accept_95 ?_
                have hFc := px_free hD hS hA
                refine va_calli (va_runV (As := [.int 0, .ref (Z.1 6)]) (rest := []) ⟨hx, hb, hml, hown, hT⟩ (xc_Li_wordIsX l D kA H.size ad E RL Z g ml nd len lt wl cs 0 6 (by first | assumption | omega) (by first | assumption | omega) (by first | assumption | omega) (by first | assumption | omega)) (cwV 2 hT (wT_V k5j_2 k5j_3 k5j_4 k5j_5 k5j_1) rfl rfl rfl (by decide +kernel) ⟨Nat.le_of_ble_eq_true rfl, Nat.le_of_ble_eq_true rfl⟩) (px_preVZ hK hP hD m_3 c_2 rfl hFc (hZ.kept hS)) rfl rfl hl.1 rfl (lv_room (Nat.le_of_ble_eq_true rfl)) xd_Sh_accept_97 ⟨(Nat.le_of_ble_eq_true rfl), (Nat.le_of_ble_eq_true rfl)⟩) hS (fun q _ h => hFc q h) hFc (fun r119 u120 t H1 locs ht hvm hp121 hB hz1 hk1 hS => ?_)
                obtain ⟨hP1, hD1⟩ := hB
                rw [ht] at hP1
                have hD1 := hD1.weaken (fun _ _ _ h => hFc _ h)
                generalize H1 = H at hP1 hS ⊢
                have hP := hP1
                have hD := hD1
                have hP : va_P D xcl (rp ad E RL) H := hP
                have hD : va_D A (rp ad E RL) := hD
                rcases hp121 with ⟨rfl, z122⟩ | ⟨rfl, z123⟩
                · have hw6 : wS (g 0) wl 0 zPr := by have q := z122; rw [zw6] at q; exact q
                  refine W.eq (g2 := F0 m 100 ls [.int 1]) rfl ?_
                  refine lv_if_eq (tgt := 109) hx hb xd_Sh_accept_100 (by decide) (fun hc124 => absurd hc124 (by decide)) (fun _ => ?_)
                  refine lv_aload_n hx hb xd_Sh_accept_103 rfl (lv_at hl 0 rfl) ?_
                  refine lv_aload_n hx hb xd_Sh_accept_104 rfl (lv_at hl 1 rfl) ?_
                  have hFc := px_free hD hS hA
                  obtain ⟨fd_125, hnd_125, q5_125, q6_125, hds_125⟩ := id (hSh)
                  have c_126 : E 0 5 = .inr (2, [.ref (ad 0 6), .int (nI nd)]) := q5_125
                  have m_127 : (0, 5) ∈ RL := hmB 5 (by omega)
                  have c_128 : E 0 6 = .inl (kA 4, 12, .inr (.inr (.inr (.inr fd_125)))) := q6_125
                  have m_129 : (0, 6) ∈ RL := hmB 6 (by omega)
                  refine va_calli (va_runV (As := [.ref (ad 0 1)]) (rest := []) ⟨hx, hb, hml, hown, hT⟩ (xc_Sh_acceptServiceX l D kA H.size ad E RL Z g ml nd len lt wl cs (by first | assumption | omega) (by first | assumption | omega) (by first | assumption | omega) (by first | assumption | omega)) (cwV 1 hT (wT_V k5j_24 k5j_25 k5j_26 k5j_10 k5j_23) rfl rfl rfl (by decide +kernel) ⟨Nat.le_of_ble_eq_true rfl, Nat.le_of_ble_eq_true rfl⟩) (px_preVZ hK hP hD m_127 c_126 rfl hFc (hZ.kept hS)) rfl rfl hl.1 rfl (lv_room (Nat.le_of_ble_eq_true rfl)) xd_Sh_accept_105 ⟨(Nat.le_of_ble_eq_true rfl), (Nat.le_of_ble_eq_true rfl)⟩) hS (fun q _ h => hFc q h) hFc (fun r130 u131 t H1 locs ht hvm hp132 hB hz1 hk1 hS => ?_)
                  obtain ⟨hP1, hD1⟩ := hB
                  rw [ht] at hP1
                  have hD1 := hD1.weaken (fun _ _ _ h => hFc _ h)
                  generalize H1 = H at hP1 hS ⊢
                  have hP := hP1
                  have hD := hD1
                  obtain ⟨ad133, E134, RL135⟩ := u131
                  have hl := lv_sub hl [] rfl
                  have hl : lv_has ls 2 [] := hl
                  have hP : va_P D xcl (rp ad133 E134 RL135) H := hP
                  have hD : va_D A (rp ad133 E134 RL135) := hD
                  have hCIx := hp132
                  refine W.widen (k := 13) (n := 66) (Nat.le_of_ble_eq_true rfl) (Nat.le_of_ble_eq_true rfl) ?_
                  exact W.iret (v := r130) hx hb hr (fun t ht hW => ⟨⟨r130, (ad133, E134, RL135), rfl, (by
        have e9 : lnF (g 0) wl nd g = (nd, lS 15 (g 0) wl nd g) := by unfold lnF; rw [cif_neg hw0, cif_neg hw1, cif_neg hw2, cif_neg hw3, cif_neg hw4, cif_neg hw5, cif_pos hw6]
        rw [cif_neg hw5] at hCIx
        rw [e9]; exact hCIx), by rw [ht]; exact hP, hD⟩, hS.F ht⟩) hS.2.2 xd_Sh_accept_108
                · have hw6 : ¬ wS (g 0) wl 0 zPr := by have q := z123; rw [zw6] at q; exact q
                  refine W.eq (g2 := F0 m 100 ls [.int 0]) rfl ?_
                  refine lv_if_eq (tgt := 109) hx hb xd_Sh_accept_100 (by decide) (fun _ => ?_) (fun hc136 => absurd (by decide) hc136)
                  refine lv_iconst (v := (-1)) hx hb xd_Sh_accept_109 (by decide) ?_
                  refine W.widen (k := 13) (n := 66) (Nat.le_of_ble_eq_true rfl) (Nat.le_of_ble_eq_true rfl) ?_
                  exact W.iret (v := (-1)) hx hb hr (fun t ht hW => ⟨⟨(-1), (ad, E, RL), rfl, (by
        have e9 : lnF (g 0) wl nd g = (nd, g) := by unfold lnF; rw [cif_neg hw0, cif_neg hw1, cif_neg hw2, cif_neg hw3, cif_neg hw4, cif_neg hw5, cif_neg hw6]
        rw [e9]; exact ⟨hCI, hTD, rfl, FRL_rf⟩), by rw [ht]; exact hP, hD⟩, hS.F ht⟩) hS.2.2 xd_Sh_accept_110
  · refine lv_iconst (v := 0) hx hb xd_Sh_accept_7 (by decide) ?_
    refine W.widen (k := 13) (n := 66) (Nat.le_of_ble_eq_true rfl) (Nat.le_of_ble_eq_true rfl) ?_
    exact W.iret (v := 0) hx hb hr (fun t ht hW => ⟨⟨0, (ad, E, RL), rfl, (by rw [lnF_nil (by omega)]; exact ⟨hCI, hTD, rfl, FRL_rf⟩), by rw [ht]; exact hP, hD⟩, hS.F ht⟩) hS.2.2 xd_Sh_accept_8
def eR (e : va_E) : Nat → Option Nat := match e with
  | .inl (_, _, .inr (.inr (.inr (.inr f)))) => f
  | _ => fun _ => none
def TLa (g : gT) (ad : Nat → Nat → Nat) (e : Nat → va_E) (nd n : Nat) : Prop := eI (e 0) 3 = g 22 n ∧ (∃ lq, lq ≤ n ∧ g 19 n = nI lq - 1 ∧ eV (e 0) 1 = lyv ad lq) ∧ g 20 n = nI (eL (e 1)) ∧ ∀ k, k < eL (e 1) → ∃ d, d < nd ∧ g 21 (12 * n + k) = nI d ∧ eV (e (10 + 10 * k)) 1 = .ref (ad (1 + d) 0)
def TLas (g : gT) (ad : Nat → Nat → Nat) (E : Nat → Nat → va_E) (nd nL : Nat) : Prop := ∀ n, n < nL → TLa g ad (E (20 + n)) nd n
theorem TLa_get {g : gT} {ad : Nat → Nat → Nat} {e : Nat → va_E} {nd n mk : Nat} {v0 v2 pv : Value} {op : Int32} {ka : ClassId} {x : (Nat → Int32) ⊕ (Nat → Int64) ⊕ (Nat → UInt32) ⊕ (Nat → UInt64) ⊕ (Nat → Option Nat)} (c0 : e 0 = .inr (5, [v0, pv, v2, .int op])) (c1 : e 1 = .inl (ka, mk, x)) (h : TLa g ad e nd n) : op = g 22 n ∧ (∃ lq, lq ≤ n ∧ g 19 n = nI lq - 1 ∧ pv = lyv ad lq) ∧ g 20 n = nI mk ∧ ∀ k, k < mk → ∃ d, d < nd ∧ g 21 (12 * n + k) = nI d ∧ eV (e (10 + 10 * k)) 1 = .ref (ad (1 + d) 0) := by
  obtain ⟨h1, h2, h3, h4⟩ := h
  rw [c0] at h1 h2
  rw [c1] at h3 h4
  exact ⟨h1, h2, h3, h4⟩
theorem prv_T {g : gT} {ad : Nat → Nat → Nat} {E : Nat → Nat → va_E} {nd nL : Nat} (hL : nL ≤ 6) (h : TLas g ad E nd nL) : ∀ x, x < nL → prv g x ≤ x := fun x hx => by
  obtain ⟨_, ⟨lq, h1, h2, _⟩, _⟩ := h x hx
  rw [prv_of h2 (by omega)]; exact h1
def CX (ad : Nat → Nat → Nat) (E : Nat → Nat → va_E) (nd : Nat) (fi : Int32) (lq : Nat) (L : List Nat) : Prop := eI (E 0 7) 3 = fi ∧ eV (E 0 7) 4 = lyv ad lq ∧ (∀ k, k < L.length → eR (E 0 8) k = some (ad (1 + L.getD k 0) 0)) ∧ GL nd L
def F78 (E E' : Nat → Nat → va_E) : Prop := ∀ b2 o2, ¬ (b2 = 0 ∧ o2 = 7) → ¬ (b2 = 0 ∧ o2 = 8) → E' b2 o2 = E b2 o2
theorem F78_rf {E : Nat → Nat → va_E} : F78 E E := fun _ _ _ _ => rfl
theorem F78_tr {E E' E2 : Nat → Nat → va_E} (h : F78 E E') (h2 : F78 E' E2) : F78 E E2 := fun b o h7 h8 => (h2 b o h7 h8).trans (h b o h7 h8)
theorem TDs_78 {g : gT} {E E' : Nat → Nat → va_E} {nd : Nat} (h : F78 E E') (ht : TDs g E nd) : TDs g E' nd := TDs_same (fun d _ => fun2 fun o => h (1 + d) o (by omega) (by omega)) ht
theorem TLas_same {g : gT} {ad ad' : Nat → Nat → Nat} {E E' : Nat → Nat → va_E} {nd nd' nL : Nat} (hn : nd ≤ nd') (hE : ∀ n, n < nL → E' (20 + n) = E (20 + n)) (h1 : ∀ d, d < nd → ad' (1 + d) 0 = ad (1 + d) 0) (h2 : ∀ n, n < nL → ad' (20 + n) 0 = ad (20 + n) 0) (h : TLas g ad E nd nL) : TLas g ad' E' nd' nL := fun n hn9 => by
  obtain ⟨q1, ⟨lq, q2, q3, q4⟩, q5, q6⟩ := h n hn9
  rw [hE n hn9]
  refine ⟨q1, ⟨lq, q2, q3, ?_⟩, q5, fun k hk => ?_⟩
  · rw [q4]
    cases lq with
    | zero => rfl
    | succ y => show Value.ref (ad (20 + y) 0) = .ref (ad' (20 + y) 0); rw [h2 y (by omega)]
  · obtain ⟨d, r1, r2, r3⟩ := q6 k hk
    exact ⟨d, by omega, r2, by rw [r3, h1 d r1]⟩
theorem TLas_78 {g : gT} {ad : Nat → Nat → Nat} {E E' : Nat → Nat → va_E} {nd nL : Nat} (h : F78 E E') (ht : TLas g ad E nd nL) : TLas g ad E' nd nL := TLas_same (Nat.le_refl _) (fun n _ => fun2 fun o => h (20 + n) o (by omega) (by omega)) (fun _ _ => rfl) (fun _ _ => rfl) ht
theorem lkG_hitT {g : gT} {y k mk : Nat} {n : Int32} (hm : g 20 y = nI mk) (hmk : mk ≤ 12) (hk : k < mk) (h : g 4 (mdv g y k) = n) (hno : ∀ j, j < k → ¬ g 4 (mdv g y j) = n) : lkG g (y + 1) n = some (y, mdv g y k) := lkU_hit (by unfold mcv; rw [hm, iN_nI (by omega)]; exact hk) h hno
theorem lkG_missT {g : gT} {y lq mk : Nat} {n : Int32} (hp : ∀ x, x < y + 1 → prv g x ≤ x) (hm : g 20 y = nI mk) (hmk : mk ≤ 12) (h19 : g 19 y = nI lq - 1) (hlq : lq ≤ 6) (hno : ∀ j, j < mk → ¬ g 4 (mdv g y j) = n) : lkG g (y + 1) n = lkG g lq n := by
  have q := lkU_miss (nm := g 4) (mc := mcv g) (md := mdv g) (pr := prv g) (la := y) (n := n) hp (by unfold mcv; rw [hm, iN_nI (by omega)]; exact hno)
  rw [prv_of h19 (by omega)] at q
  exact q
theorem lyv_s {ad : Nat → Nat → Nat} {lq y : Nat} (h : lq = y + 1) : lyv ad lq = .ref (ad (20 + y) 0) := by rw [h]; rfl
theorem lyv_0 {ad : Nat → Nat → Nat} {lq : Nat} (h : lq = 0) : lyv ad lq = .null := by rw [h]; rfl
theorem k5k_0 : (Cond.fieldLink "LayerDesk$Layer" 19 "LayerDesk$Layer" "members" "[LLayerDesk$Member;") ∈ wT := wT_t (List.mem_append_right _ (List.mem_append_right _ (List.mem_append_left _ (List.mem_of_getElem? (i := 147) rfl)))) rfl
theorem k5k_1 : (Cond.fieldLink "LayerDesk$Layer" 13 "LayerDesk$Layer" "parent" "LLayerDesk$Layer;") ∈ wT := wT_t (List.mem_append_right _ (List.mem_append_right _ (List.mem_append_left _ (List.mem_of_getElem? (i := 143) rfl)))) rfl
theorem k5k_2 : (Cond.fieldLink "LayerDesk$Layer" 27 "LayerDesk$Member" "descriptor" "LLayerDesk$Descriptor;") ∈ wT := wT_t (List.mem_append_right _ (List.mem_append_right _ (List.mem_append_left _ (List.mem_of_getElem? (i := 183) rfl)))) rfl
theorem k5k_3 : (Cond.fieldLink "LayerDesk$Layer" 31 "LayerDesk$Descriptor" "name" "I") ∈ wT := wT_t (List.mem_append_right _ (List.mem_append_left _ (List.mem_of_getElem? (i := 55) rfl))) rfl
theorem k5k_4 : (Cond.fieldLink "LayerDesk" 38 "LayerDesk" "made" "I") ∈ wT := wT_t (List.mem_append_left _ (List.mem_of_getElem? (i := 103) rfl)) rfl
theorem k5k_5 : (Cond.fieldLink "LayerDesk" 34 "LayerDesk" "layers" "[LLayerDesk$Layer;") ∈ wT := wT_t (List.mem_append_left _ (List.mem_of_getElem? (i := 102) rfl)) rfl
theorem k5k_6 : (Cond.fieldLink "LayerDesk" 117 "LayerDesk$Layer" "open" "Z") ∈ wT := wT_t (List.mem_append_right _ (List.mem_append_right _ (List.mem_append_left _ (List.mem_of_getElem? (i := 152) rfl)))) rfl
theorem k5k_7 : (Cond.fieldLink "LayerDesk$Chooser" 17 "LayerDesk$Chooser" "size" "I") ∈ wT := wT_t (List.mem_append_left _ (List.mem_of_getElem? (i := 83) rfl)) rfl
theorem k5k_8 : (Cond.fieldLink "LayerDesk$Chooser" 11 "LayerDesk$Chooser" "chosen" "[LLayerDesk$Descriptor;") ∈ wT := wT_t (List.mem_append_left _ (List.mem_of_getElem? (i := 82) rfl)) rfl
set_option maxHeartbeats 4000000 in
set_option maxRecDepth 100000 in
theorem xc_Ly_lookUpX (l : Launch) (D : va_G) (kA : Nat → ClassId) (sz : Nat) (ad : Nat → Nat → Nat) (E : Nat → Nat → va_E) (RL : List (Nat × Nat)) (g : Nat → Nat → Int32) (nd : Nat) (nL : Nat) (n : Nat) (nm : Int32) (hDIs : DIs kA ad E RL nd) (hLIs : LIs kA ad E RL nd nL) (hnL : nL ≤ 6) (hn : n < nL) (hTD : TDs g E nd) (hTL : TLas g ad E nd nL) (hnd12 : nd ≤ 12) : Met l xy_Ly_lookUp (.code xy_Ly_lookUp xb_Ly_lookUp 4 (some (.object "LayerDesk$Member")) :: wT) { frames := 0, cells := 0, slots := 0, locals := 0 } (va_Pc [.ref (ad (20 + n) 0), .int nm] (xPre D kA sz (rp ad E RL))) (va_Qq (fun (r : Option Nat) (u : Unit) => (r = none ∧ lkG g (n + 1) nm = none) ∨ ∃ x k, x ≤ n ∧ r = some (ad (20 + x) (10 + 10 * k)) ∧ MEI kA ad E RL nd x k ∧ k < iN (g 20 x) ∧ lkG g (n + 1) nm = some (x, mdv g x k)) (fun (u : Unit) t => va_P D xcl (rp ad E RL) t.heap ∧ va_D (va_A (rp ad E RL) sz) (rp ad E RL)) (va_A (rp ad E RL) sz)) 0 0 (va_A (rp ad E RL) sz) := by
  refine Met.ofW (cc := xb_Ly_lookUp) (maxL := 4) (ret := (some (.object "LayerDesk$Member"))) (by decide) rfl ?_
  intro p e s m args below meth c s₁ B hml hv
  obtain ⟨rfl, hsz, hP, hK, hD0⟩ := hv
  have hx := B.exec
  have hb := B.bytes
  have hr := B.returns
  have hT := x_hT B.pre
  have hown : s.vm.findClass xR_Ly = some m.cls := findClass_of_methodNamed B.named
  have hlocks := B.notSynchronized
  subst hsz
  have hD := hD0.self (sz := s.heap.size)
  generalize hAe : va_A (rp ad E RL) s.heap.size = A at hD ⊢
  have hA : ∀ q : Nat, s.heap.size ≤ q → A q := fun q h => by rw [← hAe]; exact Or.inr h
  have hS : va_S A s.heap s.heap [] := va_S.rf
  have hl := lv_entry ([.ref (ad (20 + n) 0), .int nm]) (n := 4) (Nat.le_of_ble_eq_true rfl)
  rw [lg_entry_eq]
  generalize (lg_sl ([.ref (ad (20 + n) 0), .int nm]) ++ List.replicate (4 - (lg_sl ([.ref (ad (20 + n) 0), .int nm])).length) Slot.unset).toArray = ls at hl ⊢
  have hl : lv_has ls 4 [(0, .ref (ad (20 + n) 0)), (1, .int nm)] := hl
  have hP : va_P D xcl (rp ad E RL) s.heap := hP
  refine lv_aload_n hx hb xd_Ly_lookUp_0 rfl (lv_at hl 0 rfl) ?_
  refine lv_astore_n hx hb xd_Ly_lookUp_1 rfl hl (Nat.le_of_ble_eq_true rfl) rfl (fun ls hl => ?_)
  have hl : lv_has ls 4 [(2, .ref (ad (20 + n) 0)), (0, .ref (ad (20 + n) 0)), (1, .int nm)] := hl
  refine xlab (σ := Nat) (ml := 4) 2 (fun (y : Nat) => [(2, (lyv ad y)), (0, .ref (ad (20 + n) 0)), (1, .int nm)]) (fun (y : Nat) => []) (fun (y : Nat) => rp ad E RL) (fun (y : Nat) => (y ≤ n + 1) ∧ (lkG g (n + 1) nm = lkG g y nm)) (fun (y : Nat) => y) ?_ (n + 1) _ _ _ (lv_sub hl [0, 1, 2] rfl) hP hD hS ⟨(show (n + 1) ≤ n + 1 from by first | assumption | omega), (show lkG g (n + 1) nm = lkG g (n + 1) nm from rfl)⟩
  intro n9 ih1 a9 ls H locs hμ hl hP hD hS hI
  subst hμ
  obtain ⟨y, rfl⟩ : ∃ z, z = a9 := ⟨_, rfl⟩
  obtain ⟨hy, hlk⟩ := hI
  have hy : y ≤ n + 1 := hy
  have hlk : lkG g (n + 1) nm = lkG g y nm := hlk
  have hl : lv_has ls 4 [(2, (lyv ad y)), (0, .ref (ad (20 + n) 0)), (1, .int nm)] := hl
  have hP : va_P D xcl (rp ad E RL) H := hP
  have hD : va_D A (rp ad E RL) := hD
  rcases y with _ | y
  · have hl : lv_has ls 4 [(2, .null), (0, .ref (ad (20 + n) 0)), (1, .int nm)] := hl
    refine lv_aload_nN hx hb xd_Ly_lookUp_2 rfl (lv_at hl 0 rfl) ?_
    refine lv_ifnullN (tgt := 54) hx hb xd_Ly_lookUp_3 (by decide) ?_
    refine lv_null hx hb xd_Ly_lookUp_54 ?_
    exact W.aret (v := .null) hx hb hr (Or.inl ⟨_, rfl⟩) (Or.inl rfl) (fun t ht hW => ⟨⟨none, (), rfl, Or.inl ⟨rfl, by rw [hlk]; rfl⟩, by rw [ht]; exact hP, hD⟩, hS.F ht⟩) hS.2.2 xd_Ly_lookUp_55
  · have hl : lv_has ls 4 [(2, .ref (ad (20 + y) 0)), (0, .ref (ad (20 + n) 0)), (1, .int nm)] := hl
    refine lv_aload_n hx hb xd_Ly_lookUp_2 rfl (lv_at hl 0 rfl) ?_
    refine lv_ifnull hx hb xd_Ly_lookUp_3 ?_
    refine lv_iconst (v := 0) hx hb xd_Ly_lookUp_6 (by decide) ?_
    refine lv_istore_n hx hb xd_Ly_lookUp_7 rfl hl (Nat.le_of_ble_eq_true rfl) rfl (fun ls hl => ?_)
    have hl : lv_has ls 4 [(3, .int 0), (2, .ref (ad (20 + y) 0)), (0, .ref (ad (20 + n) 0)), (1, .int nm)] := hl
    obtain ⟨m0_2, m1_2, pv_2, op_2, mk_2, fm_2, hmk_2, hpv_2, q0_2, q1_2, hk_2⟩ := id (hLIs y (by omega))
    have c_3 : E (20 + y) 0 = .inr (5, [.int (nI y), pv_2, .ref (ad (20 + y) 1), .int op_2]) := q0_2
    have m_4 : (20 + y, 0) ∈ RL := m0_2
    have c_5 : E (20 + y) 1 = .inl (kA 6, mk_2, .inr (.inr (.inr (.inr fm_2)))) := q1_2
    have m_6 : (20 + y, 1) ∈ RL := m1_2
    obtain ⟨top_2, ⟨lq_2, hlq_2, h19_2, hpv2_2⟩, h20_2, tmd_2⟩ := TLa_get c_3 c_5 (hTL y (by omega))
    have c_7 : E (20 + y) 0 = .inr (5, [.int (nI y), (lyv ad lq_2), .ref (ad (20 + y) 1), .int op_2]) := by rw [← hpv2_2]; exact c_3
    refine xlab (σ := Nat) (ml := 4) 8 (fun (k : Nat) => [(3, .int (nI k)), (2, .ref (ad (20 + y) 0)), (0, .ref (ad (20 + n) 0)), (1, .int nm)]) (fun (k : Nat) => []) (fun (k : Nat) => rp ad E RL) (fun (k : Nat) => (k ≤ mk_2) ∧ (∀ j, j < k → ¬ g 4 (mdv g y j) = nm)) (fun (k : Nat) => mk_2 - k) ?_ 0 _ _ _ (lv_sub hl [0, 1, 2, 3] rfl) hP hD hS ⟨(show 0 ≤ mk_2 from by first | assumption | omega), (show ∀ j, j < 0 → ¬ g 4 (mdv g y j) = nm from fun j hj => absurd hj (by omega))⟩
    intro n9 ih8 a9 ls H locs hμ hl hP hD hS hI
    subst hμ
    obtain ⟨k, rfl⟩ : ∃ z, z = a9 := ⟨_, rfl⟩
    obtain ⟨hk9, hno⟩ := hI
    have hk9 : k ≤ mk_2 := hk9
    have hno : ∀ j, j < k → ¬ g 4 (mdv g y j) = nm := hno
    have hl : lv_has ls 4 [(3, .int (nI k)), (2, .ref (ad (20 + y) 0)), (0, .ref (ad (20 + n) 0)), (1, .int nm)] := hl
    have hP : va_P D xcl (rp ad E RL) H := hP
    have hD : va_D A (rp ad E RL) := hD
    refine lv_iload_n hx hb xd_Ly_lookUp_8 rfl (lv_at hl 0 rfl) ?_
    refine lv_aload_n hx hb xd_Ly_lookUp_9 rfl (lv_at hl 1 rfl) ?_
    refine px_get (D := D) (ci := 5) (v := .ref (ad (20 + y) 1)) (C := xR_Ly) (T := xT_Ly) (N := 4) hx hb hT xi_Ly hown hK.1 hP m_4 c_7 rfl 2 (by decide) (hT _ k5k_0) (fun _ h9 => h9) rfl xd_Ly_lookUp_10 ?_
    refine px_alen hx hb hK.1 hP m_6 c_5 6 rfl xd_Ly_lookUp_13 ?_
    refine W.eq (g2 := F0 m 14 ls [.int (nI mk_2), .int (nI k)]) rfl ?_
    refine xn_ge (a := k) (b := mk_2) (tgt := 46) hx hb xd_Ly_lookUp_14 (by decide) (by omega) (by omega) (fun hc9 => ?_) (fun hc9 => ?_)
    · refine lv_aload_n hx hb xd_Ly_lookUp_46 rfl (lv_at hl 1 rfl) ?_
      refine px_get (D := D) (ci := 5) (v := (lyv ad lq_2)) (C := xR_Ly) (T := xT_Ly) (N := 4) hx hb hT xi_Ly hown hK.1 hP m_4 c_7 rfl 1 (by decide) (hT _ k5k_1) (fun _ h9 => h9) rfl xd_Ly_lookUp_47 ?_
      rcases (show lq_2 = 0 ∨ ∃ yq, lq_2 = yq + 1 from by rcases Nat.eq_zero_or_pos lq_2 with q | q; exact Or.inl q; exact Or.inr ⟨lq_2 - 1, by omega⟩) with hyq | ⟨yq, hyq⟩
      · refine W.eq (g2 := F0 m 50 ls [.null]) (by rw [lyv_0 hyq]) ?_
        refine lv_astore_nN hx hb xd_Ly_lookUp_50 rfl hl (Nat.le_of_ble_eq_true rfl) rfl (fun ls hl => ?_)
        have hl : lv_has ls 4 [(2, .null), (3, .int (nI k)), (0, .ref (ad (20 + n) 0)), (1, .int nm)] := hl
        refine lv_goto (tgt := 2) hx hb xd_Ly_lookUp_51 (by decide) ?_
        exact ih1 0 _ _ _ (show 0 < y + 1 by omega) (lv_sub hl [0, 2, 3] rfl) hP hD hS ⟨(show 0 ≤ n + 1 from by first | assumption | omega), (show lkG g (n + 1) nm = lkG g 0 nm from (hlk.trans (lkG_missT (fun x hx => prv_T hnL hTL x (by omega)) h20_2 hmk_2 h19_2 (by omega) (fun j hj => hno j (by omega)))).trans (by rw [hyq]))⟩
      · refine W.eq (g2 := F0 m 50 ls [.ref (ad (20 + yq) 0)]) (by rw [lyv_s hyq]) ?_
        refine lv_astore_n hx hb xd_Ly_lookUp_50 rfl hl (Nat.le_of_ble_eq_true rfl) rfl (fun ls hl => ?_)
        have hl : lv_has ls 4 [(2, .ref (ad (20 + yq) 0)), (3, .int (nI k)), (0, .ref (ad (20 + n) 0)), (1, .int nm)] := hl
        refine lv_goto (tgt := 2) hx hb xd_Ly_lookUp_51 (by decide) ?_
        exact ih1 (yq + 1) _ _ _ (show (yq + 1) < y + 1 by omega) (lv_sub hl [0, 2, 3] rfl) hP hD hS ⟨(show (yq + 1) ≤ n + 1 from by first | assumption | omega), (show lkG g (n + 1) nm = lkG g (yq + 1) nm from (hlk.trans (lkG_missT (fun x hx => prv_T hnL hTL x (by omega)) h20_2 hmk_2 h19_2 (by omega) (fun j hj => hno j (by omega)))).trans (by rw [hyq]))⟩
    · refine lv_aload_n hx hb xd_Ly_lookUp_17 rfl (lv_at hl 1 rfl) ?_
      refine px_get (D := D) (ci := 5) (v := .ref (ad (20 + y) 1)) (C := xR_Ly) (T := xT_Ly) (N := 4) hx hb hT xi_Ly hown hK.1 hP m_4 c_7 rfl 2 (by decide) (hT _ k5k_0) (fun _ h9 => h9) rfl xd_Ly_lookUp_18 ?_
      refine lv_iload_n hx hb xd_Ly_lookUp_21 rfl (lv_at hl 0 rfl) ?_
      refine px_aald (i := k) (x := (some (ad (20 + y) (10 + 10 * k)))) hx hb hK.1 hP m_6 c_5 6 rfl ((hk_2 k (by omega)).1) (by omega) (by omega) xd_Ly_lookUp_22 ?_
      obtain ⟨hm_10, d_10, rs_10, fr_10, g2_10, g3_10, g4_10, hd_10, hrs_10, q0_10, q1_10, q2_10, q3_10, q4_10, q5_10, q6_10, q7_10⟩ := (hk_2 k (by omega)).2
      have c_11 : E (20 + y) (10 + 10 * k) = .inr (6, [.ref (ad (20 + y) 0), .ref (ad (1 + d_10) 0), .ref (ad (20 + y) (11 + 10 * k)), .ref (ad (20 + y) (12 + 10 * k)), .ref (ad (20 + y) (13 + 10 * k)), .ref (ad (20 + y) (14 + 10 * k))]) := q0_10
      have m_12 : (20 + y, 10 + 10 * k) ∈ RL := hm_10 0 (by omega)
      have c_13 : E (20 + y) (11 + 10 * k) = .inl (kA 6, rs_10, .inr (.inr (.inr (.inr fr_10)))) := q1_10
      have m_14 : (20 + y, 11 + 10 * k) ∈ RL := hm_10 1 (by omega)
      have c_15 : E (20 + y) (12 + 10 * k) = .inr (10, [.ref (ad (20 + y) (15 + 10 * k))]) := q2_10
      have m_16 : (20 + y, 12 + 10 * k) ∈ RL := hm_10 2 (by omega)
      have c_17 : E (20 + y) (13 + 10 * k) = .inr (10, [.ref (ad (20 + y) (16 + 10 * k))]) := q3_10
      have m_18 : (20 + y, 13 + 10 * k) ∈ RL := hm_10 3 (by omega)
      have c_19 : E (20 + y) (14 + 10 * k) = .inr (10, [.ref (ad (20 + y) (17 + 10 * k))]) := q4_10
      have m_20 : (20 + y, 14 + 10 * k) ∈ RL := hm_10 4 (by omega)
      have c_21 : E (20 + y) (15 + 10 * k) = .inl (kA 0, 6, .inl g2_10) := q5_10
      have m_22 : (20 + y, 15 + 10 * k) ∈ RL := hm_10 5 (by omega)
      have c_23 : E (20 + y) (16 + 10 * k) = .inl (kA 0, 6, .inl g3_10) := q6_10
      have m_24 : (20 + y, 16 + 10 * k) ∈ RL := hm_10 6 (by omega)
      have c_25 : E (20 + y) (17 + 10 * k) = .inl (kA 0, 6, .inl g4_10) := q7_10
      have m_26 : (20 + y, 17 + 10 * k) ∈ RL := hm_10 7 (by omega)
      have hdm_10 : mdv g y k = d_10 := by
        obtain ⟨dz, hdz, h21z, hvz⟩ := tmd_2 k (by omega)
        rw [c_11] at hvz
        have ez := (rp_inj hD ((hDIs d_10 hd_10).1 0 (by omega)) ((hDIs dz hdz).1 0 (by omega)) (Value.ref.inj hvz)).1
        unfold mdv
        rw [h21z, iN_nI (by omega)]; omega
      refine px_get (D := D) (ci := 6) (v := .ref (ad (1 + d_10) 0)) (C := xR_Me) (T := xT_Me) (N := 6) hx hb hT xi_Me hown hK.1 hP m_12 c_11 rfl 1 (by decide) (hT _ k5k_2) (fun _ h9 => h9) rfl xd_Ly_lookUp_23 ?_
      obtain ⟨hm_27, fd_27, nm_27, sd_27, k0_27, k1_27, k2_27, k3_27, f0_27, f1_27, f2_27, f3_27, fe_27, fo_27, tr_27, op_27, hk0_27, hk1_27, hk2_27, hk3_27, q0_27, q1_27, q2_27, q3_27, q4_27, q5_27, q6_27, q7_27, q8_27, q9_27, q10_27, q11_27, q12_27, hg_27⟩ := id (hDIs d_10 (by omega))
      have c_28 : E (1 + d_10) 0 = .inr (7, [.int (nI d_10), .int fd_27, .int nm_27, .ref (ad (1 + d_10) 1), .ref (ad (1 + d_10) 9), .ref (ad (1 + d_10) 10), .ref (ad (1 + d_10) 2), .ref (ad (1 + d_10) 11), .ref (ad (1 + d_10) 12), .ref (ad (1 + d_10) 3), .ref (ad (1 + d_10) 4), .int sd_27]) := q0_27
      have m_29 : (1 + d_10, 0) ∈ RL := hm_27 0 (by omega)
      have c_30 : E (1 + d_10) 1 = .inr (8, [.ref (ad (1 + d_10) 5), .int (nI k0_27)]) := q1_27
      have m_31 : (1 + d_10, 1) ∈ RL := hm_27 1 (by omega)
      have c_32 : E (1 + d_10) 2 = .inr (8, [.ref (ad (1 + d_10) 6), .int (nI k1_27)]) := q2_27
      have m_33 : (1 + d_10, 2) ∈ RL := hm_27 2 (by omega)
      have c_34 : E (1 + d_10) 3 = .inr (8, [.ref (ad (1 + d_10) 7), .int (nI k2_27)]) := q3_27
      have m_35 : (1 + d_10, 3) ∈ RL := hm_27 3 (by omega)
      have c_36 : E (1 + d_10) 4 = .inr (8, [.ref (ad (1 + d_10) 8), .int (nI k3_27)]) := q4_27
      have m_37 : (1 + d_10, 4) ∈ RL := hm_27 4 (by omega)
      have c_38 : E (1 + d_10) 5 = .inl (kA 0, 6, .inl f0_27) := q5_27
      have m_39 : (1 + d_10, 5) ∈ RL := hm_27 5 (by omega)
      have c_40 : E (1 + d_10) 6 = .inl (kA 0, 5, .inl f1_27) := q6_27
      have m_41 : (1 + d_10, 6) ∈ RL := hm_27 6 (by omega)
      have c_42 : E (1 + d_10) 7 = .inl (kA 0, 3, .inl f2_27) := q7_27
      have m_43 : (1 + d_10, 7) ∈ RL := hm_27 7 (by omega)
      have c_44 : E (1 + d_10) 8 = .inl (kA 0, 3, .inl f3_27) := q8_27
      have m_45 : (1 + d_10, 8) ∈ RL := hm_27 8 (by omega)
      have c_46 : E (1 + d_10) 9 = .inl (kA 8, 6, .inr (.inr (.inr (.inr fe_27)))) := q9_27
      have m_47 : (1 + d_10, 9) ∈ RL := hm_27 9 (by omega)
      have c_48 : E (1 + d_10) 10 = .inl (kA 8, 6, .inr (.inr (.inr (.inr fo_27)))) := q10_27
      have m_49 : (1 + d_10, 10) ∈ RL := hm_27 10 (by omega)
      have c_50 : E (1 + d_10) 11 = .inl (kA 2, 5, .inl tr_27) := q11_27
      have m_51 : (1 + d_10, 11) ∈ RL := hm_27 11 (by omega)
      have c_52 : E (1 + d_10) 12 = .inl (kA 2, 5, .inl op_27) := q12_27
      have m_53 : (1 + d_10, 12) ∈ RL := hm_27 12 (by omega)
      have hg_27 : ∀ w9, w9 < k0_27 → fe_27 w9 = some (ad (1 + d_10) (20 + 3 * w9)) ∧ fo_27 w9 = some (ad (1 + d_10) (38 + 3 * w9)) ∧ GI kA (ad (1 + d_10)) (E (1 + d_10)) (fun o => (1 + d_10, o) ∈ RL) (20 + 3 * w9) (21 + 3 * w9) (22 + 3 * w9) ∧ GI kA (ad (1 + d_10)) (E (1 + d_10)) (fun o => (1 + d_10, o) ∈ RL) (38 + 3 * w9) (39 + 3 * w9) (40 + 3 * w9) := hg_27
      obtain ⟨hTT_27, tgr_27⟩ := TD_get hk0_27 hk1_27 hk2_27 hk3_27 c_28 c_30 c_32 c_34 c_36 c_38 c_40 c_42 c_44 c_50 c_52 (hTD d_10 (by omega))
      obtain ⟨tfd_27, tnm_27, tsd_27, tk0_27, tf0_27, tk1_27, tf1_27, tk2_27, tk3_27⟩ := id hTT_27
      have ik0_27 : iN (g 5 d_10) = k0_27 := by rw [← tk0_27, iN_nI (by omega)]
      have ik1_27 : iN (g 12 d_10) = k1_27 := by rw [← tk1_27, iN_nI (by omega)]
      refine px_get (D := D) (ci := 7) (v := .int nm_27) (C := xR_Ds) (T := xT_Ds) (N := 12) hx hb hT xi_Ds hown hK.1 hP m_29 c_28 rfl 2 (by decide) (hT _ k5k_3) (fun _ h9 => h9) rfl xd_Ly_lookUp_26 ?_
      refine lv_iload_n hx hb xd_Ly_lookUp_29 rfl (lv_at hl 3 rfl) ?_
      refine lv_icmp_ne (tgt := 40) hx hb xd_Ly_lookUp_30 (by decide) (fun hc54 => ?_) (fun hc54 => ?_)
      · refine lv_iinc (k := 0) (x := (nI k)) (v := (nI (k + 1))) hx hb xd_Ly_lookUp_40 hl rfl (xb_inc k 1) (Nat.le_of_ble_eq_true rfl) rfl (fun ls hl => ?_)
        have hl : lv_has ls 4 [(3, .int (nI (k + 1))), (2, .ref (ad (20 + y) 0)), (0, .ref (ad (20 + n) 0)), (1, .int nm)] := hl
        refine lv_goto (tgt := 8) hx hb xd_Ly_lookUp_43 (by decide) ?_
        exact ih8 (k + 1) _ _ _ (show mk_2 - (k + 1) < mk_2 - k by omega) (lv_sub hl [0, 1, 2, 3] rfl) hP hD hS ⟨(show (k + 1) ≤ mk_2 from by first | assumption | omega), (show ∀ j, j < (k + 1) → ¬ g 4 (mdv g y j) = nm from fun j hj => by
        rcases Nat.lt_or_ge j k with z | z
        · exact hno j z
        · rw [show j = k by omega, hdm_10, ← tnm_27]; exact hc54)⟩
      · refine lv_aload_n hx hb xd_Ly_lookUp_33 rfl (lv_at hl 1 rfl) ?_
        refine px_get (D := D) (ci := 5) (v := .ref (ad (20 + y) 1)) (C := xR_Ly) (T := xT_Ly) (N := 4) hx hb hT xi_Ly hown hK.1 hP m_4 c_7 rfl 2 (by decide) (hT _ k5k_0) (fun _ h9 => h9) rfl xd_Ly_lookUp_34 ?_
        refine lv_iload_n hx hb xd_Ly_lookUp_37 rfl (lv_at hl 0 rfl) ?_
        refine px_aald (i := k) (x := (some (ad (20 + y) (10 + 10 * k)))) hx hb hK.1 hP m_6 c_5 6 rfl ((hk_2 k (by omega)).1) (by omega) (by omega) xd_Ly_lookUp_38 ?_
        exact W.aret (v := .ref (ad (20 + y) (10 + 10 * k))) hx hb hr (Or.inl ⟨_, rfl⟩) (Or.inr ⟨_, rfl⟩) (fun t ht hW => ⟨⟨(some (ad (20 + y) (10 + 10 * k))), (), rfl, Or.inr ⟨y, k, by omega, rfl, (hk_2 k (by omega)).2, by rw [h20_2, iN_nI (by omega)]; omega, hlk.trans (lkG_hitT h20_2 hmk_2 (by omega) (by rw [hdm_10, ← tnm_27]; exact hc54) hno)⟩, by rw [ht]; exact hP, hD⟩, hS.F ht⟩) hS.2.2 xd_Ly_lookUp_39
set_option maxHeartbeats 4000000 in
set_option maxRecDepth 100000 in
theorem xc_De_openLayerX (l : Launch) (D : va_G) (kA : Nat → ClassId) (sz : Nat) (ad : Nat → Nat → Nat) (E : Nat → Nat → va_E) (RL : List (Nat × Nat)) (g : Nat → Nat → Int32) (ml : Nat) (nd : Nat) (len : Nat) (wn : Nat) (cs : Nat) (ix : Int32) (hCI : CI kA ad E RL ml nd len wn cs) (hTL : TLas g ad E nd ml) : Met l xy_De_openLayer (.code xy_De_openLayer xb_De_openLayer 3 (some (.object "LayerDesk$Layer")) :: wT) { frames := 0, cells := 0, slots := 0, locals := 0 } (va_Pc [.ref (ad 0 0), .int ix] (xPre D kA sz (rp ad E RL))) (va_Qq (fun (r : Option Nat) (u : Unit) => (r = none ∧ ¬ opP g ml ix) ∨ ∃ x, x < ml ∧ ix = nI x ∧ ¬ g 22 x = 0 ∧ r = some (ad (20 + x) 0)) (fun (u : Unit) t => va_P D xcl (rp ad E RL) t.heap ∧ va_D (va_A (rp ad E RL) sz) (rp ad E RL)) (va_A (rp ad E RL) sz)) 0 0 (va_A (rp ad E RL) sz) := by
  refine Met.ofW (cc := xb_De_openLayer) (maxL := 3) (ret := (some (.object "LayerDesk$Layer"))) (by decide) rfl ?_
  intro p e s m args below meth c s₁ B hml hv
  obtain ⟨rfl, hsz, hP, hK, hD0⟩ := hv
  have hx := B.exec
  have hb := B.bytes
  have hr := B.returns
  have hT := x_hT B.pre
  have hown : s.vm.findClass xR_De = some m.cls := findClass_of_methodNamed B.named
  have hlocks := B.notSynchronized
  subst hsz
  have hD := hD0.self (sz := s.heap.size)
  generalize hAe : va_A (rp ad E RL) s.heap.size = A at hD ⊢
  have hA : ∀ q : Nat, s.heap.size ≤ q → A q := fun q h => by rw [← hAe]; exact Or.inr h
  have hS : va_S A s.heap s.heap [] := va_S.rf
  have hl := lv_entry ([.ref (ad 0 0), .int ix]) (n := 3) (Nat.le_of_ble_eq_true rfl)
  rw [lg_entry_eq]
  generalize (lg_sl ([.ref (ad 0 0), .int ix]) ++ List.replicate (3 - (lg_sl ([.ref (ad 0 0), .int ix])).length) Slot.unset).toArray = ls at hl ⊢
  have hl : lv_has ls 3 [(0, .ref (ad 0 0)), (1, .int ix)] := hl
  have hP : va_P D xcl (rp ad E RL) s.heap := hP
  obtain ⟨hmB, hDk, hLi, hSh, hCh, hLa, hDIs, hLIs⟩ := id hCI
  obtain ⟨lf_1, q_1⟩ := id (hDk)
  have c_2 : E 0 0 = .inr (0, [.ref (ad 0 1), .ref (ad 0 5), .ref (ad 0 7), .ref (ad 0 9), .int (nI ml), .int lf_1]) := q_1
  have m_3 : (0, 0) ∈ RL := hmB 0 (by omega)
  obtain ⟨fl_4, hml_4, q9_4, hla_4⟩ := id (hLa)
  have c_5 : E 0 9 = .inl (kA 5, 5, .inr (.inr (.inr (.inr fl_4)))) := q9_4
  have m_6 : (0, 9) ∈ RL := hmB 9 (by omega)
  refine lv_iload_n hx hb xd_De_openLayer_0 rfl (lv_at hl 1 rfl) ?_
  refine lv_if_lt (tgt := 12) hx hb xd_De_openLayer_1 (by decide) (fun hc7 => ?_) (fun hc7 => ?_)
  · refine lv_null hx hb xd_De_openLayer_12 ?_
    exact W.aret (v := .null) hx hb hr (Or.inl ⟨_, rfl⟩) (Or.inl rfl) (fun t ht hW => ⟨⟨none, (), rfl, Or.inl ⟨rfl, fun ⟨la9, q1, q2, q3⟩ => absurd (show nI la9 < 0 by rw [← q2]; exact hc7) (nI_pos (by rw [xb_31]; omega))⟩, by rw [ht]; exact hP, hD⟩, hS.F ht⟩) hS.2.2 xd_De_openLayer_13
  · obtain ⟨x, hx31, hix⟩ := nI_of hc7
    rw [xb_31] at hx31
    rw [hix] at hl
    refine lv_iload_n hx hb xd_De_openLayer_4 rfl (lv_at hl 1 rfl) ?_
    refine lv_aload_n hx hb xd_De_openLayer_5 rfl (lv_at hl 0 rfl) ?_
    refine px_get (D := D) (ci := 0) (v := .int (nI ml)) (C := xR_De) (T := xT_De) (N := 6) hx hb hT xi_De hown hK.1 hP m_3 c_2 rfl 4 (by decide) (hT _ k5k_4) (fun _ h9 => h9) rfl xd_De_openLayer_6 ?_
    refine xn_lt (a := x) (b := ml) (tgt := 14) hx hb xd_De_openLayer_9 (by decide) (by omega) (by omega) (fun hc8 => ?_) (fun hc8 => ?_)
    · refine lv_aload_n hx hb xd_De_openLayer_14 rfl (lv_at hl 0 rfl) ?_
      refine px_get (D := D) (ci := 0) (v := .ref (ad 0 9)) (C := xR_De) (T := xT_De) (N := 6) hx hb hT xi_De hown hK.1 hP m_3 c_2 rfl 3 (by decide) (hT _ k5k_5) (fun _ h9 => h9) rfl xd_De_openLayer_15 ?_
      refine lv_iload_n hx hb xd_De_openLayer_18 rfl (lv_at hl 1 rfl) ?_
      refine px_aald (i := x) (x := (some (ad (20 + x) 0))) hx hb hK.1 hP m_6 c_5 5 rfl (hla_4 x (by omega)) (by omega) (by decide) xd_De_openLayer_19 ?_
      refine lv_astore_n hx hb xd_De_openLayer_20 rfl hl (Nat.le_of_ble_eq_true rfl) rfl (fun ls hl => ?_)
      have hl : lv_has ls 3 [(2, .ref (ad (20 + x) 0)), (0, .ref (ad 0 0)), (1, .int (nI x))] := hl
      refine lv_aload_n hx hb xd_De_openLayer_21 rfl (lv_at hl 0 rfl) ?_
      refine lv_ifnull hx hb xd_De_openLayer_22 ?_
      refine lv_aload_n hx hb xd_De_openLayer_25 rfl (lv_at hl 0 rfl) ?_
      obtain ⟨m0_9, m1_9, pv_9, op_9, mk_9, fm_9, hmk_9, hpv_9, q0_9, q1_9, hk_9⟩ := id (hLIs x (by omega))
      have c_10 : E (20 + x) 0 = .inr (5, [.int (nI x), pv_9, .ref (ad (20 + x) 1), .int op_9]) := q0_9
      have m_11 : (20 + x, 0) ∈ RL := m0_9
      have c_12 : E (20 + x) 1 = .inl (kA 6, mk_9, .inr (.inr (.inr (.inr fm_9)))) := q1_9
      have m_13 : (20 + x, 1) ∈ RL := m1_9
      obtain ⟨top_9, ⟨lq_9, hlq_9, h19_9, hpv2_9⟩, h20_9, tmd_9⟩ := TLa_get c_10 c_12 (hTL x (by omega))
      have c_14 : E (20 + x) 0 = .inr (5, [.int (nI x), (lyv ad lq_9), .ref (ad (20 + x) 1), .int op_9]) := by rw [← hpv2_9]; exact c_10
      refine px_get (D := D) (ci := 5) (v := .int op_9) (C := xR_Ly) (T := xT_Ly) (N := 4) hx hb hT xi_Ly hown hK.1 hP m_11 c_14 rfl 3 (by decide) (hT _ k5k_6) (fun _ h9 => h9) rfl xd_De_openLayer_26 ?_
      refine lv_if_eq (tgt := 36) hx hb xd_De_openLayer_29 (by decide) (fun hc15 => ?_) (fun hc15 => ?_)
      · refine lv_null hx hb xd_De_openLayer_36 ?_
        exact W.aret (v := .null) hx hb hr (Or.inl ⟨_, rfl⟩) (Or.inl rfl) (fun t ht hW => ⟨⟨none, (), rfl, Or.inl ⟨rfl, fun ⟨la9, q1, q2, q3⟩ => by rw [hix] at q2; have e9 := (nI_eq (by rw [xb_31]; omega) (by rw [xb_31]; omega)).mp q2; rw [← e9, ← top_9] at q3; exact q3 hc15⟩, by rw [ht]; exact hP, hD⟩, hS.F ht⟩) hS.2.2 xd_De_openLayer_37
      · refine lv_aload_n hx hb xd_De_openLayer_32 rfl (lv_at hl 0 rfl) ?_
        refine lv_goto (tgt := 37) hx hb xd_De_openLayer_33 (by decide) ?_
        exact W.aret (v := .ref (ad (20 + x) 0)) hx hb hr (Or.inl ⟨_, rfl⟩) (Or.inr ⟨_, rfl⟩) (fun t ht hW => ⟨⟨(some (ad (20 + x) 0)), (), rfl, Or.inr ⟨x, by omega, hix, (by rw [← top_9]; exact hc15), rfl⟩, by rw [ht]; exact hP, hD⟩, hS.F ht⟩) hS.2.2 xd_De_openLayer_37
    · refine lv_null hx hb xd_De_openLayer_12 ?_
      exact W.aret (v := .null) hx hb hr (Or.inl ⟨_, rfl⟩) (Or.inl rfl) (fun t ht hW => ⟨⟨none, (), rfl, Or.inl ⟨rfl, fun ⟨la9, q1, q2, q3⟩ => by rw [hix] at q2; have e9 := (nI_eq (by rw [xb_31]; omega) (by rw [xb_31]; omega)).mp q2; omega⟩, by rw [ht]; exact hP, hD⟩, hS.F ht⟩) hS.2.2 xd_De_openLayer_13
set_option maxHeartbeats 4000000 in
set_option maxRecDepth 100000 in
theorem xc_Ch_isChosenX (l : Launch) (D : va_G) (kA : Nat → ClassId) (sz : Nat) (ad : Nat → Nat → Nat) (E : Nat → Nat → va_E) (RL : List (Nat × Nat)) (g : Nat → Nat → Int32) (ml : Nat) (nd : Nat) (len : Nat) (wn : Nat) (fi : Int32) (lq : Nat) (L : List Nat) (d : Nat) (hCI : CI kA ad E RL ml nd len wn L.length) (hCX : CX ad E nd fi lq L) (hd9 : d < nd) : Met l xy_Ch_isChosen (.code xy_Ch_isChosen xb_Ch_isChosen 3 (some .boolean) :: wT) { frames := 0, cells := 0, slots := 0, locals := 0 } (va_Pc [.ref (ad 0 7), .ref (ad (1 + d) 0)] (xPre D kA sz (rp ad E RL))) (va_Qi (fun (r : Int32) (u : Unit) => (r = 1 ∧ d ∈ L) ∨ (r = 0 ∧ d ∉ L)) (fun (u : Unit) t => va_P D xcl (rp ad E RL) t.heap ∧ va_D (va_A (rp ad E RL) sz) (rp ad E RL)) (va_A (rp ad E RL) sz)) 0 0 (va_A (rp ad E RL) sz) := by
  refine Met.ofW (cc := xb_Ch_isChosen) (maxL := 3) (ret := (some .boolean)) (by decide) rfl ?_
  intro p e s m args below meth c s₁ B hml hv
  obtain ⟨rfl, hsz, hP, hK, hD0⟩ := hv
  have hx := B.exec
  have hb := B.bytes
  have hr := B.returns
  have hT := x_hT B.pre
  have hown : s.vm.findClass xR_Ch = some m.cls := findClass_of_methodNamed B.named
  have hlocks := B.notSynchronized
  subst hsz
  have hD := hD0.self (sz := s.heap.size)
  generalize hAe : va_A (rp ad E RL) s.heap.size = A at hD ⊢
  have hA : ∀ q : Nat, s.heap.size ≤ q → A q := fun q h => by rw [← hAe]; exact Or.inr h
  have hS : va_S A s.heap s.heap [] := va_S.rf
  have hl := lv_entry ([.ref (ad 0 7), .ref (ad (1 + d) 0)]) (n := 3) (Nat.le_of_ble_eq_true rfl)
  rw [lg_entry_eq]
  generalize (lg_sl ([.ref (ad 0 7), .ref (ad (1 + d) 0)]) ++ List.replicate (3 - (lg_sl ([.ref (ad 0 7), .ref (ad (1 + d) 0)])).length) Slot.unset).toArray = ls at hl ⊢
  have hl : lv_has ls 3 [(0, .ref (ad 0 7)), (1, .ref (ad (1 + d) 0))] := hl
  have hP : va_P D xcl (rp ad E RL) s.heap := hP
  obtain ⟨hmB, hDk, hLi, hSh, hCh, hLa, hDIs, hLIs⟩ := id hCI
  obtain ⟨cf_1, pv_1, fc_1, hcs_1, hpv_1, q7_1, q8_1, hfc_1⟩ := id (hCh)
  have c_2 : E 0 7 = .inr (3, [.ref (ad 0 5), .ref (ad 0 8), .int (nI (L.length)), .int cf_1, pv_1]) := q7_1
  have m_3 : (0, 7) ∈ RL := hmB 7 (by omega)
  have c_4 : E 0 8 = .inl (kA 4, 12, .inr (.inr (.inr (.inr fc_1)))) := q8_1
  have m_5 : (0, 8) ∈ RL := hmB 8 (by omega)
  obtain ⟨xfi_1, xpv_1, xfc_1, xGL_1⟩ := id hCX
  rw [c_2] at xfi_1 xpv_1
  rw [c_4] at xfc_1
  have xfi_1 : cf_1 = fi := xfi_1
  have xpv_1 : pv_1 = lyv ad lq := xpv_1
  have xfc_1 : ∀ k, k < L.length → fc_1 k = some (ad (1 + L.getD k 0) 0) := xfc_1
  have xln_1 := GL_len xGL_1
  refine lv_iconst (v := 0) hx hb xd_Ch_isChosen_0 (by decide) ?_
  refine lv_istore_n hx hb xd_Ch_isChosen_1 rfl hl (Nat.le_of_ble_eq_true rfl) rfl (fun ls hl => ?_)
  have hl : lv_has ls 3 [(2, .int 0), (0, .ref (ad 0 7)), (1, .ref (ad (1 + d) 0))] := hl
  refine xlab (σ := Nat) (ml := 3) 2 (fun (i : Nat) => [(2, .int (nI i)), (0, .ref (ad 0 7)), (1, .ref (ad (1 + d) 0))]) (fun (i : Nat) => []) (fun (i : Nat) => rp ad E RL) (fun (i : Nat) => (i ≤ L.length) ∧ (∀ j, j < i → ¬ L.getD j 0 = d)) (fun (i : Nat) => L.length - i) ?_ 0 _ _ _ (lv_sub hl [0, 1, 2] rfl) hP hD hS ⟨(show 0 ≤ L.length from by first | assumption | omega), (show ∀ j, j < 0 → ¬ L.getD j 0 = d from fun j hj => absurd hj (by omega))⟩
  intro n9 ih6 a9 ls H locs hμ hl hP hD hS hI
  subst hμ
  obtain ⟨i, rfl⟩ : ∃ z, z = a9 := ⟨_, rfl⟩
  obtain ⟨hi, hno⟩ := hI
  have hi : i ≤ L.length := hi
  have hno : ∀ j, j < i → ¬ L.getD j 0 = d := hno
  have hl : lv_has ls 3 [(2, .int (nI i)), (0, .ref (ad 0 7)), (1, .ref (ad (1 + d) 0))] := hl
  have hP : va_P D xcl (rp ad E RL) H := hP
  have hD : va_D A (rp ad E RL) := hD
  refine lv_iload_n hx hb xd_Ch_isChosen_2 rfl (lv_at hl 0 rfl) ?_
  refine lv_aload_n hx hb xd_Ch_isChosen_3 rfl (lv_at hl 1 rfl) ?_
  refine px_get (D := D) (ci := 3) (v := .int (nI (L.length))) (C := xR_Ch) (T := xT_Ch) (N := 5) hx hb hT xi_Ch hown hK.1 hP m_3 c_2 rfl 2 (by decide) (hT _ k5k_7) (fun _ h9 => h9) rfl xd_Ch_isChosen_4 ?_
  refine xn_ge (a := i) (b := L.length) (tgt := 28) hx hb xd_Ch_isChosen_7 (by decide) (by omega) (by omega) (fun hc7 => ?_) (fun hc7 => ?_)
  · refine lv_iconst (v := 0) hx hb xd_Ch_isChosen_28 (by decide) ?_
    exact W.zret (v := 0) hx hb hr rfl (fun t ht hW => ⟨⟨0, (), rfl, Or.inr ⟨rfl, fun q => by
        obtain ⟨k9, q1, q2⟩ := mem_getD q
        exact hno k9 (by omega) q2⟩, by rw [ht]; exact hP, hD⟩, hS.F ht⟩) hS.2.2 xd_Ch_isChosen_29
  · refine lv_aload_n hx hb xd_Ch_isChosen_10 rfl (lv_at hl 1 rfl) ?_
    refine px_get (D := D) (ci := 3) (v := .ref (ad 0 8)) (C := xR_Ch) (T := xT_Ch) (N := 5) hx hb hT xi_Ch hown hK.1 hP m_3 c_2 rfl 1 (by decide) (hT _ k5k_8) (fun _ h9 => h9) rfl xd_Ch_isChosen_11 ?_
    refine lv_iload_n hx hb xd_Ch_isChosen_14 rfl (lv_at hl 0 rfl) ?_
    refine px_aald (i := i) (x := (some (ad (1 + L.getD i 0) 0))) hx hb hK.1 hP m_5 c_4 4 rfl (xfc_1 i (by omega)) (by omega) (by decide) xd_Ch_isChosen_15 ?_
    refine lv_aload_n hx hb xd_Ch_isChosen_16 rfl (lv_at hl 2 rfl) ?_
    refine lv_acmp_ne (rx := (some (ad (1 + L.getD i 0) 0))) (ry := (some (ad (1 + d) 0))) (tgt := 22) hx hb xd_Ch_isChosen_17 (by decide) (fun hc8 => ?_) (fun hc8 => ?_)
    · refine lv_iinc (k := 0) (x := (nI i)) (v := (nI (i + 1))) hx hb xd_Ch_isChosen_22 hl rfl (xb_inc i 1) (Nat.le_of_ble_eq_true rfl) rfl (fun ls hl => ?_)
      have hl : lv_has ls 3 [(2, .int (nI (i + 1))), (0, .ref (ad 0 7)), (1, .ref (ad (1 + d) 0))] := hl
      refine lv_goto (tgt := 2) hx hb xd_Ch_isChosen_25 (by decide) ?_
      exact ih6 (i + 1) _ _ _ (show L.length - (i + 1) < L.length - i by omega) (lv_sub hl [0, 1, 2] rfl) hP hD hS ⟨(show (i + 1) ≤ L.length from by first | assumption | omega), (show ∀ j, j < (i + 1) → ¬ L.getD j 0 = d from fun j hj q => by
        rcases Nat.lt_or_ge j i with z | z
        · exact hno j z q
        · rw [show j = i by omega] at q; exact hc8 (by rw [q]))⟩
    · refine lv_iconst (v := 1) hx hb xd_Ch_isChosen_20 (by decide) ?_
      exact W.zret (v := 1) hx hb hr rfl (fun t ht hW => ⟨⟨1, (), rfl, Or.inl ⟨rfl, by
        have hm9 := getD_mem (L := L) (k := i) (by omega)
        have e9 := (rp_inj hD ((hDIs (L.getD i 0) (xGL_1.1 _ hm9)).1 0 (by omega)) ((hDIs d hd9).1 0 (by omega)) (Option.some.inj hc8)).1
        rw [show d = L.getD i 0 by omega]; exact hm9⟩, by rw [ht]; exact hP, hD⟩, hS.F ht⟩) hS.2.2 xd_Ch_isChosen_21
theorem aN_no {ds : Int32 → Option Nat} {up : Int32 → Bool} {rq : Nat → List Int32} {f : Nat} {L : List Nat} {n : Int32} (h : ds n = none) : aN ds up rq f L n = (up n, L) := by
  cases f with
  | zero => unfold aN; rw [h]
  | succ f => unfold aN; rw [h]
theorem aN_in {ds : Int32 → Option Nat} {up : Int32 → Bool} {rq : Nat → List Int32} {f d : Nat} {L : List Nat} {n : Int32} (h : ds n = some d) (hd : d ∈ L) : aN ds up rq f L n = (true, L) := by
  cases f with
  | zero => unfold aN; rw [h]; simp only; rw [if_pos hd]
  | succ f => unfold aN; rw [h]; simp only; rw [if_pos hd]
theorem aN_z {ds : Int32 → Option Nat} {up : Int32 → Bool} {rq : Nat → List Int32} {f d : Nat} {L : List Nat} {n : Int32} (hf : f = 0) (h : ds n = some d) (hd : d ∉ L) : aN ds up rq f L n = (false, L) := by
  rw [hf]; unfold aN; rw [h]; simp only; rw [if_neg hd]
theorem aN_s {ds : Int32 → Option Nat} {up : Int32 → Bool} {rq : Nat → List Int32} {f d : Nat} {L : List Nat} {n : Int32} (hf : 0 < f) (h : ds n = some d) (hd : d ∉ L) : aN ds up rq f L n = aF (aN ds up rq (f - 1)) (L ++ [d]) (rq d) := by
  obtain ⟨f2, rfl⟩ : ∃ f2, f = f2 + 1 := ⟨f - 1, by omega⟩
  conv => lhs; unfold aN
  rw [h]; simp only; rw [if_neg hd]; rfl
theorem CX_add {ad : Nat → Nat → Nat} {fc : Nat → Option Nat} {L : List Nat} {d : Nat} (h : ∀ k, k < L.length → fc k = some (ad (1 + L.getD k 0) 0)) : ∀ k, k < (L ++ [d]).length → va_up fc L.length (some (ad (1 + d) 0)) k = some (ad (1 + (L ++ [d]).getD k 0) 0) := fun k hk => by
  rw [len_app] at hk
  by_cases q : k = L.length
  · rw [q, getD_new]; exact vu_eq
  · rw [vu_ne q, getD_app (by omega)]; exact h k (by omega)
theorem k5l_0 : (Cond.fieldLink "LayerDesk$Chooser" 28 "LayerDesk$Chooser" "shelf" "LLayerDesk$Shelf;") ∈ wT := wT_t (List.mem_append_left _ (List.mem_of_getElem? (i := 81) rfl)) rfl
theorem k5l_1 : (Cond.fieldLink "LayerDesk$Chooser" 21 "LayerDesk$Chooser" "finder" "I") ∈ wT := wT_t (List.mem_append_left _ (List.mem_of_getElem? (i := 84) rfl)) rfl
theorem k5l_2 : (Cond.code xy_Sh_find xb_Sh_find 4 (some (.object "LayerDesk$Descriptor"))) ∈ wT := wT_t (List.mem_append_right _ (List.mem_append_left _ (List.mem_of_getElem? (i := 21) rfl))) rfl
theorem k5l_3 : (Cond.methodLink "LayerDesk$Chooser" 56 xy_Sh_find) ∈ wT := wT_t (List.mem_append_right _ (List.mem_append_right _ (List.mem_append_left _ (List.mem_of_getElem? (i := 81) rfl)))) rfl
theorem k5l_4 : (Cond.instanceMethod xy_Sh_find) ∈ wT := wT_t (List.mem_append_right _ (List.mem_append_left _ (List.mem_of_getElem? (i := 19) rfl))) rfl
theorem k5l_5 : (Cond.selects "LayerDesk$Shelf" xy_Sh_find xy_Sh_find) ∈ wT := wT_t (List.mem_append_right _ (List.mem_append_left _ (List.mem_of_getElem? (i := 20) rfl))) rfl
theorem k5l_6 : (Cond.initialized "LayerDesk$Shelf") ∈ wT := wT_t (List.mem_append_left _ (List.mem_of_getElem? (i := 3) rfl)) rfl
theorem k5l_7 : (Cond.fieldLink "LayerDesk$Chooser" 24 "LayerDesk$Chooser" "parent" "LLayerDesk$Layer;") ∈ wT := wT_t (List.mem_append_left _ (List.mem_of_getElem? (i := 85) rfl)) rfl
theorem k5l_8 : (Cond.code xy_Ly_lookUp xb_Ly_lookUp 4 (some (.object "LayerDesk$Member"))) ∈ wT := wT_t (List.mem_append_right _ (List.mem_append_right _ (List.mem_append_left _ (List.mem_of_getElem? (i := 85) rfl)))) rfl
theorem k5l_9 : (Cond.methodLink "LayerDesk$Chooser" 62 xy_Ly_lookUp) ∈ wT := wT_t (List.mem_append_right _ (List.mem_append_right _ (List.mem_append_left _ (List.mem_of_getElem? (i := 82) rfl)))) rfl
theorem k5l_10 : (Cond.instanceMethod xy_Ly_lookUp) ∈ wT := wT_t (List.mem_append_right _ (List.mem_append_right _ (List.mem_append_left _ (List.mem_of_getElem? (i := 83) rfl)))) rfl
theorem k5l_11 : (Cond.selects "LayerDesk$Layer" xy_Ly_lookUp xy_Ly_lookUp) ∈ wT := wT_t (List.mem_append_right _ (List.mem_append_right _ (List.mem_append_left _ (List.mem_of_getElem? (i := 84) rfl)))) rfl
theorem k5l_12 : (Cond.initialized "LayerDesk$Layer") ∈ wT := wT_t (List.mem_append_left _ (List.mem_of_getElem? (i := 19) rfl)) rfl
theorem k5l_13 : (Cond.code xy_Ch_isChosen xb_Ch_isChosen 3 (some .boolean)) ∈ wT := wT_t (List.mem_append_right _ (List.mem_append_right _ (List.mem_append_left _ (List.mem_of_getElem? (i := 89) rfl)))) rfl
theorem k5l_14 : (Cond.methodLink "LayerDesk$Chooser" 66 xy_Ch_isChosen) ∈ wT := wT_t (List.mem_append_right _ (List.mem_append_right _ (List.mem_append_left _ (List.mem_of_getElem? (i := 86) rfl)))) rfl
theorem k5l_15 : (Cond.instanceMethod xy_Ch_isChosen) ∈ wT := wT_t (List.mem_append_right _ (List.mem_append_right _ (List.mem_append_left _ (List.mem_of_getElem? (i := 88) rfl)))) rfl
theorem k5l_16 : (Cond.selects "LayerDesk$Chooser" xy_Ch_isChosen xy_Ch_isChosen) ∈ wT := wT_s (q := (xy_Ch_isChosen, 5)) (by decide +kernel) rfl
theorem k5l_17 : (Cond.initialized "LayerDesk$Chooser") ∈ wT := wT_t (List.mem_append_left _ (List.mem_of_getElem? (i := 4) rfl)) rfl
theorem k5l_18 : (Cond.fieldLink "LayerDesk$Chooser" 17 "LayerDesk$Chooser" "size" "I") ∈ wT := wT_t (List.mem_append_left _ (List.mem_of_getElem? (i := 83) rfl)) rfl
theorem k5l_19 : (Cond.fieldLink "LayerDesk$Chooser" 11 "LayerDesk$Chooser" "chosen" "[LLayerDesk$Descriptor;") ∈ wT := wT_t (List.mem_append_left _ (List.mem_of_getElem? (i := 82) rfl)) rfl
theorem k5l_20 : (Cond.fieldLink "LayerDesk$Chooser" 70 "LayerDesk$Descriptor" "required" "LLayerDesk$Names;") ∈ wT := wT_t (List.mem_append_right _ (List.mem_append_left _ (List.mem_of_getElem? (i := 68) rfl))) rfl
theorem k5l_21 : (Cond.fieldLink "LayerDesk$Chooser" 74 "LayerDesk$Names" "size" "I") ∈ wT := wT_t (List.mem_append_right _ (List.mem_append_left _ (List.mem_of_getElem? (i := 37) rfl))) rfl
theorem k5l_22 : (Cond.fieldLink "LayerDesk$Chooser" 77 "LayerDesk$Descriptor" "optional" "[Z") ∈ wT := wT_t (List.mem_append_right _ (List.mem_append_left _ (List.mem_of_getElem? (i := 74) rfl))) rfl
theorem k5l_23 : (Cond.code xy_Na_at xb_Na_at 2 (some .int)) ∈ wT := wT_t (List.mem_append_right _ (List.mem_append_right _ (List.mem_append_left _ (List.mem_of_getElem? (i := 93) rfl)))) rfl
theorem k5l_24 : (Cond.methodLink "LayerDesk$Chooser" 81 xy_Na_at) ∈ wT := wT_t (List.mem_append_right _ (List.mem_append_right _ (List.mem_append_left _ (List.mem_of_getElem? (i := 90) rfl)))) rfl
theorem k5l_25 : (Cond.instanceMethod xy_Na_at) ∈ wT := wT_t (List.mem_append_right _ (List.mem_append_right _ (List.mem_append_left _ (List.mem_of_getElem? (i := 91) rfl)))) rfl
theorem k5l_26 : (Cond.selects "LayerDesk$Names" xy_Na_at xy_Na_at) ∈ wT := wT_t (List.mem_append_right _ (List.mem_append_right _ (List.mem_append_left _ (List.mem_of_getElem? (i := 92) rfl)))) rfl
theorem k5l_27 : (Cond.initialized "LayerDesk$Names") ∈ wT := wT_t (List.mem_append_left _ (List.mem_of_getElem? (i := 11) rfl)) rfl
theorem k5l_28 : (Cond.code xy_Ch_addName xb_Ch_addName 5 (some .boolean)) ∈ wT := wT_t (List.mem_append_right _ (List.mem_append_right _ (List.mem_append_left _ (List.mem_of_getElem? (i := 80) rfl)))) rfl
theorem k5l_29 : (Cond.methodLink "LayerDesk$Chooser" 32 xy_Ch_addName) ∈ wT := wT_t (List.mem_append_right _ (List.mem_append_right _ (List.mem_append_left _ (List.mem_of_getElem? (i := 77) rfl)))) rfl
theorem k5l_30 : (Cond.instanceMethod xy_Ch_addName) ∈ wT := wT_t (List.mem_append_right _ (List.mem_append_right _ (List.mem_append_left _ (List.mem_of_getElem? (i := 79) rfl)))) rfl
theorem k5l_31 : (Cond.selects "LayerDesk$Chooser" xy_Ch_addName xy_Ch_addName) ∈ wT := wT_s (q := (xy_Ch_addName, 5)) (by decide +kernel) rfl
set_option maxHeartbeats 4000000 in
set_option maxRecDepth 100000 in
theorem xc_Ch_addNameRX (f : Nat) : ∀ (l : Launch) (D : va_G) (kA : Nat → ClassId) (sz : Nat) (ad : Nat → Nat → Nat) (E : Nat → Nat → va_E) (RL : List (Nat × Nat)) (g : Nat → Nat → Int32) (ml : Nat) (nd : Nat) (len : Nat) (wn : Nat) (fi : Int32) (lq : Nat) (L : List Nat) (nm : Int32) (dp : Nat) (hCI : CI kA ad E RL ml nd len wn L.length) (hCX : CX ad E nd fi lq L) (hTD : TDs g E nd) (hTL : TLas g ad E nd ml) (hlqm : lq ≤ ml) (hdp : dp + f = 12), Met l xy_Ch_addName (.code xy_Ch_addName xb_Ch_addName 5 (some .boolean) :: wT) { frames := 6 + f, cells := 0, slots := 0, locals := 90 + 90 * f } (va_Pc [.ref (ad 0 7), .int nm, .int (nI dp)] (xPre D kA sz (rp ad E RL))) (va_Qi (fun (r : Int32) (u : Nat → Nat → va_E) => ∃ L2, CI kA ad u RL ml nd len wn L2.length ∧ CX ad u nd fi lq L2 ∧ F78 E u ∧ ((r = 1 ∧ aN (dsG g nd fi) (upG g lq) (rqG g) f L nm = (true, L2)) ∨ (r = 0 ∧ aN (dsG g nd fi) (upG g lq) (rqG g) f L nm = (false, L2)))) (fun (u : Nat → Nat → va_E) t => va_P D xcl (rp ad u RL) t.heap ∧ va_D (va_A (rp ad E RL) sz) (rp ad u RL)) (va_A (rp ad E RL) sz)) 0 0 (va_A (rp ad E RL) sz) := by
  induction f using Nat.strongRecOn
  rename_i f ih
  intro l D kA sz ad E RL g ml nd len wn fi lq L nm dp hCI hCX hTD hTL hlqm hdp
  refine Met.ofW (cc := xb_Ch_addName) (maxL := 5) (ret := (some .boolean)) (by decide) rfl ?_
  intro p e s m args below meth c s₁ B hml hv
  obtain ⟨rfl, hsz, hP, hK, hD0⟩ := hv
  have hx := B.exec
  have hb := B.bytes
  have hr := B.returns
  have hT := x_hT B.pre
  have hown : s.vm.findClass xR_Ch = some m.cls := findClass_of_methodNamed B.named
  have hlocks := B.notSynchronized
  subst hsz
  have hD := hD0.self (sz := s.heap.size)
  generalize hAe : va_A (rp ad E RL) s.heap.size = A at hD ⊢
  have hA : ∀ q : Nat, s.heap.size ≤ q → A q := fun q h => by rw [← hAe]; exact Or.inr h
  have hS : va_S A s.heap s.heap [] := va_S.rf
  have hl := lv_entry ([.ref (ad 0 7), .int nm, .int (nI dp)]) (n := 5) (Nat.le_of_ble_eq_true rfl)
  rw [lg_entry_eq]
  generalize (lg_sl ([.ref (ad 0 7), .int nm, .int (nI dp)]) ++ List.replicate (5 - (lg_sl ([.ref (ad 0 7), .int nm, .int (nI dp)])).length) Slot.unset).toArray = ls at hl ⊢
  have hl : lv_has ls 5 [(0, .ref (ad 0 7)), (1, .int nm), (2, .int (nI dp))] := hl
  have hP : va_P D xcl (rp ad E RL) s.heap := hP
  obtain ⟨hmB, hDk, hLi, hSh, hCh, hLa, hDIs, hLIs⟩ := id hCI
  obtain ⟨lf_1, q_1⟩ := id (hDk)
  have c_2 : E 0 0 = .inr (0, [.ref (ad 0 1), .ref (ad 0 5), .ref (ad 0 7), .ref (ad 0 9), .int (nI ml), .int lf_1]) := q_1
  have m_3 : (0, 0) ∈ RL := hmB 0 (by omega)
  obtain ⟨tx_4, fb_4, fe_4, hl1_4, hw2_4, q1_4, q2_4, q3_4, q4_4, hws_4⟩ := id (hLi)
  have c_5 : E 0 1 = .inr (1, [.ref (ad 0 2), .ref (ad 0 3), .ref (ad 0 4), .int (nI len), .int (nI wn)]) := q1_4
  have m_6 : (0, 1) ∈ RL := hmB 1 (by omega)
  have c_7 : E 0 2 = .inl (kA 1, 40, .inl tx_4) := q2_4
  have m_8 : (0, 2) ∈ RL := hmB 2 (by omega)
  have c_9 : E 0 3 = .inl (kA 0, 20, .inl fb_4) := q3_4
  have m_10 : (0, 3) ∈ RL := hmB 3 (by omega)
  have c_11 : E 0 4 = .inl (kA 0, 20, .inl fe_4) := q4_4
  have m_12 : (0, 4) ∈ RL := hmB 4 (by omega)
  obtain ⟨fd_13, hnd_13, q5_13, q6_13, hds_13⟩ := id (hSh)
  have c_14 : E 0 5 = .inr (2, [.ref (ad 0 6), .int (nI nd)]) := q5_13
  have m_15 : (0, 5) ∈ RL := hmB 5 (by omega)
  have c_16 : E 0 6 = .inl (kA 4, 12, .inr (.inr (.inr (.inr fd_13)))) := q6_13
  have m_17 : (0, 6) ∈ RL := hmB 6 (by omega)
  obtain ⟨cf_18, pv_18, fc_18, hcs_18, hpv_18, q7_18, q8_18, hfc_18⟩ := id (hCh)
  have c_19 : E 0 7 = .inr (3, [.ref (ad 0 5), .ref (ad 0 8), .int (nI (L.length)), .int cf_18, pv_18]) := q7_18
  have m_20 : (0, 7) ∈ RL := hmB 7 (by omega)
  have c_21 : E 0 8 = .inl (kA 4, 12, .inr (.inr (.inr (.inr fc_18)))) := q8_18
  have m_22 : (0, 8) ∈ RL := hmB 8 (by omega)
  obtain ⟨fl_23, hml_23, q9_23, hla_23⟩ := id (hLa)
  have c_24 : E 0 9 = .inl (kA 5, 5, .inr (.inr (.inr (.inr fl_23)))) := q9_23
  have m_25 : (0, 9) ∈ RL := hmB 9 (by omega)
  obtain ⟨xfi_18, xpv_18, xfc_18, xGL_18⟩ := id hCX
  rw [c_19] at xfi_18 xpv_18
  rw [c_21] at xfc_18
  have xfi_18 : cf_18 = fi := xfi_18
  have xpv_18 : pv_18 = lyv ad lq := xpv_18
  have xfc_18 : ∀ k, k < L.length → fc_18 k = some (ad (1 + L.getD k 0) 0) := xfc_18
  have xln_18 := GL_len xGL_18
  refine lv_aload_n hx hb xd_Ch_addName_0 rfl (lv_at hl 0 rfl) ?_
  refine px_get (D := D) (ci := 3) (v := .ref (ad 0 5)) (C := xR_Ch) (T := xT_Ch) (N := 5) hx hb hT xi_Ch hown hK.1 hP m_20 c_19 rfl 0 (by decide) (hT _ k5l_0) (fun _ h9 => h9) rfl xd_Ch_addName_1 ?_
  refine lv_aload_n hx hb xd_Ch_addName_4 rfl (lv_at hl 0 rfl) ?_
  refine px_get (D := D) (ci := 3) (v := .int cf_18) (C := xR_Ch) (T := xT_Ch) (N := 5) hx hb hT xi_Ch hown hK.1 hP m_20 c_19 rfl 3 (by decide) (hT _ k5l_1) (fun _ h9 => h9) rfl xd_Ch_addName_5 ?_
  refine lv_iload_n hx hb xd_Ch_addName_8 rfl (lv_at hl 1 rfl) ?_
  have hFc := px_free hD hS hA
  refine va_callq (va_runV (As := [.int cf_18, .int nm]) (rest := []) ⟨hx, hb, hml, hown, hT⟩ (xc_Sh_findX l D kA s.heap.size ad E RL g ml nd len wn L.length cf_18 nm (by first | assumption | omega) (by first | assumption | omega)) (cwV 2 hT (wT_V k5l_3 k5l_4 k5l_5 k5l_6 k5l_2) rfl rfl rfl (by decide +kernel) ⟨(show 0 + 1 ≤ 6 + f by omega), (show 8 + (4 + 11) + (0) ≤ 90 + 90 * f by omega)⟩) (px_preV hK hP hD m_15 c_14 rfl) rfl rfl hl.1 rfl (lv_room (Nat.le_of_ble_eq_true rfl)) xd_Ch_addName_9 ⟨(Nat.le_of_ble_eq_true rfl), (Nat.le_of_ble_eq_true rfl)⟩) hS (fun q _ h => hFc q h) hFc (fun r26 u27 t H1 locs ht hvm hp28 hB hz1 hk1 hS => ?_)
  obtain ⟨hP1, hD1⟩ := hB
  rw [ht] at hP1
  have hD1 := hD1.weaken (fun _ _ _ h => hFc _ h)
  generalize H1 = H at hP1 hS ⊢
  have hP := hP1
  have hD := hD1
  have hP : va_P D xcl (rp ad E RL) H := hP
  have hD : va_D A (rp ad E RL) := hD
  rcases hp28 with ⟨rfl, z29⟩ | ⟨z30, z31, rfl, z32⟩
  · have hds : dsG g nd fi nm = none := by rw [← xfi_18]; exact z29
    refine W.eq (g2 := F0 m 12 ls [.null]) rfl ?_
    refine lv_astore_nN hx hb xd_Ch_addName_12 rfl hl (Nat.le_of_ble_eq_true rfl) rfl (fun ls hl => ?_)
    have hl : lv_has ls 5 [(3, .null), (0, .ref (ad 0 7)), (1, .int nm), (2, .int (nI dp))] := hl
    refine lv_aload_nN hx hb xd_Ch_addName_13 rfl (lv_at hl 0 rfl) ?_
    refine lv_ifnonnullN hx hb xd_Ch_addName_14 ?_
    refine lv_aload_n hx hb xd_Ch_addName_17 rfl (lv_at hl 1 rfl) ?_
    refine px_get (D := D) (ci := 3) (v := pv_18) (C := xR_Ch) (T := xT_Ch) (N := 5) hx hb hT xi_Ch hown hK.1 hP m_20 c_19 rfl 4 (by decide) (hT _ k5l_7) (fun _ h9 => h9) rfl xd_Ch_addName_18 ?_
    rcases (show lq = 0 ∨ ∃ yq, lq = yq + 1 from by rcases Nat.eq_zero_or_pos lq with q | q; exact Or.inl q; exact Or.inr ⟨lq - 1, by omega⟩) with hyq | ⟨yq, hyq⟩
    · refine W.eq (g2 := F0 m 21 ls [.null]) (by rw [xpv_18, lyv_0 hyq]) ?_
      refine lv_ifnullN (tgt := 39) hx hb xd_Ch_addName_21 (by decide) ?_
      refine lv_iconst (v := 0) hx hb xd_Ch_addName_39 (by decide) ?_
      refine W.widen (k := 0) (n := 0) (Nat.le_of_ble_eq_true rfl) (Nat.le_of_ble_eq_true rfl) ?_
      exact W.zret (v := 0) hx hb hr rfl (fun t ht hW => ⟨⟨0, E, rfl, ⟨L, hCI, hCX, F78_rf, Or.inr ⟨rfl, (aN_no hds).trans (by rw [show upG g lq nm = false from by unfold upG; rw [hyq]; rfl])⟩⟩, by rw [ht]; exact hP, hD⟩, hS.F ht⟩) hS.2.2 xd_Ch_addName_40
    · refine W.eq (g2 := F0 m 21 ls [.ref (ad (20 + yq) 0)]) (by rw [xpv_18, lyv_s hyq]) ?_
      refine lv_ifnull hx hb xd_Ch_addName_21 ?_
      refine lv_aload_n hx hb xd_Ch_addName_24 rfl (lv_at hl 1 rfl) ?_
      refine px_get (D := D) (ci := 3) (v := pv_18) (C := xR_Ch) (T := xT_Ch) (N := 5) hx hb hT xi_Ch hown hK.1 hP m_20 c_19 rfl 4 (by decide) (hT _ k5l_7) (fun _ h9 => h9) rfl xd_Ch_addName_25 ?_
      refine W.eq (g2 := F0 m 28 ls [.ref (ad (20 + yq) 0)]) (by rw [xpv_18, lyv_s hyq]) ?_
      refine lv_iload_n hx hb xd_Ch_addName_28 rfl (lv_at hl 2 rfl) ?_
      have hFc := px_free hD hS hA
      obtain ⟨m0_33, m1_33, pv_33, op_33, mk_33, fm_33, hmk_33, hpv_33, q0_33, q1_33, hk_33⟩ := id (hLIs yq (by omega))
      have c_34 : E (20 + yq) 0 = .inr (5, [.int (nI yq), pv_33, .ref (ad (20 + yq) 1), .int op_33]) := q0_33
      have m_35 : (20 + yq, 0) ∈ RL := m0_33
      have c_36 : E (20 + yq) 1 = .inl (kA 6, mk_33, .inr (.inr (.inr (.inr fm_33)))) := q1_33
      have m_37 : (20 + yq, 1) ∈ RL := m1_33
      obtain ⟨top_33, ⟨lq_33, hlq_33, h19_33, hpv2_33⟩, h20_33, tmd_33⟩ := TLa_get c_34 c_36 (hTL yq (by omega))
      have c_38 : E (20 + yq) 0 = .inr (5, [.int (nI yq), (lyv ad lq_33), .ref (ad (20 + yq) 1), .int op_33]) := by rw [← hpv2_33]; exact c_34
      refine va_callq (va_runV (As := [.int nm]) (rest := []) ⟨hx, hb, hml, hown, hT⟩ (xc_Ly_lookUpX l D kA H.size ad E RL g nd ml yq nm (by first | assumption | omega) (by first | assumption | omega) (by first | assumption | omega) (by first | assumption | omega) (by first | assumption | omega) (by first | assumption | omega) (by first | assumption | omega)) (cwV 1 hT (wT_V k5l_9 k5l_10 k5l_11 k5l_12 k5l_8) rfl rfl rfl (by decide +kernel) ⟨(show 0 + 1 ≤ 6 + f by omega), (show 8 + (4 + 11) + (0) ≤ 90 + 90 * f by omega)⟩) (px_preV hK hP hD m_35 c_38 rfl) rfl rfl hl.1 rfl (lv_room (Nat.le_of_ble_eq_true rfl)) xd_Ch_addName_29 ⟨(Nat.le_of_ble_eq_true rfl), (Nat.le_of_ble_eq_true rfl)⟩) hS (fun q _ h => hFc q h) hFc (fun r39 u40 t H1 locs ht hvm hp41 hB hz1 hk1 hS => ?_)
      obtain ⟨hP1, hD1⟩ := hB
      rw [ht] at hP1
      have hD1 := hD1.weaken (fun _ _ _ h => hFc _ h)
      generalize H1 = H at hP1 hS ⊢
      have hP := hP1
      have hD := hD1
      have hP : va_P D xcl (rp ad E RL) H := hP
      have hD : va_D A (rp ad E RL) := hD
      rcases hp41 with ⟨rfl, z42⟩ | ⟨z43, z44, z45, rfl, z46, z47, z48⟩
      · refine W.eq (g2 := F0 m 32 ls [.null]) rfl ?_
        refine lv_ifnullN (tgt := 39) hx hb xd_Ch_addName_32 (by decide) ?_
        refine lv_iconst (v := 0) hx hb xd_Ch_addName_39 (by decide) ?_
        refine W.widen (k := 0) (n := 0) (Nat.le_of_ble_eq_true rfl) (Nat.le_of_ble_eq_true rfl) ?_
        exact W.zret (v := 0) hx hb hr rfl (fun t ht hW => ⟨⟨0, E, rfl, ⟨L, hCI, hCX, F78_rf, Or.inr ⟨rfl, (aN_no hds).trans (by rw [show upG g lq nm = false from by unfold upG; rw [hyq, z42]; rfl])⟩⟩, by rw [ht]; exact hP, hD⟩, hS.F ht⟩) hS.2.2 xd_Ch_addName_40
      · refine W.eq (g2 := F0 m 32 ls [.ref (ad (20 + z43) (10 + 10 * z44))]) rfl ?_
        refine lv_ifnull hx hb xd_Ch_addName_32 ?_
        refine lv_iconst (v := 1) hx hb xd_Ch_addName_35 (by decide) ?_
        refine lv_goto (tgt := 40) hx hb xd_Ch_addName_36 (by decide) ?_
        refine W.widen (k := 0) (n := 0) (Nat.le_of_ble_eq_true rfl) (Nat.le_of_ble_eq_true rfl) ?_
        exact W.zret (v := 1) hx hb hr rfl (fun t ht hW => ⟨⟨1, E, rfl, ⟨L, hCI, hCX, F78_rf, Or.inl ⟨rfl, (aN_no hds).trans (by rw [show upG g lq nm = true from by unfold upG; rw [hyq, z48]; rfl])⟩⟩, by rw [ht]; exact hP, hD⟩, hS.F ht⟩) hS.2.2 xd_Ch_addName_40
  · have hds : dsG g nd fi nm = some z30 := by rw [← xfi_18]; exact z32
    refine W.eq (g2 := F0 m 12 ls [.ref (ad (1 + z30) 0)]) rfl ?_
    refine lv_astore_n hx hb xd_Ch_addName_12 rfl hl (Nat.le_of_ble_eq_true rfl) rfl (fun ls hl => ?_)
    have hl : lv_has ls 5 [(3, .ref (ad (1 + z30) 0)), (0, .ref (ad 0 7)), (1, .int nm), (2, .int (nI dp))] := hl
    refine lv_aload_n hx hb xd_Ch_addName_13 rfl (lv_at hl 0 rfl) ?_
    refine lv_ifnonnull (tgt := 41) hx hb xd_Ch_addName_14 (by decide) ?_
    refine lv_aload_n hx hb xd_Ch_addName_41 rfl (lv_at hl 1 rfl) ?_
    refine lv_aload_n hx hb xd_Ch_addName_42 rfl (lv_at hl 0 rfl) ?_
    have hFc := px_free hD hS hA
    refine va_calli (va_runV (As := [.ref (ad (1 + z30) 0)]) (rest := []) ⟨hx, hb, hml, hown, hT⟩ (xc_Ch_isChosenX l D kA H.size ad E RL g ml nd len wn fi lq L z30 (by first | assumption | omega) (by first | assumption | omega) (by first | assumption | omega)) (cwV 1 hT (wT_V k5l_14 k5l_15 k5l_16 k5l_17 k5l_13) rfl rfl rfl (by decide +kernel) ⟨(show 0 + 1 ≤ 6 + f by omega), (show 8 + (3 + 11) + (0) ≤ 90 + 90 * f by omega)⟩) (px_preV hK hP hD m_20 c_19 rfl) rfl rfl hl.1 rfl (lv_room (Nat.le_of_ble_eq_true rfl)) xd_Ch_addName_43 ⟨(Nat.le_of_ble_eq_true rfl), (Nat.le_of_ble_eq_true rfl)⟩) hS (fun q _ h => hFc q h) hFc (fun r49 u50 t H1 locs ht hvm hp51 hB hz1 hk1 hS => ?_)
    obtain ⟨hP1, hD1⟩ := hB
    rw [ht] at hP1
    have hD1 := hD1.weaken (fun _ _ _ h => hFc _ h)
    generalize H1 = H at hP1 hS ⊢
    have hP := hP1
    have hD := hD1
    have hP : va_P D xcl (rp ad E RL) H := hP
    have hD : va_D A (rp ad E RL) := hD
    rcases hp51 with ⟨rfl, z52⟩ | ⟨rfl, z53⟩
    · refine W.eq (g2 := F0 m 46 ls [.int 1]) rfl ?_
      refine lv_if_eq (tgt := 51) hx hb xd_Ch_addName_46 (by decide) (fun hc54 => absurd hc54 (by decide)) (fun _ => ?_)
      refine lv_iconst (v := 1) hx hb xd_Ch_addName_49 (by decide) ?_
      refine W.widen (k := 0) (n := 0) (Nat.le_of_ble_eq_true rfl) (Nat.le_of_ble_eq_true rfl) ?_
      exact W.zret (v := 1) hx hb hr rfl (fun t ht hW => ⟨⟨1, E, rfl, ⟨L, hCI, hCX, F78_rf, Or.inl ⟨rfl, aN_in hds z52⟩⟩, by rw [ht]; exact hP, hD⟩, hS.F ht⟩) hS.2.2 xd_Ch_addName_50
    · refine W.eq (g2 := F0 m 46 ls [.int 0]) rfl ?_
      refine lv_if_eq (tgt := 51) hx hb xd_Ch_addName_46 (by decide) (fun _ => ?_) (fun hc55 => absurd (by decide) hc55)
      refine lv_aload_n hx hb xd_Ch_addName_51 rfl (lv_at hl 1 rfl) ?_
      refine px_get (D := D) (ci := 3) (v := .int (nI (L.length))) (C := xR_Ch) (T := xT_Ch) (N := 5) hx hb hT xi_Ch hown hK.1 hP m_20 c_19 rfl 2 (by decide) (hT _ k5l_18) (fun _ h9 => h9) rfl xd_Ch_addName_52 ?_
      refine lv_bipush (v := 12) hx hb xd_Ch_addName_55 (by decide) ?_
      refine xn_ge (a := L.length) (b := 12) (tgt := 66) hx hb xd_Ch_addName_57 (by decide) (by omega) (by omega) (fun hc56 => absurd hc56 (by have q := GL_len (GL_add xGL_18 (dsG_lt _ _ hds) z53); rw [len_app] at q; omega)) (fun _ => ?_)
      refine lv_iload_n hx hb xd_Ch_addName_60 rfl (lv_at hl 3 rfl) ?_
      refine lv_bipush (v := 12) hx hb xd_Ch_addName_61 (by decide) ?_
      refine xn_lt (a := dp) (b := 12) (tgt := 68) hx hb xd_Ch_addName_63 (by decide) (by omega) (by omega) (fun hc57 => ?_) (fun hc57 => ?_)
      · refine lv_aload_n hx hb xd_Ch_addName_68 rfl (lv_at hl 1 rfl) ?_
        refine px_get (D := D) (ci := 3) (v := .ref (ad 0 8)) (C := xR_Ch) (T := xT_Ch) (N := 5) hx hb hT xi_Ch hown hK.1 hP m_20 c_19 rfl 1 (by decide) (hT _ k5l_19) (fun _ h9 => h9) rfl xd_Ch_addName_69 ?_
        refine lv_aload_n hx hb xd_Ch_addName_72 rfl (lv_at hl 1 rfl) ?_
        refine px_get (D := D) (ci := 3) (v := .int (nI (L.length))) (C := xR_Ch) (T := xT_Ch) (N := 5) hx hb hT xi_Ch hown hK.1 hP m_20 c_19 rfl 2 (by decide) (hT _ k5l_18) (fun _ h9 => h9) rfl xd_Ch_addName_73 ?_
        refine lv_aload_n hx hb xd_Ch_addName_76 rfl (lv_at hl 0 rfl) ?_
        obtain ⟨hm_58, fd_58, nm_58, sd_58, k0_58, k1_58, k2_58, k3_58, f0_58, f1_58, f2_58, f3_58, fe_58, fo_58, tr_58, op_58, hk0_58, hk1_58, hk2_58, hk3_58, q0_58, q1_58, q2_58, q3_58, q4_58, q5_58, q6_58, q7_58, q8_58, q9_58, q10_58, q11_58, q12_58, hg_58⟩ := id (hDIs z30 (by omega))
        have c_59 : E (1 + z30) 0 = .inr (7, [.int (nI z30), .int fd_58, .int nm_58, .ref (ad (1 + z30) 1), .ref (ad (1 + z30) 9), .ref (ad (1 + z30) 10), .ref (ad (1 + z30) 2), .ref (ad (1 + z30) 11), .ref (ad (1 + z30) 12), .ref (ad (1 + z30) 3), .ref (ad (1 + z30) 4), .int sd_58]) := q0_58
        have m_60 : (1 + z30, 0) ∈ RL := hm_58 0 (by omega)
        have c_61 : E (1 + z30) 1 = .inr (8, [.ref (ad (1 + z30) 5), .int (nI k0_58)]) := q1_58
        have m_62 : (1 + z30, 1) ∈ RL := hm_58 1 (by omega)
        have c_63 : E (1 + z30) 2 = .inr (8, [.ref (ad (1 + z30) 6), .int (nI k1_58)]) := q2_58
        have m_64 : (1 + z30, 2) ∈ RL := hm_58 2 (by omega)
        have c_65 : E (1 + z30) 3 = .inr (8, [.ref (ad (1 + z30) 7), .int (nI k2_58)]) := q3_58
        have m_66 : (1 + z30, 3) ∈ RL := hm_58 3 (by omega)
        have c_67 : E (1 + z30) 4 = .inr (8, [.ref (ad (1 + z30) 8), .int (nI k3_58)]) := q4_58
        have m_68 : (1 + z30, 4) ∈ RL := hm_58 4 (by omega)
        have c_69 : E (1 + z30) 5 = .inl (kA 0, 6, .inl f0_58) := q5_58
        have m_70 : (1 + z30, 5) ∈ RL := hm_58 5 (by omega)
        have c_71 : E (1 + z30) 6 = .inl (kA 0, 5, .inl f1_58) := q6_58
        have m_72 : (1 + z30, 6) ∈ RL := hm_58 6 (by omega)
        have c_73 : E (1 + z30) 7 = .inl (kA 0, 3, .inl f2_58) := q7_58
        have m_74 : (1 + z30, 7) ∈ RL := hm_58 7 (by omega)
        have c_75 : E (1 + z30) 8 = .inl (kA 0, 3, .inl f3_58) := q8_58
        have m_76 : (1 + z30, 8) ∈ RL := hm_58 8 (by omega)
        have c_77 : E (1 + z30) 9 = .inl (kA 8, 6, .inr (.inr (.inr (.inr fe_58)))) := q9_58
        have m_78 : (1 + z30, 9) ∈ RL := hm_58 9 (by omega)
        have c_79 : E (1 + z30) 10 = .inl (kA 8, 6, .inr (.inr (.inr (.inr fo_58)))) := q10_58
        have m_80 : (1 + z30, 10) ∈ RL := hm_58 10 (by omega)
        have c_81 : E (1 + z30) 11 = .inl (kA 2, 5, .inl tr_58) := q11_58
        have m_82 : (1 + z30, 11) ∈ RL := hm_58 11 (by omega)
        have c_83 : E (1 + z30) 12 = .inl (kA 2, 5, .inl op_58) := q12_58
        have m_84 : (1 + z30, 12) ∈ RL := hm_58 12 (by omega)
        have hg_58 : ∀ w9, w9 < k0_58 → fe_58 w9 = some (ad (1 + z30) (20 + 3 * w9)) ∧ fo_58 w9 = some (ad (1 + z30) (38 + 3 * w9)) ∧ GI kA (ad (1 + z30)) (E (1 + z30)) (fun o => (1 + z30, o) ∈ RL) (20 + 3 * w9) (21 + 3 * w9) (22 + 3 * w9) ∧ GI kA (ad (1 + z30)) (E (1 + z30)) (fun o => (1 + z30, o) ∈ RL) (38 + 3 * w9) (39 + 3 * w9) (40 + 3 * w9) := hg_58
        obtain ⟨hTT_58, tgr_58⟩ := TD_get hk0_58 hk1_58 hk2_58 hk3_58 c_59 c_61 c_63 c_65 c_67 c_69 c_71 c_73 c_75 c_81 c_83 (hTD z30 (by omega))
        obtain ⟨tfd_58, tnm_58, tsd_58, tk0_58, tf0_58, tk1_58, tf1_58, tk2_58, tk3_58⟩ := id hTT_58
        have ik0_58 : iN (g 5 z30) = k0_58 := by rw [← tk0_58, iN_nI (by omega)]
        have ik1_58 : iN (g 12 z30) = k1_58 := by rw [← tk1_58, iN_nI (by omega)]
        refine px_aast (i := L.length) (r := (xR_Ds, xT_Ds, 12)) hx hb hK.1 hP hD hS m_22 c_21 4 rfl m_60 c_59 rfl (by omega) (by decide) xd_Ch_addName_77 (fun H locs hP hD hS => ?_)
        have hP : va_P D xcl (rp ad (up2 E 0 8 (.inl (kA 4, 12, .inr (.inr (.inr (.inr (va_up fc_18 L.length (some (ad (1 + z30) 0))))))))) RL) H := hP
        have hD : va_D A (rp ad (up2 E 0 8 (.inl (kA 4, 12, .inr (.inr (.inr (.inr (va_up fc_18 L.length (some (ad (1 + z30) 0))))))))) RL) := hD
        generalize hE86 : up2 E 0 8 (.inl (kA 4, 12, .inr (.inr (.inr (.inr (va_up fc_18 L.length (some (ad (1 + z30) 0)))))))) = E85 at hP hD
        have fE87 : ∀ b2 o2, ¬ (b2 = 0 ∧ o2 = 8) → E85 b2 o2 = E b2 o2 := fun b2 o2 h9 => by rw [← hE86]; exact up2_ne (by omega)
        have c_88 : E85 0 8 = .inl (kA 4, 12, .inr (.inr (.inr (.inr (va_up fc_18 L.length (some (ad (1 + z30) 0))))))) := by rw [← hE86]; exact up2_eq
        have c_89 : E85 0 0 = .inr (0, [.ref (ad 0 1), .ref (ad 0 5), .ref (ad 0 7), .ref (ad 0 9), .int (nI ml), .int lf_1]) := (fE87 0 0 (by omega)).trans c_2
        have c_90 : E85 0 1 = .inr (1, [.ref (ad 0 2), .ref (ad 0 3), .ref (ad 0 4), .int (nI len), .int (nI wn)]) := (fE87 0 1 (by omega)).trans c_5
        have c_91 : E85 0 2 = .inl (kA 1, 40, .inl tx_4) := (fE87 0 2 (by omega)).trans c_7
        have c_92 : E85 0 3 = .inl (kA 0, 20, .inl fb_4) := (fE87 0 3 (by omega)).trans c_9
        have c_93 : E85 0 4 = .inl (kA 0, 20, .inl fe_4) := (fE87 0 4 (by omega)).trans c_11
        have c_94 : E85 0 5 = .inr (2, [.ref (ad 0 6), .int (nI nd)]) := (fE87 0 5 (by omega)).trans c_14
        have c_95 : E85 0 6 = .inl (kA 4, 12, .inr (.inr (.inr (.inr fd_13)))) := (fE87 0 6 (by omega)).trans c_16
        have c_96 : E85 0 7 = .inr (3, [.ref (ad 0 5), .ref (ad 0 8), .int (nI (L.length)), .int cf_18, pv_18]) := (fE87 0 7 (by omega)).trans c_19
        have c_97 : E85 0 9 = .inl (kA 5, 5, .inr (.inr (.inr (.inr fl_23)))) := (fE87 0 9 (by omega)).trans c_24
        have c_98 : E85 (1 + z30) 0 = .inr (7, [.int (nI z30), .int fd_58, .int nm_58, .ref (ad (1 + z30) 1), .ref (ad (1 + z30) 9), .ref (ad (1 + z30) 10), .ref (ad (1 + z30) 2), .ref (ad (1 + z30) 11), .ref (ad (1 + z30) 12), .ref (ad (1 + z30) 3), .ref (ad (1 + z30) 4), .int sd_58]) := (fE87 (1 + z30) 0 (by omega)).trans c_59
        have c_99 : E85 (1 + z30) 1 = .inr (8, [.ref (ad (1 + z30) 5), .int (nI k0_58)]) := (fE87 (1 + z30) 1 (by omega)).trans c_61
        have c_100 : E85 (1 + z30) 2 = .inr (8, [.ref (ad (1 + z30) 6), .int (nI k1_58)]) := (fE87 (1 + z30) 2 (by omega)).trans c_63
        have c_101 : E85 (1 + z30) 3 = .inr (8, [.ref (ad (1 + z30) 7), .int (nI k2_58)]) := (fE87 (1 + z30) 3 (by omega)).trans c_65
        have c_102 : E85 (1 + z30) 4 = .inr (8, [.ref (ad (1 + z30) 8), .int (nI k3_58)]) := (fE87 (1 + z30) 4 (by omega)).trans c_67
        have c_103 : E85 (1 + z30) 5 = .inl (kA 0, 6, .inl f0_58) := (fE87 (1 + z30) 5 (by omega)).trans c_69
        have c_104 : E85 (1 + z30) 6 = .inl (kA 0, 5, .inl f1_58) := (fE87 (1 + z30) 6 (by omega)).trans c_71
        have c_105 : E85 (1 + z30) 7 = .inl (kA 0, 3, .inl f2_58) := (fE87 (1 + z30) 7 (by omega)).trans c_73
        have c_106 : E85 (1 + z30) 8 = .inl (kA 0, 3, .inl f3_58) := (fE87 (1 + z30) 8 (by omega)).trans c_75
        have c_107 : E85 (1 + z30) 9 = .inl (kA 8, 6, .inr (.inr (.inr (.inr fe_58)))) := (fE87 (1 + z30) 9 (by omega)).trans c_77
        have c_108 : E85 (1 + z30) 10 = .inl (kA 8, 6, .inr (.inr (.inr (.inr fo_58)))) := (fE87 (1 + z30) 10 (by omega)).trans c_79
        have c_109 : E85 (1 + z30) 11 = .inl (kA 2, 5, .inl tr_58) := (fE87 (1 + z30) 11 (by omega)).trans c_81
        have c_110 : E85 (1 + z30) 12 = .inl (kA 2, 5, .inl op_58) := (fE87 (1 + z30) 12 (by omega)).trans c_83
        refine lv_aload_n hx hb xd_Ch_addName_78 rfl (lv_at hl 1 rfl) ?_
        refine lv_dup hx hb xd_Ch_addName_79 rfl ?_
        refine px_get (D := D) (ci := 3) (v := .int (nI (L.length))) (C := xR_Ch) (T := xT_Ch) (N := 5) hx hb hT xi_Ch hown hK.1 hP m_20 c_96 rfl 2 (by decide) (hT _ k5l_18) (fun _ h9 => h9) rfl xd_Ch_addName_80 ?_
        refine lv_iconst (v := 1) hx hb xd_Ch_addName_83 (by decide) ?_
        refine lv_iadd hx hb xd_Ch_addName_84 ?_
        refine xn_top (y := nI (L.length + 1)) (nI_add L.length 1) ?_
        refine px_put (D := D) (ci := 3) (v := .int (nI (L.length + 1))) (ty := .int) (C := xR_Ch) (T := xT_Ch) (N := 5) hx hb hT xi_Ch xt_Ch xt_Ch_ok xn_Ch hown hK.1 hP hD hS m_20 c_96 rfl 2 (by decide) (hT _ k5l_18) (fun _ h9 => h9) rfl (by decide +kernel) rfl rfl (Nat.le_of_ble_eq_true rfl) xd_Ch_addName_85 (fun H locs hP hD hS => ?_)
        have hP : va_P D xcl (rp ad (up2 E85 0 7 (.inr (3, [.ref (ad 0 5), .ref (ad 0 8), .int (nI (L.length + 1)), .int cf_18, pv_18]))) RL) H := hP
        have hD : va_D A (rp ad (up2 E85 0 7 (.inr (3, [.ref (ad 0 5), .ref (ad 0 8), .int (nI (L.length + 1)), .int cf_18, pv_18]))) RL) := hD
        generalize hE112 : up2 E85 0 7 (.inr (3, [.ref (ad 0 5), .ref (ad 0 8), .int (nI (L.length + 1)), .int cf_18, pv_18])) = E111 at hP hD
        have fE113 : ∀ b2 o2, ¬ (b2 = 0 ∧ o2 = 7) → E111 b2 o2 = E85 b2 o2 := fun b2 o2 h9 => by rw [← hE112]; exact up2_ne (by omega)
        have c_114 : E111 0 7 = .inr (3, [.ref (ad 0 5), .ref (ad 0 8), .int (nI (L.length + 1)), .int cf_18, pv_18]) := by rw [← hE112]; exact up2_eq
        have c_115 : E111 0 8 = .inl (kA 4, 12, .inr (.inr (.inr (.inr (va_up fc_18 L.length (some (ad (1 + z30) 0))))))) := (fE113 0 8 (by omega)).trans c_88
        have c_116 : E111 0 0 = .inr (0, [.ref (ad 0 1), .ref (ad 0 5), .ref (ad 0 7), .ref (ad 0 9), .int (nI ml), .int lf_1]) := (fE113 0 0 (by omega)).trans c_89
        have c_117 : E111 0 1 = .inr (1, [.ref (ad 0 2), .ref (ad 0 3), .ref (ad 0 4), .int (nI len), .int (nI wn)]) := (fE113 0 1 (by omega)).trans c_90
        have c_118 : E111 0 2 = .inl (kA 1, 40, .inl tx_4) := (fE113 0 2 (by omega)).trans c_91
        have c_119 : E111 0 3 = .inl (kA 0, 20, .inl fb_4) := (fE113 0 3 (by omega)).trans c_92
        have c_120 : E111 0 4 = .inl (kA 0, 20, .inl fe_4) := (fE113 0 4 (by omega)).trans c_93
        have c_121 : E111 0 5 = .inr (2, [.ref (ad 0 6), .int (nI nd)]) := (fE113 0 5 (by omega)).trans c_94
        have c_122 : E111 0 6 = .inl (kA 4, 12, .inr (.inr (.inr (.inr fd_13)))) := (fE113 0 6 (by omega)).trans c_95
        have c_123 : E111 0 9 = .inl (kA 5, 5, .inr (.inr (.inr (.inr fl_23)))) := (fE113 0 9 (by omega)).trans c_97
        have c_124 : E111 (1 + z30) 0 = .inr (7, [.int (nI z30), .int fd_58, .int nm_58, .ref (ad (1 + z30) 1), .ref (ad (1 + z30) 9), .ref (ad (1 + z30) 10), .ref (ad (1 + z30) 2), .ref (ad (1 + z30) 11), .ref (ad (1 + z30) 12), .ref (ad (1 + z30) 3), .ref (ad (1 + z30) 4), .int sd_58]) := (fE113 (1 + z30) 0 (by omega)).trans c_98
        have c_125 : E111 (1 + z30) 1 = .inr (8, [.ref (ad (1 + z30) 5), .int (nI k0_58)]) := (fE113 (1 + z30) 1 (by omega)).trans c_99
        have c_126 : E111 (1 + z30) 2 = .inr (8, [.ref (ad (1 + z30) 6), .int (nI k1_58)]) := (fE113 (1 + z30) 2 (by omega)).trans c_100
        have c_127 : E111 (1 + z30) 3 = .inr (8, [.ref (ad (1 + z30) 7), .int (nI k2_58)]) := (fE113 (1 + z30) 3 (by omega)).trans c_101
        have c_128 : E111 (1 + z30) 4 = .inr (8, [.ref (ad (1 + z30) 8), .int (nI k3_58)]) := (fE113 (1 + z30) 4 (by omega)).trans c_102
        have c_129 : E111 (1 + z30) 5 = .inl (kA 0, 6, .inl f0_58) := (fE113 (1 + z30) 5 (by omega)).trans c_103
        have c_130 : E111 (1 + z30) 6 = .inl (kA 0, 5, .inl f1_58) := (fE113 (1 + z30) 6 (by omega)).trans c_104
        have c_131 : E111 (1 + z30) 7 = .inl (kA 0, 3, .inl f2_58) := (fE113 (1 + z30) 7 (by omega)).trans c_105
        have c_132 : E111 (1 + z30) 8 = .inl (kA 0, 3, .inl f3_58) := (fE113 (1 + z30) 8 (by omega)).trans c_106
        have c_133 : E111 (1 + z30) 9 = .inl (kA 8, 6, .inr (.inr (.inr (.inr fe_58)))) := (fE113 (1 + z30) 9 (by omega)).trans c_107
        have c_134 : E111 (1 + z30) 10 = .inl (kA 8, 6, .inr (.inr (.inr (.inr fo_58)))) := (fE113 (1 + z30) 10 (by omega)).trans c_108
        have c_135 : E111 (1 + z30) 11 = .inl (kA 2, 5, .inl tr_58) := (fE113 (1 + z30) 11 (by omega)).trans c_109
        have c_136 : E111 (1 + z30) 12 = .inl (kA 2, 5, .inl op_58) := (fE113 (1 + z30) 12 (by omega)).trans c_110
        have hCX2 : CX ad E111 nd fi lq (L ++ [z30]) := ⟨by rw [c_114]; exact xfi_18, by rw [c_114]; exact xpv_18, by rw [c_115]; exact CX_add xfc_18, GL_add xGL_18 (dsG_lt _ _ hds) z53⟩
        have hF2 : F78 E E111 := fun b2 o2 h79 h89 => by show E111 b2 o2 = _; rw [fE113 b2 o2 (by omega), fE87 b2 o2 (by omega)]
        have hCI : CI kA ad E111 RL ml nd len wn (L.length + 1) := ⟨hmB, ⟨lf_1, c_116⟩, ⟨tx_4, fb_4, fe_4, (by omega), (by omega), c_117, c_118, c_119, c_120, hws_4⟩, ⟨fd_13, (by omega), c_121, c_122, hds_13⟩, ⟨cf_18, pv_18, (va_up fc_18 L.length (some (ad (1 + z30) 0))), (by omega), hpv_18, c_114, c_115, (FC_add hfc_18 (d0 := z30) (by omega))⟩, ⟨fl_23, (by omega), c_123, hla_23⟩, (DIs_same (fun d9 hd9 => fun2 fun o9 => by show E111 (1 + d9) o9 = _; rw [fE113 (1 + d9) o9 (by omega), fE87 (1 + d9) o9 (by omega)]) (fun _ _ => rfl) (fun _ h9 => h9) hDIs), (LIs_same (Nat.le_refl _) (fun n9 hn9 => fun2 fun o9 => by show E111 (20 + n9) o9 = _; rw [fE113 (20 + n9) o9 (by omega), fE87 (20 + n9) o9 (by omega)]) (fun _ _ => rfl) (fun _ _ => rfl) (fun _ h9 => h9) hLIs)⟩
        obtain ⟨hmB, hDk, hLi, hSh, hCh, hLa, hDIs, hLIs⟩ := id hCI
        have hCI : CI kA ad E111 RL ml nd len wn (L ++ [z30]).length := by rw [len_app]; exact hCI
        refine lv_iconst (v := 0) hx hb xd_Ch_addName_88 (by decide) ?_
        refine lv_istore hx hb xd_Ch_addName_89 hl (Nat.le_of_ble_eq_true rfl) rfl (fun ls hl => ?_)
        have hl : lv_has ls 5 [(4, .int 0), (3, .ref (ad (1 + z30) 0)), (0, .ref (ad 0 7)), (1, .int nm), (2, .int (nI dp))] := hl
        refine xlab (σ := Nat × (Nat → Nat → va_E) × List Nat) (ml := 5) 91 (fun (i, E1, L1) => [(4, .int (nI i)), (3, .ref (ad (1 + z30) 0)), (2, .int (nI dp)), (1, .int nm), (0, .ref (ad 0 7))]) (fun (i, E1, L1) => []) (fun (i, E1, L1) => rp ad E1 RL) (fun (i, E1, L1) => (i ≤ iN (g 12 z30)) ∧ (CI kA ad E1 RL ml nd len wn L1.length) ∧ (CX ad E1 nd fi lq L1) ∧ (F78 E E1) ∧ (aF (aN (dsG g nd fi) (upG g lq) (rqG g) (f - 1)) (L ++ [z30]) (rqG g z30) = aF (aN (dsG g nd fi) (upG g lq) (rqG g) (f - 1)) L1 (rqL (g 13) (g 17) (5 * z30 + i) (iN (g 12 z30) - i)))) (fun (i, E1, L1) => iN (g 12 z30) - i) ?_ (0, E111, (L ++ [z30])) _ _ _ (lv_sub hl [0, 1, 4, 3, 2] rfl) hP hD hS ⟨(show 0 ≤ iN (g 12 z30) from by first | assumption | omega), (show CI kA ad E111 RL ml nd len wn (L ++ [z30]).length from hCI), (show CX ad E111 nd fi lq (L ++ [z30]) from hCX2), (show F78 E E111 from hF2), (show aF (aN (dsG g nd fi) (upG g lq) (rqG g) (f - 1)) (L ++ [z30]) (rqG g z30) = aF (aN (dsG g nd fi) (upG g lq) (rqG g) (f - 1)) (L ++ [z30]) (rqL (g 13) (g 17) (5 * z30 + 0) (iN (g 12 z30) - 0)) from (show aF (aN (dsG g nd fi) (upG g lq) (rqG g) (f - 1)) (L ++ [z30]) (rqG g z30) = aF (aN (dsG g nd fi) (upG g lq) (rqG g) (f - 1)) (L ++ [z30]) (rqL (g 13) (g 17) (5 * z30 + 0) (iN (g 12 z30) - 0)) from rfl))⟩
        intro n9 ih137 a9 ls H locs hμ hl hP hD hS hI
        subst hμ
        obtain ⟨i, E1, L1⟩ := a9
        obtain ⟨hi, hCI, hCX1, hF, hAn⟩ := hI
        have hi : i ≤ iN (g 12 z30) := hi
        have hCI : CI kA ad E1 RL ml nd len wn L1.length := hCI
        have hCX1 : CX ad E1 nd fi lq L1 := hCX1
        have hF : F78 E E1 := hF
        have hAn : aF (aN (dsG g nd fi) (upG g lq) (rqG g) (f - 1)) (L ++ [z30]) (rqG g z30) = aF (aN (dsG g nd fi) (upG g lq) (rqG g) (f - 1)) L1 (rqL (g 13) (g 17) (5 * z30 + i) (iN (g 12 z30) - i)) := hAn
        have hl : lv_has ls 5 [(4, .int (nI i)), (3, .ref (ad (1 + z30) 0)), (2, .int (nI dp)), (1, .int nm), (0, .ref (ad 0 7))] := hl
        have hP : va_P D xcl (rp ad E1 RL) H := hP
        have hD : va_D A (rp ad E1 RL) := hD
        obtain ⟨hmB, hDk, hLi, hSh, hCh, hLa, hDIs, hLIs⟩ := id hCI
        obtain ⟨lf_138, q_138⟩ := id (hDk)
        have c_139 : E1 0 0 = .inr (0, [.ref (ad 0 1), .ref (ad 0 5), .ref (ad 0 7), .ref (ad 0 9), .int (nI ml), .int lf_138]) := q_138
        have m_140 : (0, 0) ∈ RL := hmB 0 (by omega)
        obtain ⟨tx_141, fb_141, fe_141, hl1_141, hw2_141, q1_141, q2_141, q3_141, q4_141, hws_141⟩ := id (hLi)
        have c_142 : E1 0 1 = .inr (1, [.ref (ad 0 2), .ref (ad 0 3), .ref (ad 0 4), .int (nI len), .int (nI wn)]) := q1_141
        have m_143 : (0, 1) ∈ RL := hmB 1 (by omega)
        have c_144 : E1 0 2 = .inl (kA 1, 40, .inl tx_141) := q2_141
        have m_145 : (0, 2) ∈ RL := hmB 2 (by omega)
        have c_146 : E1 0 3 = .inl (kA 0, 20, .inl fb_141) := q3_141
        have m_147 : (0, 3) ∈ RL := hmB 3 (by omega)
        have c_148 : E1 0 4 = .inl (kA 0, 20, .inl fe_141) := q4_141
        have m_149 : (0, 4) ∈ RL := hmB 4 (by omega)
        obtain ⟨fd_150, hnd_150, q5_150, q6_150, hds_150⟩ := id (hSh)
        have c_151 : E1 0 5 = .inr (2, [.ref (ad 0 6), .int (nI nd)]) := q5_150
        have m_152 : (0, 5) ∈ RL := hmB 5 (by omega)
        have c_153 : E1 0 6 = .inl (kA 4, 12, .inr (.inr (.inr (.inr fd_150)))) := q6_150
        have m_154 : (0, 6) ∈ RL := hmB 6 (by omega)
        obtain ⟨cf_155, pv_155, fc_155, hcs_155, hpv_155, q7_155, q8_155, hfc_155⟩ := id (hCh)
        have c_156 : E1 0 7 = .inr (3, [.ref (ad 0 5), .ref (ad 0 8), .int (nI (L1.length)), .int cf_155, pv_155]) := q7_155
        have m_157 : (0, 7) ∈ RL := hmB 7 (by omega)
        have c_158 : E1 0 8 = .inl (kA 4, 12, .inr (.inr (.inr (.inr fc_155)))) := q8_155
        have m_159 : (0, 8) ∈ RL := hmB 8 (by omega)
        obtain ⟨fl_160, hml_160, q9_160, hla_160⟩ := id (hLa)
        have c_161 : E1 0 9 = .inl (kA 5, 5, .inr (.inr (.inr (.inr fl_160)))) := q9_160
        have m_162 : (0, 9) ∈ RL := hmB 9 (by omega)
        have hTD1 : TDs g E1 nd := TDs_78 hF hTD
        have hTL1 : TLas g ad E1 nd ml := TLas_78 hF hTL
        obtain ⟨xfi_155, xpv_155, xfc_155, xGL_155⟩ := id hCX1
        rw [c_156] at xfi_155 xpv_155
        rw [c_158] at xfc_155
        have xfi_155 : cf_155 = fi := xfi_155
        have xpv_155 : pv_155 = lyv ad lq := xpv_155
        have xfc_155 : ∀ k, k < L1.length → fc_155 k = some (ad (1 + L1.getD k 0) 0) := xfc_155
        have xln_155 := GL_len xGL_155
        refine lv_iload hx hb xd_Ch_addName_91 (lv_at hl 0 rfl) ?_
        refine lv_aload_n hx hb xd_Ch_addName_93 rfl (lv_at hl 1 rfl) ?_
        obtain ⟨hm_163, fd_163, nm_163, sd_163, k0_163, k1_163, k2_163, k3_163, f0_163, f1_163, f2_163, f3_163, fe_163, fo_163, tr_163, op_163, hk0_163, hk1_163, hk2_163, hk3_163, q0_163, q1_163, q2_163, q3_163, q4_163, q5_163, q6_163, q7_163, q8_163, q9_163, q10_163, q11_163, q12_163, hg_163⟩ := id (hDIs z30 (by omega))
        have c_164 : E1 (1 + z30) 0 = .inr (7, [.int (nI z30), .int fd_163, .int nm_163, .ref (ad (1 + z30) 1), .ref (ad (1 + z30) 9), .ref (ad (1 + z30) 10), .ref (ad (1 + z30) 2), .ref (ad (1 + z30) 11), .ref (ad (1 + z30) 12), .ref (ad (1 + z30) 3), .ref (ad (1 + z30) 4), .int sd_163]) := q0_163
        have m_165 : (1 + z30, 0) ∈ RL := hm_163 0 (by omega)
        have c_166 : E1 (1 + z30) 1 = .inr (8, [.ref (ad (1 + z30) 5), .int (nI k0_163)]) := q1_163
        have m_167 : (1 + z30, 1) ∈ RL := hm_163 1 (by omega)
        have c_168 : E1 (1 + z30) 2 = .inr (8, [.ref (ad (1 + z30) 6), .int (nI k1_163)]) := q2_163
        have m_169 : (1 + z30, 2) ∈ RL := hm_163 2 (by omega)
        have c_170 : E1 (1 + z30) 3 = .inr (8, [.ref (ad (1 + z30) 7), .int (nI k2_163)]) := q3_163
        have m_171 : (1 + z30, 3) ∈ RL := hm_163 3 (by omega)
        have c_172 : E1 (1 + z30) 4 = .inr (8, [.ref (ad (1 + z30) 8), .int (nI k3_163)]) := q4_163
        have m_173 : (1 + z30, 4) ∈ RL := hm_163 4 (by omega)
        have c_174 : E1 (1 + z30) 5 = .inl (kA 0, 6, .inl f0_163) := q5_163
        have m_175 : (1 + z30, 5) ∈ RL := hm_163 5 (by omega)
        have c_176 : E1 (1 + z30) 6 = .inl (kA 0, 5, .inl f1_163) := q6_163
        have m_177 : (1 + z30, 6) ∈ RL := hm_163 6 (by omega)
        have c_178 : E1 (1 + z30) 7 = .inl (kA 0, 3, .inl f2_163) := q7_163
        have m_179 : (1 + z30, 7) ∈ RL := hm_163 7 (by omega)
        have c_180 : E1 (1 + z30) 8 = .inl (kA 0, 3, .inl f3_163) := q8_163
        have m_181 : (1 + z30, 8) ∈ RL := hm_163 8 (by omega)
        have c_182 : E1 (1 + z30) 9 = .inl (kA 8, 6, .inr (.inr (.inr (.inr fe_163)))) := q9_163
        have m_183 : (1 + z30, 9) ∈ RL := hm_163 9 (by omega)
        have c_184 : E1 (1 + z30) 10 = .inl (kA 8, 6, .inr (.inr (.inr (.inr fo_163)))) := q10_163
        have m_185 : (1 + z30, 10) ∈ RL := hm_163 10 (by omega)
        have c_186 : E1 (1 + z30) 11 = .inl (kA 2, 5, .inl tr_163) := q11_163
        have m_187 : (1 + z30, 11) ∈ RL := hm_163 11 (by omega)
        have c_188 : E1 (1 + z30) 12 = .inl (kA 2, 5, .inl op_163) := q12_163
        have m_189 : (1 + z30, 12) ∈ RL := hm_163 12 (by omega)
        have hg_163 : ∀ w9, w9 < k0_163 → fe_163 w9 = some (ad (1 + z30) (20 + 3 * w9)) ∧ fo_163 w9 = some (ad (1 + z30) (38 + 3 * w9)) ∧ GI kA (ad (1 + z30)) (E1 (1 + z30)) (fun o => (1 + z30, o) ∈ RL) (20 + 3 * w9) (21 + 3 * w9) (22 + 3 * w9) ∧ GI kA (ad (1 + z30)) (E1 (1 + z30)) (fun o => (1 + z30, o) ∈ RL) (38 + 3 * w9) (39 + 3 * w9) (40 + 3 * w9) := hg_163
        obtain ⟨hTT_163, tgr_163⟩ := TD_get hk0_163 hk1_163 hk2_163 hk3_163 c_164 c_166 c_168 c_170 c_172 c_174 c_176 c_178 c_180 c_186 c_188 (hTD1 z30 (by omega))
        obtain ⟨tfd_163, tnm_163, tsd_163, tk0_163, tf0_163, tk1_163, tf1_163, tk2_163, tk3_163⟩ := id hTT_163
        have ik0_163 : iN (g 5 z30) = k0_163 := by rw [← tk0_163, iN_nI (by omega)]
        have ik1_163 : iN (g 12 z30) = k1_163 := by rw [← tk1_163, iN_nI (by omega)]
        refine px_get (D := D) (ci := 7) (v := .ref (ad (1 + z30) 2)) (C := xR_Ds) (T := xT_Ds) (N := 12) hx hb hT xi_Ds hown hK.1 hP m_165 c_164 rfl 6 (by decide) (hT _ k5l_20) (fun _ h9 => h9) rfl xd_Ch_addName_94 ?_
        refine px_get (D := D) (ci := 8) (v := .int (nI k1_163)) (C := xR_Na) (T := xT_Na) (N := 2) hx hb hT xi_Na hown hK.1 hP m_169 c_168 rfl 1 (by decide) (hT _ k5l_21) (fun _ h9 => h9) rfl xd_Ch_addName_97 ?_
        refine xn_ge (a := i) (b := k1_163) (tgt := 140) hx hb xd_Ch_addName_100 (by decide) (by omega) (by omega) (fun hc190 => ?_) (fun hc190 => ?_)
        · refine lv_iconst (v := 1) hx hb xd_Ch_addName_140 (by decide) ?_
          refine W.widen (k := 0) (n := 0) (Nat.le_of_ble_eq_true rfl) (Nat.le_of_ble_eq_true rfl) ?_
          exact W.zret (v := 1) hx hb hr rfl (fun t ht hW => ⟨⟨1, E1, rfl, ⟨L1, hCI, hCX1, hF, Or.inl ⟨rfl, (aN_s (by omega) hds z53).trans (hAn.trans (by rw [show iN (g 12 z30) - i = 0 by omega]; rfl))⟩⟩, by rw [ht]; exact hP, hD⟩, hS.F ht⟩) hS.2.2 xd_Ch_addName_141
        · refine lv_aload_n hx hb xd_Ch_addName_103 rfl (lv_at hl 1 rfl) ?_
          refine px_get (D := D) (ci := 7) (v := .ref (ad (1 + z30) 12)) (C := xR_Ds) (T := xT_Ds) (N := 12) hx hb hT xi_Ds hown hK.1 hP m_165 c_164 rfl 8 (by decide) (hT _ k5l_22) (fun _ h9 => h9) rfl xd_Ch_addName_104 ?_
          refine lv_iload hx hb xd_Ch_addName_107 (lv_at hl 0 rfl) ?_
          refine px_zald (i := i) hx hb hK.1 hP m_189 c_188 2 rfl (by omega) (by decide) xd_Ch_addName_109 ?_
          refine lv_if_ne (tgt := 134) hx hb xd_Ch_addName_110 (by decide) (fun hc191 => ?_) (fun hc191 => ?_)
          · refine lv_iinc (k := 0) (x := (nI i)) (v := (nI (i + 1))) hx hb xd_Ch_addName_134 hl rfl (xb_inc i 1) (Nat.le_of_ble_eq_true rfl) rfl (fun ls hl => ?_)
            have hl : lv_has ls 5 [(4, .int (nI (i + 1))), (3, .ref (ad (1 + z30) 0)), (2, .int (nI dp)), (1, .int nm), (0, .ref (ad 0 7))] := hl
            refine lv_goto (tgt := 91) hx hb xd_Ch_addName_137 (by decide) ?_
            exact ih137 (i + 1, E1, L1) _ _ _ (show iN (g 12 z30) - (i + 1) < iN (g 12 z30) - i by omega) (lv_sub hl [0, 1, 2, 3, 4] rfl) hP hD hS ⟨(show (i + 1) ≤ iN (g 12 z30) from by first | assumption | omega), (show CI kA ad E1 RL ml nd len wn L1.length from hCI), (show CX ad E1 nd fi lq L1 from hCX1), (show F78 E E1 from hF), (show aF (aN (dsG g nd fi) (upG g lq) (rqG g) (f - 1)) (L ++ [z30]) (rqG g z30) = aF (aN (dsG g nd fi) (upG g lq) (rqG g) (f - 1)) L1 (rqL (g 13) (g 17) (5 * z30 + (i + 1)) (iN (g 12 z30) - (i + 1))) from by rw [hAn, show iN (g 12 z30) - i = iN (g 12 z30) - (i + 1) + 1 by omega, rqL_n (by rw [← (tf1_163 i (by omega)).2.2]; exact hc191), Nat.add_assoc])⟩
          · refine lv_aload_n hx hb xd_Ch_addName_113 rfl (lv_at hl 4 rfl) ?_
            refine lv_aload_n hx hb xd_Ch_addName_114 rfl (lv_at hl 1 rfl) ?_
            refine px_get (D := D) (ci := 7) (v := .ref (ad (1 + z30) 2)) (C := xR_Ds) (T := xT_Ds) (N := 12) hx hb hT xi_Ds hown hK.1 hP m_165 c_164 rfl 6 (by decide) (hT _ k5l_20) (fun _ h9 => h9) rfl xd_Ch_addName_115 ?_
            refine lv_iload hx hb xd_Ch_addName_118 (lv_at hl 0 rfl) ?_
            have hFc := px_free hD hS hA
            refine va_calli (va_runV (As := [.int (nI i)]) (rest := [.ref (ad 0 7)]) ⟨hx, hb, hml, hown, hT⟩ (xc_Na_at l D kA H.size ad E1 RL (1 + z30) 2 6 5 k1_163 f1_163 i m_169 c_168 m_177 c_176 (by first | assumption | omega) (by first | assumption | omega) (by first | assumption | omega)) (cwV 1 hT (wT_V k5l_24 k5l_25 k5l_26 k5l_27 k5l_23) rfl rfl rfl (by decide +kernel) ⟨(show 0 + 1 ≤ 6 + f by omega), (show 8 + (2 + 11) + (0) ≤ 90 + 90 * f by omega)⟩) (px_preV hK hP hD m_169 c_168 rfl) rfl rfl hl.1 rfl (lv_room (Nat.le_of_ble_eq_true rfl)) xd_Ch_addName_120 ⟨(Nat.le_of_ble_eq_true rfl), (Nat.le_of_ble_eq_true rfl)⟩) hS (fun q _ h => hFc q h) hFc (fun r192 u193 t H1 locs ht hvm hp194 hB hz1 hk1 hS => ?_)
            obtain ⟨hP1, hD1⟩ := hB
            rw [ht] at hP1
            have hD1 := hD1.weaken (fun _ _ _ h => hFc _ h)
            generalize H1 = H at hP1 hS ⊢
            have hP := hP1
            have hD := hD1
            have hP : va_P D xcl (rp ad E1 RL) H := hP
            have hD : va_D A (rp ad E1 RL) := hD
            have hp194 : r192 = g 13 (5 * z30 + i) := by
              rcases hp194 with ⟨q, q2⟩ | ⟨q, _⟩
              · rw [q2]; exact (tf1_163 i q).1
              · omega
            subst hp194
            have hP : va_P D xcl (rp ad E1 RL) H := hP
            have hD : va_D A (rp ad E1 RL) := hD
            refine lv_iload_n hx hb xd_Ch_addName_123 rfl (lv_at hl 2 rfl) ?_
            refine lv_iconst (v := 1) hx hb xd_Ch_addName_124 (by decide) ?_
            refine lv_iadd hx hb xd_Ch_addName_125 ?_
            refine xn_top (y := nI (dp + 1)) (nI_add dp 1) ?_
            have hFc := px_free hD hS hA
            refine va_calli (va_runV (As := [.int (g 13 (5 * z30 + i)), .int (nI (dp + 1))]) (rest := []) ⟨hx, hb, hml, hown, hT⟩ (ih (f - 1) (by omega) l D kA H.size ad E1 RL g ml nd len wn fi lq L1 (g 13 (5 * z30 + i)) (dp + 1) hCI hCX1 hTD1 hTL1 (by first | assumption | omega) (by first | assumption | omega)) (cwV 2 hT (wT_V k5l_29 k5l_30 k5l_31 k5l_17 k5l_28) rfl rfl rfl (by decide +kernel) ⟨(show 6 + (f - 1) + 1 ≤ 6 + f by omega), (show 8 + (5 + 11) + (90 + 90 * (f - 1)) ≤ 90 + 90 * f by omega)⟩) (px_preV hK hP hD m_157 c_156 rfl) rfl rfl hl.1 rfl (lv_room (Nat.le_of_ble_eq_true rfl)) xd_Ch_addName_126 ⟨(Nat.le_of_ble_eq_true rfl), (Nat.le_of_ble_eq_true rfl)⟩) hS (fun q _ h => hFc q h) hFc (fun r195 u196 t H1 locs ht hvm hp197 hB hz1 hk1 hS => ?_)
            obtain ⟨hP1, hD1⟩ := hB
            rw [ht] at hP1
            have hD1 := hD1.weaken (fun _ _ _ h => hFc _ h)
            generalize H1 = H at hP1 hS ⊢
            have hP := hP1
            have hD := hD1
            obtain ⟨E198, rfl⟩ : ∃ z, z = u196 := ⟨_, rfl⟩
            have hP : va_P D xcl (rp ad E198 RL) H := hP
            have hD : va_D A (rp ad E198 RL) := hD
            obtain ⟨L2, hCI, hCX2, hF9, hres⟩ := hp197
            have hCI : CI kA ad E198 RL ml nd len wn L2.length := hCI
            have hF2 : F78 E E198 := F78_tr hF hF9
            obtain ⟨hmB, hDk, hLi, hSh, hCh, hLa, hDIs, hLIs⟩ := id hCI
            rcases hres with ⟨rfl, hok9⟩ | ⟨rfl, hok9⟩
            · have hok8 := hok9
              refine lv_if_ne (tgt := 134) hx hb xd_Ch_addName_129 (by decide) (fun _ => ?_) (fun hc199 => absurd hc199 (by decide))
              refine lv_iinc (k := 0) (x := (nI i)) (v := (nI (i + 1))) hx hb xd_Ch_addName_134 hl rfl (xb_inc i 1) (Nat.le_of_ble_eq_true rfl) rfl (fun ls hl => ?_)
              have hl : lv_has ls 5 [(4, .int (nI (i + 1))), (3, .ref (ad (1 + z30) 0)), (2, .int (nI dp)), (1, .int nm), (0, .ref (ad 0 7))] := hl
              refine lv_goto (tgt := 91) hx hb xd_Ch_addName_137 (by decide) ?_
              exact ih137 (i + 1, E198, L2) _ _ _ (show iN (g 12 z30) - (i + 1) < iN (g 12 z30) - i by omega) (lv_sub hl [0, 1, 2, 3, 4] rfl) hP hD hS ⟨(show (i + 1) ≤ iN (g 12 z30) from by first | assumption | omega), (show CI kA ad E198 RL ml nd len wn L2.length from hCI), (show CX ad E198 nd fi lq L2 from hCX2), (show F78 E E198 from hF2), (show aF (aN (dsG g nd fi) (upG g lq) (rqG g) (f - 1)) (L ++ [z30]) (rqG g z30) = aF (aN (dsG g nd fi) (upG g lq) (rqG g) (f - 1)) L2 (rqL (g 13) (g 17) (5 * z30 + (i + 1)) (iN (g 12 z30) - (i + 1))) from by rw [hAn, show iN (g 12 z30) - i = iN (g 12 z30) - (i + 1) + 1 by omega, rqL_y (by rw [← (tf1_163 i (by omega)).2.2]; exact hc191), aF_t hok9, Nat.add_assoc])⟩
            · have hok8 := hok9
              refine lv_if_ne (tgt := 134) hx hb xd_Ch_addName_129 (by decide) (fun hc200 => absurd (by decide) hc200) (fun _ => ?_)
              refine lv_iconst (v := 0) hx hb xd_Ch_addName_132 (by decide) ?_
              refine W.widen (k := 0) (n := 0) (Nat.le_of_ble_eq_true rfl) (Nat.le_of_ble_eq_true rfl) ?_
              exact W.zret (v := 0) hx hb hr rfl (fun t ht hW => ⟨⟨0, E198, rfl, ⟨L2, hCI, hCX2, hF2, Or.inr ⟨rfl, (aN_s (by omega) hds z53).trans (hAn.trans (by rw [show iN (g 12 z30) - i = iN (g 12 z30) - (i + 1) + 1 by omega, rqL_y (by rw [← (tf1_163 i (by omega)).2.2]; exact hc191), aF_f hok9]))⟩⟩, by rw [ht]; exact hP, hD⟩, hS.F ht⟩) hS.2.2 xd_Ch_addName_133
      · refine lv_iconst (v := 0) hx hb xd_Ch_addName_66 (by decide) ?_
        refine W.widen (k := 0) (n := 0) (Nat.le_of_ble_eq_true rfl) (Nat.le_of_ble_eq_true rfl) ?_
        exact W.zret (v := 0) hx hb hr rfl (fun t ht hW => ⟨⟨0, E, rfl, ⟨L, hCI, hCX, F78_rf, Or.inr ⟨rfl, aN_z (by omega) hds z53⟩⟩, by rw [ht]; exact hP, hD⟩, hS.F ht⟩) hS.2.2 xd_Ch_addName_67
theorem bE_ext {g : gT} {nd lq d : Nat} {fi : Int32} {ok : Nat → Prop} {L : List Nat} : ∃ T, bE (adG g nd fi lq) (g 4) ok d L = L ++ T := by
  unfold bE
  by_cases q : ok d ∧ d ∉ L
  · rw [cif_pos q]
    by_cases q2 : (adG g nd fi lq L (g 4 d)).1 = true
    · rw [if_pos q2]; exact aN_pre
    · rw [if_neg q2]; exact ⟨[], (List.append_nil _).symm⟩
  · rw [cif_neg q]; exact ⟨[], (List.append_nil _).symm⟩
theorem ext_tr {L L2 L3 : List Nat} (h : ∃ T, L2 = L ++ T) (h2 : ∃ T, L3 = L2 ++ T) : ∃ T, L3 = L ++ T := by
  obtain ⟨T, e⟩ := h
  obtain ⟨T2, e2⟩ := h2
  exact ⟨T ++ T2, by rw [e2, e, List.append_assoc]⟩
theorem ext_rf {L : List Nat} : ∃ T, L = L ++ T := ⟨[], (List.append_nil _).symm⟩
theorem bD_ext {g : gT} {nd lq : Nat} {fi : Int32} {ok : Nat → Prop} : ∀ (m d : Nat) (L : List Nat), ∃ T, bD (adG g nd fi lq) (g 4) ok m d L = L ++ T
  | 0, _, _ => ext_rf
  | m + 1, d, L => ext_tr bE_ext (bD_ext m (d + 1) _)
theorem bUs_ext {B : Int32 → List Nat → List Nat} {us : Nat → Int32} (hB : ∀ x L, ∃ T, B x L = L ++ T) : ∀ (m k : Nat) (L : List Nat), ∃ T, bUs B us m k L = L ++ T
  | 0, _, _ => ext_rf
  | m + 1, k, L => by
    refine ext_tr ?_ (bUs_ext hB m (k + 1) _)
    by_cases q : 0 < us k
    · rw [cif_pos q]; exact hB _ _
    · rw [cif_neg q]; exact ext_rf
theorem bUg_ext {g : gT} {nd lq d : Nat} {fi : Int32} {L : List Nat} : ∃ T, bUg g nd fi lq d L = L ++ T := bUs_ext (fun x L => bD_ext _ _ _) _ _ _
theorem bR_ext {U : Nat → List Nat → List Nat} (hU : ∀ d L, ∃ T, U d L = L ++ T) {md : Nat → Nat} : ∀ (m k : Nat) (L : List Nat), ∃ T, bR U md m k L = L ++ T
  | 0, _, _ => ext_rf
  | m + 1, k, L => ext_tr (hU _ _) (bR_ext hU m (k + 1) _)
theorem bA_ext {U : Nat → List Nat → List Nat} (hU : ∀ d L, ∃ T, U d L = L ++ T) {mc : Nat → Nat} {md : Nat → Nat → Nat} {pr : Nat → Nat} : ∀ (f lq : Nat) (L : List Nat), ∃ T, bA U mc md pr f lq L = L ++ T
  | 0, _, _ => ext_rf
  | _ + 1, 0, _ => ext_rf
  | f + 1, la + 1, L => ext_tr (bR_ext hU _ _ _) (bA_ext hU f (pr la) _)
theorem bL_ext {U : Nat → List Nat → List Nat} (hU : ∀ d L, ∃ T, U d L = L ++ T) : ∀ (f k : Nat) (L : List Nat), ∃ T, bL U f k L = L ++ T
  | 0, _, _ => ext_rf
  | f + 1, k, L => by
    unfold bL
    split
    · exact ext_tr (hU _ _) (bL_ext hU f (k + 1) _)
    · exact ext_rf
theorem bO_ext {U : Nat → List Nat → List Nat} (hU : ∀ d L, ∃ T, U d L = L ++ T) {g : gT} {lq : Nat} {L : List Nat} : ∃ T, bO U g lq L = L ++ T := ext_tr (bL_ext hU _ _ _) (bA_ext hU _ _ _)
theorem ext_len {L L2 : List Nat} (h : ∃ T, L2 = L ++ T) (hl : L2.length = L.length) : L2 = L := by
  obtain ⟨T, e⟩ := h
  rw [e, List.length_append] at hl
  have : T = [] := List.eq_nil_of_length_eq_zero (by omega)
  rw [e, this, List.append_nil]
theorem bUs_z {B : Int32 → List Nat → List Nat} {us : Nat → Int32} : ∀ (m k : Nat) (L : List Nat), (∀ j, k ≤ j → j < k + m → ¬ 0 < us j) → bUs B us m k L = L
  | 0, _, _, _ => rfl
  | m + 1, k, L, h => by
    show bUs B us m (k + 1) (cif (0 < us k) (B (us k) L) L) = L
    rw [cif_neg (h k (by omega) (by omega))]
    exact bUs_z m (k + 1) L (fun j h1 h2 => h j (by omega) (by omega))
theorem gv_iff {g : gT} {d n : Nat} {f : Nat → Int32} {x : Int32} (hn : n ≤ 3) (hx : 0 < x) (h : NT n f (fun i => g 15 (3 * d + i))) : (∃ k, k < n ∧ f k = x) ↔ gvP g d x := NT_iff hn (fun q => by rw [q] at hx; exact absurd hx (by decide)) h
theorem CX_cut {ad : Nat → Nat → Nat} {fc : Nat → Option Nat} {L T L2 : List Nat} (e : L2 = L ++ T) (h : ∀ k, k < L2.length → fc k = some (ad (1 + L2.getD k 0) 0)) : ∀ k, k < L.length → fc k = some (ad (1 + L.getD k 0) 0) := fun k hk => by
  have q := h k (by rw [e, List.length_append]; omega)
  rw [q, e, List.getD_eq_getElem?_getD, List.getD_eq_getElem?_getD, List.getElem?_append_left hk]
theorem xc_Ch_addNameX (l : Launch) (D : va_G) (kA : Nat → ClassId) (sz : Nat) (ad : Nat → Nat → Nat) (E : Nat → Nat → va_E) (RL : List (Nat × Nat)) (g : Nat → Nat → Int32) (ml : Nat) (nd : Nat) (len : Nat) (wn : Nat) (fi : Int32) (lq : Nat) (L : List Nat) (nm : Int32) (hCI : CI kA ad E RL ml nd len wn L.length) (hCX : CX ad E nd fi lq L) (hTD : TDs g E nd) (hTL : TLas g ad E nd ml) (hlqm : lq ≤ ml) : Met l xy_Ch_addName (.code xy_Ch_addName xb_Ch_addName 5 (some .boolean) :: wT) { frames := 18, cells := 0, slots := 0, locals := 1170 } (va_Pc [.ref (ad 0 7), .int nm, .int 0] (xPre D kA sz (rp ad E RL))) (va_Qi (fun (r : Int32) (u : Nat → Nat → va_E) => ∃ L2, CI kA ad u RL ml nd len wn L2.length ∧ CX ad u nd fi lq L2 ∧ F78 E u ∧ ((r = 1 ∧ adG g nd fi lq L nm = (true, L2)) ∨ (r = 0 ∧ adG g nd fi lq L nm = (false, L2)))) (fun (u : Nat → Nat → va_E) t => va_P D xcl (rp ad u RL) t.heap ∧ va_D (va_A (rp ad E RL) sz) (rp ad u RL)) (va_A (rp ad E RL) sz)) 0 0 (va_A (rp ad E RL) sz) := xc_Ch_addNameRX 12 l D kA sz ad E RL g ml nd len wn fi lq L nm 0 hCI hCX hTD hTL hlqm rfl
theorem k5n_0 : (Cond.code xy_Ch_addName xb_Ch_addName 5 (some .boolean)) ∈ wT := wT_t (List.mem_append_right _ (List.mem_append_right _ (List.mem_append_left _ (List.mem_of_getElem? (i := 80) rfl)))) rfl
theorem k5n_1 : (Cond.methodLink "LayerDesk$Chooser" 32 xy_Ch_addName) ∈ wT := wT_t (List.mem_append_right _ (List.mem_append_right _ (List.mem_append_left _ (List.mem_of_getElem? (i := 77) rfl)))) rfl
theorem k5n_2 : (Cond.instanceMethod xy_Ch_addName) ∈ wT := wT_t (List.mem_append_right _ (List.mem_append_right _ (List.mem_append_left _ (List.mem_of_getElem? (i := 79) rfl)))) rfl
theorem k5n_3 : (Cond.selects "LayerDesk$Chooser" xy_Ch_addName xy_Ch_addName) ∈ wT := wT_s (q := (xy_Ch_addName, 5)) (by decide +kernel) rfl
theorem k5n_4 : (Cond.initialized "LayerDesk$Chooser") ∈ wT := wT_t (List.mem_append_left _ (List.mem_of_getElem? (i := 4) rfl)) rfl
theorem k5n_5 : (Cond.fieldLink "LayerDesk$Chooser" 28 "LayerDesk$Chooser" "shelf" "LLayerDesk$Shelf;") ∈ wT := wT_t (List.mem_append_left _ (List.mem_of_getElem? (i := 81) rfl)) rfl
theorem k5n_6 : (Cond.fieldLink "LayerDesk$Chooser" 101 "LayerDesk$Shelf" "size" "I") ∈ wT := wT_t (List.mem_append_left _ (List.mem_of_getElem? (i := 68) rfl)) rfl
theorem k5n_7 : (Cond.fieldLink "LayerDesk$Chooser" 102 "LayerDesk$Shelf" "descriptors" "[LLayerDesk$Descriptor;") ∈ wT := wT_t (List.mem_append_left _ (List.mem_of_getElem? (i := 65) rfl)) rfl
theorem k5n_8 : (Cond.fieldLink "LayerDesk$Chooser" 17 "LayerDesk$Chooser" "size" "I") ∈ wT := wT_t (List.mem_append_left _ (List.mem_of_getElem? (i := 83) rfl)) rfl
theorem k5n_9 : (Cond.fieldLink "LayerDesk$Chooser" 105 "LayerDesk$Descriptor" "finder" "I") ∈ wT := wT_t (List.mem_append_right _ (List.mem_append_left _ (List.mem_of_getElem? (i := 53) rfl))) rfl
theorem k5n_10 : (Cond.fieldLink "LayerDesk$Chooser" 21 "LayerDesk$Chooser" "finder" "I") ∈ wT := wT_t (List.mem_append_left _ (List.mem_of_getElem? (i := 84) rfl)) rfl
theorem k5n_11 : (Cond.fieldLink "LayerDesk$Chooser" 106 "LayerDesk$Descriptor" "provided" "LLayerDesk$Names;") ∈ wT := wT_t (List.mem_append_right _ (List.mem_append_left _ (List.mem_of_getElem? (i := 80) rfl))) rfl
theorem k5n_12 : (Cond.code xy_Na_holds xb_Na_holds 2 (some .boolean)) ∈ wT := wT_t (List.mem_append_right _ (List.mem_append_left _ (List.mem_of_getElem? (i := 123) rfl))) rfl
theorem k5n_13 : (Cond.methodLink "LayerDesk$Chooser" 109 xy_Na_holds) ∈ wT := wT_t (List.mem_append_right _ (List.mem_append_right _ (List.mem_append_left _ (List.mem_of_getElem? (i := 126) rfl)))) rfl
theorem k5n_14 : (Cond.instanceMethod xy_Na_holds) ∈ wT := wT_t (List.mem_append_right _ (List.mem_append_left _ (List.mem_of_getElem? (i := 121) rfl))) rfl
theorem k5n_15 : (Cond.selects "LayerDesk$Names" xy_Na_holds xy_Na_holds) ∈ wT := wT_t (List.mem_append_right _ (List.mem_append_left _ (List.mem_of_getElem? (i := 122) rfl))) rfl
theorem k5n_16 : (Cond.initialized "LayerDesk$Names") ∈ wT := wT_t (List.mem_append_left _ (List.mem_of_getElem? (i := 11) rfl)) rfl
theorem k5n_17 : (Cond.code xy_Ch_isChosen xb_Ch_isChosen 3 (some .boolean)) ∈ wT := wT_t (List.mem_append_right _ (List.mem_append_right _ (List.mem_append_left _ (List.mem_of_getElem? (i := 89) rfl)))) rfl
theorem k5n_18 : (Cond.methodLink "LayerDesk$Chooser" 66 xy_Ch_isChosen) ∈ wT := wT_t (List.mem_append_right _ (List.mem_append_right _ (List.mem_append_left _ (List.mem_of_getElem? (i := 86) rfl)))) rfl
theorem k5n_19 : (Cond.instanceMethod xy_Ch_isChosen) ∈ wT := wT_t (List.mem_append_right _ (List.mem_append_right _ (List.mem_append_left _ (List.mem_of_getElem? (i := 88) rfl)))) rfl
theorem k5n_20 : (Cond.selects "LayerDesk$Chooser" xy_Ch_isChosen xy_Ch_isChosen) ∈ wT := wT_s (q := (xy_Ch_isChosen, 5)) (by decide +kernel) rfl
theorem k5n_21 : (Cond.fieldLink "LayerDesk$Chooser" 113 "LayerDesk$Descriptor" "name" "I") ∈ wT := wT_t (List.mem_append_right _ (List.mem_append_left _ (List.mem_of_getElem? (i := 58) rfl))) rfl
set_option maxHeartbeats 4000000 in
set_option maxRecDepth 100000 in
theorem xc_Ch_addRootX (l : Launch) (D : va_G) (kA : Nat → ClassId) (sz : Nat) (ad : Nat → Nat → Nat) (E : Nat → Nat → va_E) (RL : List (Nat × Nat)) (g : Nat → Nat → Int32) (ml : Nat) (nd : Nat) (len : Nat) (wn : Nat) (fi : Int32) (lq : Nat) (L : List Nat) (nm : Int32) (hCI : CI kA ad E RL ml nd len wn L.length) (hCX : CX ad E nd fi lq L) (hTD : TDs g E nd) (hTL : TLas g ad E nd ml) (hlqm : lq ≤ ml) : Met l xy_Ch_addRoot (.code xy_Ch_addRoot xb_Ch_addRoot 2 (some .boolean) :: wT) { frames := 19, cells := 0, slots := 0, locals := 1194 } (va_Pc [.ref (ad 0 7), .int nm] (xPre D kA sz (rp ad E RL))) (va_Qi (fun (r : Int32) (u : Nat → Nat → va_E) => ∃ L2, CI kA ad u RL ml nd len wn L2.length ∧ CX ad u nd fi lq L2 ∧ F78 E u ∧ ((r = 1 ∧ adG g nd fi lq L nm = (true, L2)) ∨ (r = 0 ∧ adG g nd fi lq L nm = (false, L2)))) (fun (u : Nat → Nat → va_E) t => va_P D xcl (rp ad u RL) t.heap ∧ va_D (va_A (rp ad E RL) sz) (rp ad u RL)) (va_A (rp ad E RL) sz)) 0 0 (va_A (rp ad E RL) sz) := by
  refine Met.ofW (cc := xb_Ch_addRoot) (maxL := 2) (ret := (some .boolean)) (by decide) rfl ?_
  intro p e s m args below meth c s₁ B hml hv
  obtain ⟨rfl, hsz, hP, hK, hD0⟩ := hv
  have hx := B.exec
  have hb := B.bytes
  have hr := B.returns
  have hT := x_hT B.pre
  have hown : s.vm.findClass xR_Ch = some m.cls := findClass_of_methodNamed B.named
  have hlocks := B.notSynchronized
  subst hsz
  have hD := hD0.self (sz := s.heap.size)
  generalize hAe : va_A (rp ad E RL) s.heap.size = A at hD ⊢
  have hA : ∀ q : Nat, s.heap.size ≤ q → A q := fun q h => by rw [← hAe]; exact Or.inr h
  have hS : va_S A s.heap s.heap [] := va_S.rf
  have hl := lv_entry ([.ref (ad 0 7), .int nm]) (n := 2) (Nat.le_of_ble_eq_true rfl)
  rw [lg_entry_eq]
  generalize (lg_sl ([.ref (ad 0 7), .int nm]) ++ List.replicate (2 - (lg_sl ([.ref (ad 0 7), .int nm])).length) Slot.unset).toArray = ls at hl ⊢
  have hl : lv_has ls 2 [(0, .ref (ad 0 7)), (1, .int nm)] := hl
  have hP : va_P D xcl (rp ad E RL) s.heap := hP
  obtain ⟨hmB, hDk, hLi, hSh, hCh, hLa, hDIs, hLIs⟩ := id hCI
  obtain ⟨cf_1, pv_1, fc_1, hcs_1, hpv_1, q7_1, q8_1, hfc_1⟩ := id (hCh)
  have c_2 : E 0 7 = .inr (3, [.ref (ad 0 5), .ref (ad 0 8), .int (nI (L.length)), .int cf_1, pv_1]) := q7_1
  have m_3 : (0, 7) ∈ RL := hmB 7 (by omega)
  have c_4 : E 0 8 = .inl (kA 4, 12, .inr (.inr (.inr (.inr fc_1)))) := q8_1
  have m_5 : (0, 8) ∈ RL := hmB 8 (by omega)
  obtain ⟨xfi_1, xpv_1, xfc_1, xGL_1⟩ := id hCX
  rw [c_2] at xfi_1 xpv_1
  rw [c_4] at xfc_1
  have xfi_1 : cf_1 = fi := xfi_1
  have xpv_1 : pv_1 = lyv ad lq := xpv_1
  have xfc_1 : ∀ k, k < L.length → fc_1 k = some (ad (1 + L.getD k 0) 0) := xfc_1
  have xln_1 := GL_len xGL_1
  refine lv_aload_n hx hb xd_Ch_addRoot_0 rfl (lv_at hl 0 rfl) ?_
  refine lv_iload_n hx hb xd_Ch_addRoot_1 rfl (lv_at hl 1 rfl) ?_
  refine lv_iconst (v := 0) hx hb xd_Ch_addRoot_2 (by decide) ?_
  have hFc := px_free hD hS hA
  refine va_calli (va_runV (As := [.int nm, .int 0]) (rest := []) ⟨hx, hb, hml, hown, hT⟩ (xc_Ch_addNameX l D kA s.heap.size ad E RL g ml nd len wn fi lq L nm (by first | assumption | omega) (by first | assumption | omega) (by first | assumption | omega) (by first | assumption | omega) (by first | assumption | omega)) (cwV 2 hT (wT_V k5n_1 k5n_2 k5n_3 k5n_4 k5n_0) rfl rfl rfl (by decide +kernel) ⟨Nat.le_of_ble_eq_true rfl, Nat.le_of_ble_eq_true rfl⟩) (px_preV hK hP hD m_3 c_2 rfl) rfl rfl hl.1 rfl (lv_room (Nat.le_of_ble_eq_true rfl)) xd_Ch_addRoot_3 ⟨(Nat.le_of_ble_eq_true rfl), (Nat.le_of_ble_eq_true rfl)⟩) hS (fun q _ h => hFc q h) hFc (fun r6 u7 t H1 locs ht hvm hp8 hB hz1 hk1 hS => ?_)
  obtain ⟨hP1, hD1⟩ := hB
  rw [ht] at hP1
  have hD1 := hD1.weaken (fun _ _ _ h => hFc _ h)
  generalize H1 = H at hP1 hS ⊢
  have hP := hP1
  have hD := hD1
  obtain ⟨E9, rfl⟩ : ∃ z, z = u7 := ⟨_, rfl⟩
  have hP : va_P D xcl (rp ad E9 RL) H := hP
  have hD : va_D A (rp ad E9 RL) := hD
  obtain ⟨L2, hCI, hCX2, hF9, hres⟩ := hp8
  have hCI : CI kA ad E9 RL ml nd len wn L2.length := hCI
  have hF2 : F78 E E9 := F78_tr F78_rf hF9
  obtain ⟨hmB, hDk, hLi, hSh, hCh, hLa, hDIs, hLIs⟩ := id hCI
  exact W.zret (v := r6) hx hb hr (by rcases hres with h | h <;> rw [h.1] <;> rfl) (fun t ht hW => ⟨⟨r6, E9, rfl, ⟨L2, hCI, hCX2, hF2, hres⟩, by rw [ht]; exact hP, hD⟩, hS.F ht⟩) hS.2.2 xd_Ch_addRoot_6
set_option maxHeartbeats 4000000 in
set_option maxRecDepth 100000 in
theorem xc_Ch_bindProvidersOfX (l : Launch) (D : va_G) (kA : Nat → ClassId) (sz : Nat) (ad : Nat → Nat → Nat) (E : Nat → Nat → va_E) (RL : List (Nat × Nat)) (g : Nat → Nat → Int32) (ml : Nat) (nd : Nat) (len : Nat) (wn : Nat) (fi : Int32) (lq : Nat) (L : List Nat) (sv : Int32) (hCI : CI kA ad E RL ml nd len wn L.length) (hCX : CX ad E nd fi lq L) (hTD : TDs g E nd) (hTL : TLas g ad E nd ml) (hlqm : lq ≤ ml) (hsv : 0 < sv) : Met l xy_Ch_bindProvidersOf (.code xy_Ch_bindProvidersOf xb_Ch_bindProvidersOf 5 none :: wT) { frames := 19, cells := 0, slots := 0, locals := 1194 } (va_Pc [.ref (ad 0 7), .int sv] (xPre D kA sz (rp ad E RL))) (va_Qv (fun (u : Nat → Nat → va_E) => ∃ L2, CI kA ad u RL ml nd len wn L2.length ∧ CX ad u nd fi lq L2 ∧ F78 E u ∧ bSv g nd fi lq sv L = L2) (fun (u : Nat → Nat → va_E) t => va_P D xcl (rp ad u RL) t.heap ∧ va_D (va_A (rp ad E RL) sz) (rp ad u RL)) (va_A (rp ad E RL) sz)) 0 0 (va_A (rp ad E RL) sz) := by
  refine Met.ofW (cc := xb_Ch_bindProvidersOf) (maxL := 5) (ret := none) (by decide) rfl ?_
  intro p e s m args below meth c s₁ B hml hv
  obtain ⟨rfl, hsz, hP, hK, hD0⟩ := hv
  have hx := B.exec
  have hb := B.bytes
  have hr := B.returns
  have hT := x_hT B.pre
  have hown : s.vm.findClass xR_Ch = some m.cls := findClass_of_methodNamed B.named
  have hlocks := B.notSynchronized
  subst hsz
  have hD := hD0.self (sz := s.heap.size)
  generalize hAe : va_A (rp ad E RL) s.heap.size = A at hD ⊢
  have hA : ∀ q : Nat, s.heap.size ≤ q → A q := fun q h => by rw [← hAe]; exact Or.inr h
  have hS : va_S A s.heap s.heap [] := va_S.rf
  have hl := lv_entry ([.ref (ad 0 7), .int sv]) (n := 5) (Nat.le_of_ble_eq_true rfl)
  rw [lg_entry_eq]
  generalize (lg_sl ([.ref (ad 0 7), .int sv]) ++ List.replicate (5 - (lg_sl ([.ref (ad 0 7), .int sv])).length) Slot.unset).toArray = ls at hl ⊢
  have hl : lv_has ls 5 [(0, .ref (ad 0 7)), (1, .int sv)] := hl
  have hP : va_P D xcl (rp ad E RL) s.heap := hP
  obtain ⟨hmB, hDk, hLi, hSh, hCh, hLa, hDIs, hLIs⟩ := id hCI
  obtain ⟨lf_1, q_1⟩ := id (hDk)
  have c_2 : E 0 0 = .inr (0, [.ref (ad 0 1), .ref (ad 0 5), .ref (ad 0 7), .ref (ad 0 9), .int (nI ml), .int lf_1]) := q_1
  have m_3 : (0, 0) ∈ RL := hmB 0 (by omega)
  obtain ⟨tx_4, fb_4, fe_4, hl1_4, hw2_4, q1_4, q2_4, q3_4, q4_4, hws_4⟩ := id (hLi)
  have c_5 : E 0 1 = .inr (1, [.ref (ad 0 2), .ref (ad 0 3), .ref (ad 0 4), .int (nI len), .int (nI wn)]) := q1_4
  have m_6 : (0, 1) ∈ RL := hmB 1 (by omega)
  have c_7 : E 0 2 = .inl (kA 1, 40, .inl tx_4) := q2_4
  have m_8 : (0, 2) ∈ RL := hmB 2 (by omega)
  have c_9 : E 0 3 = .inl (kA 0, 20, .inl fb_4) := q3_4
  have m_10 : (0, 3) ∈ RL := hmB 3 (by omega)
  have c_11 : E 0 4 = .inl (kA 0, 20, .inl fe_4) := q4_4
  have m_12 : (0, 4) ∈ RL := hmB 4 (by omega)
  obtain ⟨fd_13, hnd_13, q5_13, q6_13, hds_13⟩ := id (hSh)
  have c_14 : E 0 5 = .inr (2, [.ref (ad 0 6), .int (nI nd)]) := q5_13
  have m_15 : (0, 5) ∈ RL := hmB 5 (by omega)
  have c_16 : E 0 6 = .inl (kA 4, 12, .inr (.inr (.inr (.inr fd_13)))) := q6_13
  have m_17 : (0, 6) ∈ RL := hmB 6 (by omega)
  obtain ⟨cf_18, pv_18, fc_18, hcs_18, hpv_18, q7_18, q8_18, hfc_18⟩ := id (hCh)
  have c_19 : E 0 7 = .inr (3, [.ref (ad 0 5), .ref (ad 0 8), .int (nI (L.length)), .int cf_18, pv_18]) := q7_18
  have m_20 : (0, 7) ∈ RL := hmB 7 (by omega)
  have c_21 : E 0 8 = .inl (kA 4, 12, .inr (.inr (.inr (.inr fc_18)))) := q8_18
  have m_22 : (0, 8) ∈ RL := hmB 8 (by omega)
  obtain ⟨fl_23, hml_23, q9_23, hla_23⟩ := id (hLa)
  have c_24 : E 0 9 = .inl (kA 5, 5, .inr (.inr (.inr (.inr fl_23)))) := q9_23
  have m_25 : (0, 9) ∈ RL := hmB 9 (by omega)
  obtain ⟨xfi_18, xpv_18, xfc_18, xGL_18⟩ := id hCX
  rw [c_19] at xfi_18 xpv_18
  rw [c_21] at xfc_18
  have xfi_18 : cf_18 = fi := xfi_18
  have xpv_18 : pv_18 = lyv ad lq := xpv_18
  have xfc_18 : ∀ k, k < L.length → fc_18 k = some (ad (1 + L.getD k 0) 0) := xfc_18
  have xln_18 := GL_len xGL_18
  refine lv_iconst (v := 0) hx hb xd_Ch_bindProvidersOf_0 (by decide) ?_
  refine lv_istore_n hx hb xd_Ch_bindProvidersOf_1 rfl hl (Nat.le_of_ble_eq_true rfl) rfl (fun ls hl => ?_)
  have hl : lv_has ls 5 [(2, .int 0), (0, .ref (ad 0 7)), (1, .int sv)] := hl
  refine xlab (σ := Nat × (Nat → Nat → va_E) × List Nat) (ml := 5) 2 (fun (i, E1, L1) => [(2, .int (nI i)), (1, .int sv), (0, .ref (ad 0 7))]) (fun (i, E1, L1) => []) (fun (i, E1, L1) => rp ad E1 RL) (fun (i, E1, L1) => (i ≤ nd) ∧ (bSv g nd fi lq sv L = bD (adG g nd fi lq) (g 4) (okB g fi sv) (nd - i) i L1) ∧ (CI kA ad E1 RL ml nd len wn L1.length) ∧ (CX ad E1 nd fi lq L1) ∧ (F78 E E1)) (fun (i, E1, L1) => nd - i) ?_ (0, E, L) _ _ _ (lv_sub hl [0, 2, 1] rfl) hP hD hS ⟨(show 0 ≤ nd from by first | assumption | omega), (show bSv g nd fi lq sv L = bD (adG g nd fi lq) (g 4) (okB g fi sv) (nd - 0) 0 L from (show bSv g nd fi lq sv L = _ from by unfold bSv; rfl)), (show CI kA ad E RL ml nd len wn L.length from hCI), (show CX ad E nd fi lq L from hCX), (show F78 E E from F78_rf)⟩
  intro n9 ih26 a9 ls H locs hμ hl hP hD hS hI
  subst hμ
  obtain ⟨i, E1, L1⟩ := a9
  obtain ⟨hi, hB, hCI, hCX1, hF1⟩ := hI
  have hi : i ≤ nd := hi
  have hB : bSv g nd fi lq sv L = bD (adG g nd fi lq) (g 4) (okB g fi sv) (nd - i) i L1 := hB
  have hCI : CI kA ad E1 RL ml nd len wn L1.length := hCI
  have hCX1 : CX ad E1 nd fi lq L1 := hCX1
  have hF1 : F78 E E1 := hF1
  have hl : lv_has ls 5 [(2, .int (nI i)), (1, .int sv), (0, .ref (ad 0 7))] := hl
  have hP : va_P D xcl (rp ad E1 RL) H := hP
  have hD : va_D A (rp ad E1 RL) := hD
  obtain ⟨hmB, hDk, hLi, hSh, hCh, hLa, hDIs, hLIs⟩ := id hCI
  obtain ⟨lf_27, q_27⟩ := id (hDk)
  have c_28 : E1 0 0 = .inr (0, [.ref (ad 0 1), .ref (ad 0 5), .ref (ad 0 7), .ref (ad 0 9), .int (nI ml), .int lf_27]) := q_27
  have m_29 : (0, 0) ∈ RL := hmB 0 (by omega)
  obtain ⟨tx_30, fb_30, fe_30, hl1_30, hw2_30, q1_30, q2_30, q3_30, q4_30, hws_30⟩ := id (hLi)
  have c_31 : E1 0 1 = .inr (1, [.ref (ad 0 2), .ref (ad 0 3), .ref (ad 0 4), .int (nI len), .int (nI wn)]) := q1_30
  have m_32 : (0, 1) ∈ RL := hmB 1 (by omega)
  have c_33 : E1 0 2 = .inl (kA 1, 40, .inl tx_30) := q2_30
  have m_34 : (0, 2) ∈ RL := hmB 2 (by omega)
  have c_35 : E1 0 3 = .inl (kA 0, 20, .inl fb_30) := q3_30
  have m_36 : (0, 3) ∈ RL := hmB 3 (by omega)
  have c_37 : E1 0 4 = .inl (kA 0, 20, .inl fe_30) := q4_30
  have m_38 : (0, 4) ∈ RL := hmB 4 (by omega)
  obtain ⟨fd_39, hnd_39, q5_39, q6_39, hds_39⟩ := id (hSh)
  have c_40 : E1 0 5 = .inr (2, [.ref (ad 0 6), .int (nI nd)]) := q5_39
  have m_41 : (0, 5) ∈ RL := hmB 5 (by omega)
  have c_42 : E1 0 6 = .inl (kA 4, 12, .inr (.inr (.inr (.inr fd_39)))) := q6_39
  have m_43 : (0, 6) ∈ RL := hmB 6 (by omega)
  obtain ⟨cf_44, pv_44, fc_44, hcs_44, hpv_44, q7_44, q8_44, hfc_44⟩ := id (hCh)
  have c_45 : E1 0 7 = .inr (3, [.ref (ad 0 5), .ref (ad 0 8), .int (nI (L1.length)), .int cf_44, pv_44]) := q7_44
  have m_46 : (0, 7) ∈ RL := hmB 7 (by omega)
  have c_47 : E1 0 8 = .inl (kA 4, 12, .inr (.inr (.inr (.inr fc_44)))) := q8_44
  have m_48 : (0, 8) ∈ RL := hmB 8 (by omega)
  obtain ⟨fl_49, hml_49, q9_49, hla_49⟩ := id (hLa)
  have c_50 : E1 0 9 = .inl (kA 5, 5, .inr (.inr (.inr (.inr fl_49)))) := q9_49
  have m_51 : (0, 9) ∈ RL := hmB 9 (by omega)
  have hTD1 : TDs g E1 nd := TDs_78 hF1 hTD
  have hTL1 : TLas g ad E1 nd ml := TLas_78 hF1 hTL
  obtain ⟨xfi_44, xpv_44, xfc_44, xGL_44⟩ := id hCX1
  rw [c_45] at xfi_44 xpv_44
  rw [c_47] at xfc_44
  have xfi_44 : cf_44 = fi := xfi_44
  have xpv_44 : pv_44 = lyv ad lq := xpv_44
  have xfc_44 : ∀ k, k < L1.length → fc_44 k = some (ad (1 + L1.getD k 0) 0) := xfc_44
  have xln_44 := GL_len xGL_44
  refine lv_iload_n hx hb xd_Ch_bindProvidersOf_2 rfl (lv_at hl 0 rfl) ?_
  refine lv_aload_n hx hb xd_Ch_bindProvidersOf_3 rfl (lv_at hl 2 rfl) ?_
  refine px_get (D := D) (ci := 3) (v := .ref (ad 0 5)) (C := xR_Ch) (T := xT_Ch) (N := 5) hx hb hT xi_Ch hown hK.1 hP m_46 c_45 rfl 0 (by decide) (hT _ k5n_5) (fun _ h9 => h9) rfl xd_Ch_bindProvidersOf_4 ?_
  refine px_get (D := D) (ci := 2) (v := .int (nI nd)) (C := xR_Sh) (T := xT_Sh) (N := 2) hx hb hT xi_Sh hown hK.1 hP m_41 c_40 rfl 1 (by decide) (hT _ k5n_6) (fun _ h9 => h9) rfl xd_Ch_bindProvidersOf_7 ?_
  refine xn_ge (a := i) (b := nd) (tgt := 83) hx hb xd_Ch_bindProvidersOf_10 (by decide) (by omega) (by omega) (fun hc52 => ?_) (fun hc52 => ?_)
  · exact W.vret hx hb hr (fun t ht hW => ⟨⟨E1, rfl, ⟨L1, hCI, hCX1, hF1, by rw [hB, bD_e (by omega)]⟩, by rw [ht]; exact hP, hD⟩, hS.F ht⟩) hS.2.2 xd_Ch_bindProvidersOf_83
  · refine lv_aload_n hx hb xd_Ch_bindProvidersOf_13 rfl (lv_at hl 2 rfl) ?_
    refine px_get (D := D) (ci := 3) (v := .ref (ad 0 5)) (C := xR_Ch) (T := xT_Ch) (N := 5) hx hb hT xi_Ch hown hK.1 hP m_46 c_45 rfl 0 (by decide) (hT _ k5n_5) (fun _ h9 => h9) rfl xd_Ch_bindProvidersOf_14 ?_
    refine px_get (D := D) (ci := 2) (v := .ref (ad 0 6)) (C := xR_Sh) (T := xT_Sh) (N := 2) hx hb hT xi_Sh hown hK.1 hP m_41 c_40 rfl 0 (by decide) (hT _ k5n_7) (fun _ h9 => h9) rfl xd_Ch_bindProvidersOf_17 ?_
    refine lv_iload_n hx hb xd_Ch_bindProvidersOf_20 rfl (lv_at hl 0 rfl) ?_
    refine px_aald (i := i) (x := (some (ad (1 + i) 0))) hx hb hK.1 hP m_43 c_42 4 rfl (hds_39 i (by omega)) (by omega) (by decide) xd_Ch_bindProvidersOf_21 ?_
    obtain ⟨hm_53, fd_53, nm_53, sd_53, k0_53, k1_53, k2_53, k3_53, f0_53, f1_53, f2_53, f3_53, fe_53, fo_53, tr_53, op_53, hk0_53, hk1_53, hk2_53, hk3_53, q0_53, q1_53, q2_53, q3_53, q4_53, q5_53, q6_53, q7_53, q8_53, q9_53, q10_53, q11_53, q12_53, hg_53⟩ := id (hDIs i (by omega))
    have c_54 : E1 (1 + i) 0 = .inr (7, [.int (nI i), .int fd_53, .int nm_53, .ref (ad (1 + i) 1), .ref (ad (1 + i) 9), .ref (ad (1 + i) 10), .ref (ad (1 + i) 2), .ref (ad (1 + i) 11), .ref (ad (1 + i) 12), .ref (ad (1 + i) 3), .ref (ad (1 + i) 4), .int sd_53]) := q0_53
    have m_55 : (1 + i, 0) ∈ RL := hm_53 0 (by omega)
    have c_56 : E1 (1 + i) 1 = .inr (8, [.ref (ad (1 + i) 5), .int (nI k0_53)]) := q1_53
    have m_57 : (1 + i, 1) ∈ RL := hm_53 1 (by omega)
    have c_58 : E1 (1 + i) 2 = .inr (8, [.ref (ad (1 + i) 6), .int (nI k1_53)]) := q2_53
    have m_59 : (1 + i, 2) ∈ RL := hm_53 2 (by omega)
    have c_60 : E1 (1 + i) 3 = .inr (8, [.ref (ad (1 + i) 7), .int (nI k2_53)]) := q3_53
    have m_61 : (1 + i, 3) ∈ RL := hm_53 3 (by omega)
    have c_62 : E1 (1 + i) 4 = .inr (8, [.ref (ad (1 + i) 8), .int (nI k3_53)]) := q4_53
    have m_63 : (1 + i, 4) ∈ RL := hm_53 4 (by omega)
    have c_64 : E1 (1 + i) 5 = .inl (kA 0, 6, .inl f0_53) := q5_53
    have m_65 : (1 + i, 5) ∈ RL := hm_53 5 (by omega)
    have c_66 : E1 (1 + i) 6 = .inl (kA 0, 5, .inl f1_53) := q6_53
    have m_67 : (1 + i, 6) ∈ RL := hm_53 6 (by omega)
    have c_68 : E1 (1 + i) 7 = .inl (kA 0, 3, .inl f2_53) := q7_53
    have m_69 : (1 + i, 7) ∈ RL := hm_53 7 (by omega)
    have c_70 : E1 (1 + i) 8 = .inl (kA 0, 3, .inl f3_53) := q8_53
    have m_71 : (1 + i, 8) ∈ RL := hm_53 8 (by omega)
    have c_72 : E1 (1 + i) 9 = .inl (kA 8, 6, .inr (.inr (.inr (.inr fe_53)))) := q9_53
    have m_73 : (1 + i, 9) ∈ RL := hm_53 9 (by omega)
    have c_74 : E1 (1 + i) 10 = .inl (kA 8, 6, .inr (.inr (.inr (.inr fo_53)))) := q10_53
    have m_75 : (1 + i, 10) ∈ RL := hm_53 10 (by omega)
    have c_76 : E1 (1 + i) 11 = .inl (kA 2, 5, .inl tr_53) := q11_53
    have m_77 : (1 + i, 11) ∈ RL := hm_53 11 (by omega)
    have c_78 : E1 (1 + i) 12 = .inl (kA 2, 5, .inl op_53) := q12_53
    have m_79 : (1 + i, 12) ∈ RL := hm_53 12 (by omega)
    have hg_53 : ∀ w9, w9 < k0_53 → fe_53 w9 = some (ad (1 + i) (20 + 3 * w9)) ∧ fo_53 w9 = some (ad (1 + i) (38 + 3 * w9)) ∧ GI kA (ad (1 + i)) (E1 (1 + i)) (fun o => (1 + i, o) ∈ RL) (20 + 3 * w9) (21 + 3 * w9) (22 + 3 * w9) ∧ GI kA (ad (1 + i)) (E1 (1 + i)) (fun o => (1 + i, o) ∈ RL) (38 + 3 * w9) (39 + 3 * w9) (40 + 3 * w9) := hg_53
    obtain ⟨hTT_53, tgr_53⟩ := TD_get hk0_53 hk1_53 hk2_53 hk3_53 c_54 c_56 c_58 c_60 c_62 c_64 c_66 c_68 c_70 c_76 c_78 (hTD1 i (by omega))
    obtain ⟨tfd_53, tnm_53, tsd_53, tk0_53, tf0_53, tk1_53, tf1_53, tk2_53, tk3_53⟩ := id hTT_53
    have ik0_53 : iN (g 5 i) = k0_53 := by rw [← tk0_53, iN_nI (by omega)]
    have ik1_53 : iN (g 12 i) = k1_53 := by rw [← tk1_53, iN_nI (by omega)]
    refine lv_astore_n hx hb xd_Ch_bindProvidersOf_22 rfl hl (Nat.le_of_ble_eq_true rfl) rfl (fun ls hl => ?_)
    have hl : lv_has ls 5 [(3, .ref (ad (1 + i) 0)), (2, .int (nI i)), (1, .int sv), (0, .ref (ad 0 7))] := hl
    refine lv_aload_n hx hb xd_Ch_bindProvidersOf_23 rfl (lv_at hl 3 rfl) ?_
    refine px_get (D := D) (ci := 3) (v := .int (nI (L1.length))) (C := xR_Ch) (T := xT_Ch) (N := 5) hx hb hT xi_Ch hown hK.1 hP m_46 c_45 rfl 2 (by decide) (hT _ k5n_8) (fun _ h9 => h9) rfl xd_Ch_bindProvidersOf_24 ?_
    refine lv_istore hx hb xd_Ch_bindProvidersOf_27 hl (Nat.le_of_ble_eq_true rfl) rfl (fun ls hl => ?_)
    have hl : lv_has ls 5 [(4, .int (nI (L1.length))), (3, .ref (ad (1 + i) 0)), (2, .int (nI i)), (1, .int sv), (0, .ref (ad 0 7))] := hl
    refine lv_aload_n hx hb xd_Ch_bindProvidersOf_29 rfl (lv_at hl 1 rfl) ?_
    refine px_get (D := D) (ci := 7) (v := .int fd_53) (C := xR_Ds) (T := xT_Ds) (N := 12) hx hb hT xi_Ds hown hK.1 hP m_55 c_54 rfl 1 (by decide) (hT _ k5n_9) (fun _ h9 => h9) rfl xd_Ch_bindProvidersOf_30 ?_
    refine lv_aload_n hx hb xd_Ch_bindProvidersOf_33 rfl (lv_at hl 4 rfl) ?_
    refine px_get (D := D) (ci := 3) (v := .int cf_44) (C := xR_Ch) (T := xT_Ch) (N := 5) hx hb hT xi_Ch hown hK.1 hP m_46 c_45 rfl 3 (by decide) (hT _ k5n_10) (fun _ h9 => h9) rfl xd_Ch_bindProvidersOf_34 ?_
    refine lv_icmp_ne (tgt := 77) hx hb xd_Ch_bindProvidersOf_37 (by decide) (fun hc80 => ?_) (fun hc80 => ?_)
    · refine lv_iinc (k := 2) (x := (nI i)) (v := (nI (i + 1))) hx hb xd_Ch_bindProvidersOf_77 hl rfl (xb_inc i 1) (Nat.le_of_ble_eq_true rfl) rfl (fun ls hl => ?_)
      have hl : lv_has ls 5 [(2, .int (nI (i + 1))), (4, .int (nI (L1.length))), (3, .ref (ad (1 + i) 0)), (1, .int sv), (0, .ref (ad 0 7))] := hl
      refine lv_goto (tgt := 2) hx hb xd_Ch_bindProvidersOf_80 (by decide) ?_
      exact ih26 (i + 1, E1, L1) _ _ _ (show nd - (i + 1) < nd - i by omega) (lv_sub hl [0, 3, 4] rfl) hP hD hS ⟨(show (i + 1) ≤ nd from by first | assumption | omega), (show bSv g nd fi lq sv L = bD (adG g nd fi lq) (g 4) (okB g fi sv) (nd - (i + 1)) (i + 1) L1 from by rw [hB, bD_s (by omega), bE_no (fun q => hc80 (tfd_53.trans (q.1.1.trans xfi_44.symm)))]), (show CI kA ad E1 RL ml nd len wn L1.length from hCI), (show CX ad E1 nd fi lq L1 from hCX1), (show F78 E E1 from hF1)⟩
    · refine lv_aload_n hx hb xd_Ch_bindProvidersOf_40 rfl (lv_at hl 1 rfl) ?_
      refine px_get (D := D) (ci := 7) (v := .ref (ad (1 + i) 4)) (C := xR_Ds) (T := xT_Ds) (N := 12) hx hb hT xi_Ds hown hK.1 hP m_55 c_54 rfl 10 (by decide) (hT _ k5n_11) (fun _ h9 => h9) rfl xd_Ch_bindProvidersOf_41 ?_
      refine lv_iload_n hx hb xd_Ch_bindProvidersOf_44 rfl (lv_at hl 3 rfl) ?_
      have hFc := px_free hD hS hA
      refine va_calli (va_runV (As := [.int sv]) (rest := []) ⟨hx, hb, hml, hown, hT⟩ (xc_Na_holds l D kA H.size ad E1 RL (1 + i) 4 8 3 k3_53 f3_53 sv m_63 c_62 m_71 c_70 (by first | assumption | omega) (by first | assumption | omega)) (cwV 1 hT (wT_V k5n_13 k5n_14 k5n_15 k5n_16 k5n_12) rfl rfl rfl (by decide +kernel) ⟨Nat.le_of_ble_eq_true rfl, Nat.le_of_ble_eq_true rfl⟩) (px_preV hK hP hD m_63 c_62 rfl) rfl rfl hl.1 rfl (lv_room (Nat.le_of_ble_eq_true rfl)) xd_Ch_bindProvidersOf_45 ⟨(Nat.le_of_ble_eq_true rfl), (Nat.le_of_ble_eq_true rfl)⟩) hS (fun q _ h => hFc q h) hFc (fun r81 u82 t H1 locs ht hvm hp83 hB hz1 hk1 hS => ?_)
      obtain ⟨hP1, hD1⟩ := hB
      rw [ht] at hP1
      have hD1 := hD1.weaken (fun _ _ _ h => hFc _ h)
      generalize H1 = H at hP1 hS ⊢
      have hP := hP1
      have hD := hD1
      have hP : va_P D xcl (rp ad E1 RL) H := hP
      have hD : va_D A (rp ad E1 RL) := hD
      rcases hp83 with ⟨rfl, z84, z85, z86⟩ | ⟨rfl, z87⟩
      · refine W.eq (g2 := F0 m 48 ls [.int 1]) rfl ?_
        refine lv_if_eq (tgt := 77) hx hb xd_Ch_bindProvidersOf_48 (by decide) (fun hc88 => absurd hc88 (by decide)) (fun _ => ?_)
        refine lv_aload_n hx hb xd_Ch_bindProvidersOf_51 rfl (lv_at hl 4 rfl) ?_
        refine lv_aload_n hx hb xd_Ch_bindProvidersOf_52 rfl (lv_at hl 1 rfl) ?_
        have hFc := px_free hD hS hA
        refine va_calli (va_runV (As := [.ref (ad (1 + i) 0)]) (rest := []) ⟨hx, hb, hml, hown, hT⟩ (xc_Ch_isChosenX l D kA H.size ad E1 RL g ml nd len wn fi lq L1 i (by first | assumption | omega) (by first | assumption | omega) (by first | assumption | omega)) (cwV 1 hT (wT_V k5n_18 k5n_19 k5n_20 k5n_4 k5n_17) rfl rfl rfl (by decide +kernel) ⟨Nat.le_of_ble_eq_true rfl, Nat.le_of_ble_eq_true rfl⟩) (px_preV hK hP hD m_46 c_45 rfl) rfl rfl hl.1 rfl (lv_room (Nat.le_of_ble_eq_true rfl)) xd_Ch_bindProvidersOf_53 ⟨(Nat.le_of_ble_eq_true rfl), (Nat.le_of_ble_eq_true rfl)⟩) hS (fun q _ h => hFc q h) hFc (fun r89 u90 t H1 locs ht hvm hp91 hB hz1 hk1 hS => ?_)
        obtain ⟨hP1, hD1⟩ := hB
        rw [ht] at hP1
        have hD1 := hD1.weaken (fun _ _ _ h => hFc _ h)
        generalize H1 = H at hP1 hS ⊢
        have hP := hP1
        have hD := hD1
        have hP : va_P D xcl (rp ad E1 RL) H := hP
        have hD : va_D A (rp ad E1 RL) := hD
        rcases hp91 with ⟨rfl, z92⟩ | ⟨rfl, z93⟩
        · refine W.eq (g2 := F0 m 56 ls [.int 1]) rfl ?_
          refine lv_if_ne (tgt := 77) hx hb xd_Ch_bindProvidersOf_56 (by decide) (fun _ => ?_) (fun hc94 => absurd hc94 (by decide))
          refine lv_iinc (k := 2) (x := (nI i)) (v := (nI (i + 1))) hx hb xd_Ch_bindProvidersOf_77 hl rfl (xb_inc i 1) (Nat.le_of_ble_eq_true rfl) rfl (fun ls hl => ?_)
          have hl : lv_has ls 5 [(2, .int (nI (i + 1))), (4, .int (nI (L1.length))), (3, .ref (ad (1 + i) 0)), (1, .int sv), (0, .ref (ad 0 7))] := hl
          refine lv_goto (tgt := 2) hx hb xd_Ch_bindProvidersOf_80 (by decide) ?_
          exact ih26 (i + 1, E1, L1) _ _ _ (show nd - (i + 1) < nd - i by omega) (lv_sub hl [0, 3, 4] rfl) hP hD hS ⟨(show (i + 1) ≤ nd from by first | assumption | omega), (show bSv g nd fi lq sv L = bD (adG g nd fi lq) (g 4) (okB g fi sv) (nd - (i + 1)) (i + 1) L1 from by rw [hB, bD_s (by omega), bE_no (fun q => q.2 z92)]), (show CI kA ad E1 RL ml nd len wn L1.length from hCI), (show CX ad E1 nd fi lq L1 from hCX1), (show F78 E E1 from hF1)⟩
        · refine W.eq (g2 := F0 m 56 ls [.int 0]) rfl ?_
          refine lv_if_ne (tgt := 77) hx hb xd_Ch_bindProvidersOf_56 (by decide) (fun hc95 => absurd (by decide) hc95) (fun _ => ?_)
          refine lv_aload_n hx hb xd_Ch_bindProvidersOf_59 rfl (lv_at hl 4 rfl) ?_
          refine lv_aload_n hx hb xd_Ch_bindProvidersOf_60 rfl (lv_at hl 1 rfl) ?_
          refine px_get (D := D) (ci := 7) (v := .int nm_53) (C := xR_Ds) (T := xT_Ds) (N := 12) hx hb hT xi_Ds hown hK.1 hP m_55 c_54 rfl 2 (by decide) (hT _ k5n_21) (fun _ h9 => h9) rfl xd_Ch_bindProvidersOf_61 ?_
          refine lv_iconst (v := 0) hx hb xd_Ch_bindProvidersOf_64 (by decide) ?_
          have hFc := px_free hD hS hA
          refine va_calli (va_runV (As := [.int nm_53, .int 0]) (rest := []) ⟨hx, hb, hml, hown, hT⟩ (xc_Ch_addNameX l D kA H.size ad E1 RL g ml nd len wn fi lq L1 nm_53 (by first | assumption | omega) hCX1 hTD1 hTL1 (by first | assumption | omega)) (cwV 2 hT (wT_V k5n_1 k5n_2 k5n_3 k5n_4 k5n_0) rfl rfl rfl (by decide +kernel) ⟨Nat.le_of_ble_eq_true rfl, Nat.le_of_ble_eq_true rfl⟩) (px_preV hK hP hD m_46 c_45 rfl) rfl rfl hl.1 rfl (lv_room (Nat.le_of_ble_eq_true rfl)) xd_Ch_bindProvidersOf_65 ⟨(Nat.le_of_ble_eq_true rfl), (Nat.le_of_ble_eq_true rfl)⟩) hS (fun q _ h => hFc q h) hFc (fun r96 u97 t H1 locs ht hvm hp98 hB hz1 hk1 hS => ?_)
          obtain ⟨hP1, hD1⟩ := hB
          rw [ht] at hP1
          have hD1 := hD1.weaken (fun _ _ _ h => hFc _ h)
          generalize H1 = H at hP1 hS ⊢
          have hP := hP1
          have hD := hD1
          obtain ⟨E99, rfl⟩ : ∃ z, z = u97 := ⟨_, rfl⟩
          have hP : va_P D xcl (rp ad E99 RL) H := hP
          have hD : va_D A (rp ad E99 RL) := hD
          obtain ⟨L2, hCI, hCX2, hF9, hres⟩ := hp98
          have hCI : CI kA ad E99 RL ml nd len wn L2.length := hCI
          have hF2 : F78 E E99 := F78_tr hF1 hF9
          obtain ⟨hmB, hDk, hLi, hSh, hCh, hLa, hDIs, hLIs⟩ := id hCI
          rw [tnm_53] at hres
          rcases hres with ⟨rfl, hok9⟩ | ⟨rfl, hok9⟩
          · have hok8 := hok9
            refine lv_if_ne (tgt := 77) hx hb xd_Ch_bindProvidersOf_68 (by decide) (fun _ => ?_) (fun hc100 => absurd hc100 (by decide))
            refine lv_iinc (k := 2) (x := (nI i)) (v := (nI (i + 1))) hx hb xd_Ch_bindProvidersOf_77 hl rfl (xb_inc i 1) (Nat.le_of_ble_eq_true rfl) rfl (fun ls hl => ?_)
            have hl : lv_has ls 5 [(2, .int (nI (i + 1))), (4, .int (nI (L1.length))), (3, .ref (ad (1 + i) 0)), (1, .int sv), (0, .ref (ad 0 7))] := hl
            refine lv_goto (tgt := 2) hx hb xd_Ch_bindProvidersOf_80 (by decide) ?_
            exact ih26 (i + 1, E99, L2) _ _ _ (show nd - (i + 1) < nd - i by omega) (lv_sub hl [0, 3, 4] rfl) hP hD hS ⟨(show (i + 1) ≤ nd from by first | assumption | omega), (show bSv g nd fi lq sv L = bD (adG g nd fi lq) (g 4) (okB g fi sv) (nd - (i + 1)) (i + 1) L2 from by rw [hB, bD_s (by omega), bE_t ⟨tfd_53.symm.trans (hc80.trans xfi_44), (gv_iff hk3_53 hsv tk3_53).mp ⟨z84, z85, z86⟩⟩ z93 hok9]), (show CI kA ad E99 RL ml nd len wn L2.length from hCI), (show CX ad E99 nd fi lq L2 from hCX2), (show F78 E E99 from hF2)⟩
          · have hok8 := hok9
            refine lv_if_ne (tgt := 77) hx hb xd_Ch_bindProvidersOf_68 (by decide) (fun hc101 => absurd (by decide) hc101) (fun _ => ?_)
            obtain ⟨hmB, hDk, hLi, hSh, hCh, hLa, hDIs, hLIs⟩ := id hCI
            obtain ⟨lf_102, q_102⟩ := id (hDk)
            have c_103 : E99 0 0 = .inr (0, [.ref (ad 0 1), .ref (ad 0 5), .ref (ad 0 7), .ref (ad 0 9), .int (nI ml), .int lf_102]) := q_102
            have m_104 : (0, 0) ∈ RL := hmB 0 (by omega)
            obtain ⟨tx_105, fb_105, fe_105, hl1_105, hw2_105, q1_105, q2_105, q3_105, q4_105, hws_105⟩ := id (hLi)
            have c_106 : E99 0 1 = .inr (1, [.ref (ad 0 2), .ref (ad 0 3), .ref (ad 0 4), .int (nI len), .int (nI wn)]) := q1_105
            have m_107 : (0, 1) ∈ RL := hmB 1 (by omega)
            have c_108 : E99 0 2 = .inl (kA 1, 40, .inl tx_105) := q2_105
            have m_109 : (0, 2) ∈ RL := hmB 2 (by omega)
            have c_110 : E99 0 3 = .inl (kA 0, 20, .inl fb_105) := q3_105
            have m_111 : (0, 3) ∈ RL := hmB 3 (by omega)
            have c_112 : E99 0 4 = .inl (kA 0, 20, .inl fe_105) := q4_105
            have m_113 : (0, 4) ∈ RL := hmB 4 (by omega)
            obtain ⟨fd_114, hnd_114, q5_114, q6_114, hds_114⟩ := id (hSh)
            have c_115 : E99 0 5 = .inr (2, [.ref (ad 0 6), .int (nI nd)]) := q5_114
            have m_116 : (0, 5) ∈ RL := hmB 5 (by omega)
            have c_117 : E99 0 6 = .inl (kA 4, 12, .inr (.inr (.inr (.inr fd_114)))) := q6_114
            have m_118 : (0, 6) ∈ RL := hmB 6 (by omega)
            obtain ⟨cf_119, pv_119, fc_119, hcs_119, hpv_119, q7_119, q8_119, hfc_119⟩ := id (hCh)
            have c_120 : E99 0 7 = .inr (3, [.ref (ad 0 5), .ref (ad 0 8), .int (nI (L2.length)), .int cf_119, pv_119]) := q7_119
            have m_121 : (0, 7) ∈ RL := hmB 7 (by omega)
            have c_122 : E99 0 8 = .inl (kA 4, 12, .inr (.inr (.inr (.inr fc_119)))) := q8_119
            have m_123 : (0, 8) ∈ RL := hmB 8 (by omega)
            obtain ⟨fl_124, hml_124, q9_124, hla_124⟩ := id (hLa)
            have c_125 : E99 0 9 = .inl (kA 5, 5, .inr (.inr (.inr (.inr fl_124)))) := q9_124
            have m_126 : (0, 9) ∈ RL := hmB 9 (by omega)
            obtain ⟨xfi_119, xpv_119, xfc_119, xGL_119⟩ := id hCX2
            rw [c_120] at xfi_119 xpv_119
            rw [c_122] at xfc_119
            have xfi_119 : cf_119 = fi := xfi_119
            have xpv_119 : pv_119 = lyv ad lq := xpv_119
            have xfc_119 : ∀ k, k < L2.length → fc_119 k = some (ad (1 + L2.getD k 0) 0) := xfc_119
            have xln_119 := GL_len xGL_119
            refine lv_aload_n hx hb xd_Ch_bindProvidersOf_71 rfl (lv_at hl 4 rfl) ?_
            refine lv_iload hx hb xd_Ch_bindProvidersOf_72 (lv_at hl 0 rfl) ?_
            refine px_put (D := D) (ci := 3) (v := .int (nI (L1.length))) (ty := .int) (C := xR_Ch) (T := xT_Ch) (N := 5) hx hb hT xi_Ch xt_Ch xt_Ch_ok xn_Ch hown hK.1 hP hD hS m_121 c_120 rfl 2 (by decide) (hT _ k5n_8) (fun _ h9 => h9) rfl (by decide +kernel) rfl rfl (Nat.le_of_ble_eq_true rfl) xd_Ch_bindProvidersOf_74 (fun H locs hP hD hS => ?_)
            have hP : va_P D xcl (rp ad (up2 E99 0 7 (.inr (3, [.ref (ad 0 5), .ref (ad 0 8), .int (nI (L1.length)), .int cf_119, pv_119]))) RL) H := hP
            have hD : va_D A (rp ad (up2 E99 0 7 (.inr (3, [.ref (ad 0 5), .ref (ad 0 8), .int (nI (L1.length)), .int cf_119, pv_119]))) RL) := hD
            generalize hE128 : up2 E99 0 7 (.inr (3, [.ref (ad 0 5), .ref (ad 0 8), .int (nI (L1.length)), .int cf_119, pv_119])) = E127 at hP hD
            have fE129 : ∀ b2 o2, ¬ (b2 = 0 ∧ o2 = 7) → E127 b2 o2 = E99 b2 o2 := fun b2 o2 h9 => by rw [← hE128]; exact up2_ne (by omega)
            have c_130 : E127 0 7 = .inr (3, [.ref (ad 0 5), .ref (ad 0 8), .int (nI (L1.length)), .int cf_119, pv_119]) := by rw [← hE128]; exact up2_eq
            have c_131 : E127 0 0 = .inr (0, [.ref (ad 0 1), .ref (ad 0 5), .ref (ad 0 7), .ref (ad 0 9), .int (nI ml), .int lf_102]) := (fE129 0 0 (by omega)).trans c_103
            have c_132 : E127 0 1 = .inr (1, [.ref (ad 0 2), .ref (ad 0 3), .ref (ad 0 4), .int (nI len), .int (nI wn)]) := (fE129 0 1 (by omega)).trans c_106
            have c_133 : E127 0 2 = .inl (kA 1, 40, .inl tx_105) := (fE129 0 2 (by omega)).trans c_108
            have c_134 : E127 0 3 = .inl (kA 0, 20, .inl fb_105) := (fE129 0 3 (by omega)).trans c_110
            have c_135 : E127 0 4 = .inl (kA 0, 20, .inl fe_105) := (fE129 0 4 (by omega)).trans c_112
            have c_136 : E127 0 5 = .inr (2, [.ref (ad 0 6), .int (nI nd)]) := (fE129 0 5 (by omega)).trans c_115
            have c_137 : E127 0 6 = .inl (kA 4, 12, .inr (.inr (.inr (.inr fd_114)))) := (fE129 0 6 (by omega)).trans c_117
            have c_138 : E127 0 8 = .inl (kA 4, 12, .inr (.inr (.inr (.inr fc_119)))) := (fE129 0 8 (by omega)).trans c_122
            have c_139 : E127 0 9 = .inl (kA 5, 5, .inr (.inr (.inr (.inr fl_124)))) := (fE129 0 9 (by omega)).trans c_125
            have hxp : ∃ T9, L2 = L1 ++ T9 := by
              obtain ⟨T9, hT9⟩ := aN_pre (ds := dsG g nd fi) (up := upG g lq) (rq := rqG g) (f := 12) (L := L1) (n := g 4 i)
              exact ⟨T9, (show L2 = _ from (congrArg Prod.snd hok9).symm.trans hT9)⟩
            obtain ⟨T9, hxT⟩ := hxp
            have hxle : L1.length ≤ L2.length := by rw [hxT, List.length_append]; omega
            have hCX2 : CX ad E127 nd fi lq L1 := ⟨by rw [c_130]; exact xfi_119, by rw [c_130]; exact xpv_119, by rw [c_138]; exact CX_cut hxT xfc_119, hCX1.2.2.2⟩
            have hF2 : F78 E E127 := F78_tr hF2 (fun b2 o2 h79 h89 => by show E127 b2 o2 = _; rw [fE129 b2 o2 (by omega)])
            have hCI : CI kA ad E127 RL ml nd len wn L1.length := ⟨hmB, ⟨lf_102, c_131⟩, ⟨tx_105, fb_105, fe_105, (by omega), (by omega), c_132, c_133, c_134, c_135, hws_105⟩, ⟨fd_114, (by omega), c_136, c_137, hds_114⟩, ⟨cf_119, pv_119, fc_119, (by omega), hpv_119, c_130, c_138, (FC_le hfc_119 (by omega))⟩, ⟨fl_124, (by omega), c_139, hla_124⟩, (DIs_same (fun d9 hd9 => fun2 fun o9 => by show E127 (1 + d9) o9 = _; rw [fE129 (1 + d9) o9 (by omega)]) (fun _ _ => rfl) (fun _ h9 => h9) hDIs), (LIs_same (Nat.le_refl _) (fun n9 hn9 => fun2 fun o9 => by show E127 (20 + n9) o9 = _; rw [fE129 (20 + n9) o9 (by omega)]) (fun _ _ => rfl) (fun _ _ => rfl) (fun _ h9 => h9) hLIs)⟩
            obtain ⟨hmB, hDk, hLi, hSh, hCh, hLa, hDIs, hLIs⟩ := id hCI
            refine lv_iinc (k := 2) (x := (nI i)) (v := (nI (i + 1))) hx hb xd_Ch_bindProvidersOf_77 hl rfl (xb_inc i 1) (Nat.le_of_ble_eq_true rfl) rfl (fun ls hl => ?_)
            have hl : lv_has ls 5 [(2, .int (nI (i + 1))), (4, .int (nI (L1.length))), (3, .ref (ad (1 + i) 0)), (1, .int sv), (0, .ref (ad 0 7))] := hl
            refine lv_goto (tgt := 2) hx hb xd_Ch_bindProvidersOf_80 (by decide) ?_
            exact ih26 (i + 1, E127, L1) _ _ _ (show nd - (i + 1) < nd - i by omega) (lv_sub hl [0, 3, 4] rfl) hP hD hS ⟨(show (i + 1) ≤ nd from by first | assumption | omega), (show bSv g nd fi lq sv L = bD (adG g nd fi lq) (g 4) (okB g fi sv) (nd - (i + 1)) (i + 1) L1 from by rw [hB, bD_s (by omega), bE_f hok9]), (show CI kA ad E127 RL ml nd len wn L1.length from hCI), (show CX ad E127 nd fi lq L1 from hCX2), (show F78 E E127 from hF2)⟩
      · refine W.eq (g2 := F0 m 48 ls [.int 0]) rfl ?_
        refine lv_if_eq (tgt := 77) hx hb xd_Ch_bindProvidersOf_48 (by decide) (fun _ => ?_) (fun hc140 => absurd (by decide) hc140)
        refine lv_iinc (k := 2) (x := (nI i)) (v := (nI (i + 1))) hx hb xd_Ch_bindProvidersOf_77 hl rfl (xb_inc i 1) (Nat.le_of_ble_eq_true rfl) rfl (fun ls hl => ?_)
        have hl : lv_has ls 5 [(2, .int (nI (i + 1))), (4, .int (nI (L1.length))), (3, .ref (ad (1 + i) 0)), (1, .int sv), (0, .ref (ad 0 7))] := hl
        refine lv_goto (tgt := 2) hx hb xd_Ch_bindProvidersOf_80 (by decide) ?_
        exact ih26 (i + 1, E1, L1) _ _ _ (show nd - (i + 1) < nd - i by omega) (lv_sub hl [0, 3, 4] rfl) hP hD hS ⟨(show (i + 1) ≤ nd from by first | assumption | omega), (show bSv g nd fi lq sv L = bD (adG g nd fi lq) (g 4) (okB g fi sv) (nd - (i + 1)) (i + 1) L1 from by rw [hB, bD_s (by omega), bE_no (fun q => by obtain ⟨k9, q1, q2⟩ := (gv_iff hk3_53 hsv tk3_53).mpr q.1.2; exact z87 k9 q1 q2)]), (show CI kA ad E1 RL ml nd len wn L1.length from hCI), (show CX ad E1 nd fi lq L1 from hCX1), (show F78 E E1 from hF1)⟩
theorem k5o_0 : (Cond.fieldLink "LayerDesk$Chooser" 94 "LayerDesk$Descriptor" "used" "LLayerDesk$Names;") ∈ wT := wT_t (List.mem_append_right _ (List.mem_append_left _ (List.mem_of_getElem? (i := 76) rfl))) rfl
theorem k5o_1 : (Cond.fieldLink "LayerDesk$Chooser" 74 "LayerDesk$Names" "size" "I") ∈ wT := wT_t (List.mem_append_right _ (List.mem_append_left _ (List.mem_of_getElem? (i := 37) rfl))) rfl
theorem k5o_2 : (Cond.code xy_Na_at xb_Na_at 2 (some .int)) ∈ wT := wT_t (List.mem_append_right _ (List.mem_append_right _ (List.mem_append_left _ (List.mem_of_getElem? (i := 93) rfl)))) rfl
theorem k5o_3 : (Cond.methodLink "LayerDesk$Chooser" 81 xy_Na_at) ∈ wT := wT_t (List.mem_append_right _ (List.mem_append_right _ (List.mem_append_left _ (List.mem_of_getElem? (i := 90) rfl)))) rfl
theorem k5o_4 : (Cond.instanceMethod xy_Na_at) ∈ wT := wT_t (List.mem_append_right _ (List.mem_append_right _ (List.mem_append_left _ (List.mem_of_getElem? (i := 91) rfl)))) rfl
theorem k5o_5 : (Cond.selects "LayerDesk$Names" xy_Na_at xy_Na_at) ∈ wT := wT_t (List.mem_append_right _ (List.mem_append_right _ (List.mem_append_left _ (List.mem_of_getElem? (i := 92) rfl)))) rfl
theorem k5o_6 : (Cond.initialized "LayerDesk$Names") ∈ wT := wT_t (List.mem_append_left _ (List.mem_of_getElem? (i := 11) rfl)) rfl
theorem k5o_7 : (Cond.code xy_Ch_bindProvidersOf xb_Ch_bindProvidersOf 5 none) ∈ wT := wT_t (List.mem_append_right _ (List.mem_append_right _ (List.mem_append_left _ (List.mem_of_getElem? (i := 125) rfl)))) rfl
theorem k5o_8 : (Cond.methodLink "LayerDesk$Chooser" 97 xy_Ch_bindProvidersOf) ∈ wT := wT_t (List.mem_append_right _ (List.mem_append_right _ (List.mem_append_left _ (List.mem_of_getElem? (i := 122) rfl)))) rfl
theorem k5o_9 : (Cond.instanceMethod xy_Ch_bindProvidersOf) ∈ wT := wT_t (List.mem_append_right _ (List.mem_append_right _ (List.mem_append_left _ (List.mem_of_getElem? (i := 124) rfl)))) rfl
theorem k5o_10 : (Cond.selects "LayerDesk$Chooser" xy_Ch_bindProvidersOf xy_Ch_bindProvidersOf) ∈ wT := wT_s (q := (xy_Ch_bindProvidersOf, 5)) (by decide +kernel) rfl
theorem k5o_11 : (Cond.initialized "LayerDesk$Chooser") ∈ wT := wT_t (List.mem_append_left _ (List.mem_of_getElem? (i := 4) rfl)) rfl
set_option maxHeartbeats 4000000 in
set_option maxRecDepth 100000 in
theorem xc_Ch_bindUsesOfX (l : Launch) (D : va_G) (kA : Nat → ClassId) (sz : Nat) (ad : Nat → Nat → Nat) (E : Nat → Nat → va_E) (RL : List (Nat × Nat)) (g : Nat → Nat → Int32) (ml : Nat) (nd : Nat) (len : Nat) (wn : Nat) (fi : Int32) (lq : Nat) (L : List Nat) (d : Nat) (hCI : CI kA ad E RL ml nd len wn L.length) (hCX : CX ad E nd fi lq L) (hTD : TDs g E nd) (hTL : TLas g ad E nd ml) (hlqm : lq ≤ ml) (hd : d < nd) : Met l xy_Ch_bindUsesOf (.code xy_Ch_bindUsesOf xb_Ch_bindUsesOf 3 none :: wT) { frames := 20, cells := 0, slots := 0, locals := 1218 } (va_Pc [.ref (ad 0 7), .ref (ad (1 + d) 0)] (xPre D kA sz (rp ad E RL))) (va_Qv (fun (u : Nat → Nat → va_E) => ∃ L2, CI kA ad u RL ml nd len wn L2.length ∧ CX ad u nd fi lq L2 ∧ F78 E u ∧ bUg g nd fi lq d L = L2) (fun (u : Nat → Nat → va_E) t => va_P D xcl (rp ad u RL) t.heap ∧ va_D (va_A (rp ad E RL) sz) (rp ad u RL)) (va_A (rp ad E RL) sz)) 0 0 (va_A (rp ad E RL) sz) := by
  refine Met.ofW (cc := xb_Ch_bindUsesOf) (maxL := 3) (ret := none) (by decide) rfl ?_
  intro p e s m args below meth c s₁ B hml hv
  obtain ⟨rfl, hsz, hP, hK, hD0⟩ := hv
  have hx := B.exec
  have hb := B.bytes
  have hr := B.returns
  have hT := x_hT B.pre
  have hown : s.vm.findClass xR_Ch = some m.cls := findClass_of_methodNamed B.named
  have hlocks := B.notSynchronized
  subst hsz
  have hD := hD0.self (sz := s.heap.size)
  generalize hAe : va_A (rp ad E RL) s.heap.size = A at hD ⊢
  have hA : ∀ q : Nat, s.heap.size ≤ q → A q := fun q h => by rw [← hAe]; exact Or.inr h
  have hS : va_S A s.heap s.heap [] := va_S.rf
  have hl := lv_entry ([.ref (ad 0 7), .ref (ad (1 + d) 0)]) (n := 3) (Nat.le_of_ble_eq_true rfl)
  rw [lg_entry_eq]
  generalize (lg_sl ([.ref (ad 0 7), .ref (ad (1 + d) 0)]) ++ List.replicate (3 - (lg_sl ([.ref (ad 0 7), .ref (ad (1 + d) 0)])).length) Slot.unset).toArray = ls at hl ⊢
  have hl : lv_has ls 3 [(0, .ref (ad 0 7)), (1, .ref (ad (1 + d) 0))] := hl
  have hP : va_P D xcl (rp ad E RL) s.heap := hP
  obtain ⟨hmB, hDk, hLi, hSh, hCh, hLa, hDIs, hLIs⟩ := id hCI
  obtain ⟨lf_1, q_1⟩ := id (hDk)
  have c_2 : E 0 0 = .inr (0, [.ref (ad 0 1), .ref (ad 0 5), .ref (ad 0 7), .ref (ad 0 9), .int (nI ml), .int lf_1]) := q_1
  have m_3 : (0, 0) ∈ RL := hmB 0 (by omega)
  obtain ⟨tx_4, fb_4, fe_4, hl1_4, hw2_4, q1_4, q2_4, q3_4, q4_4, hws_4⟩ := id (hLi)
  have c_5 : E 0 1 = .inr (1, [.ref (ad 0 2), .ref (ad 0 3), .ref (ad 0 4), .int (nI len), .int (nI wn)]) := q1_4
  have m_6 : (0, 1) ∈ RL := hmB 1 (by omega)
  have c_7 : E 0 2 = .inl (kA 1, 40, .inl tx_4) := q2_4
  have m_8 : (0, 2) ∈ RL := hmB 2 (by omega)
  have c_9 : E 0 3 = .inl (kA 0, 20, .inl fb_4) := q3_4
  have m_10 : (0, 3) ∈ RL := hmB 3 (by omega)
  have c_11 : E 0 4 = .inl (kA 0, 20, .inl fe_4) := q4_4
  have m_12 : (0, 4) ∈ RL := hmB 4 (by omega)
  obtain ⟨fd_13, hnd_13, q5_13, q6_13, hds_13⟩ := id (hSh)
  have c_14 : E 0 5 = .inr (2, [.ref (ad 0 6), .int (nI nd)]) := q5_13
  have m_15 : (0, 5) ∈ RL := hmB 5 (by omega)
  have c_16 : E 0 6 = .inl (kA 4, 12, .inr (.inr (.inr (.inr fd_13)))) := q6_13
  have m_17 : (0, 6) ∈ RL := hmB 6 (by omega)
  obtain ⟨cf_18, pv_18, fc_18, hcs_18, hpv_18, q7_18, q8_18, hfc_18⟩ := id (hCh)
  have c_19 : E 0 7 = .inr (3, [.ref (ad 0 5), .ref (ad 0 8), .int (nI (L.length)), .int cf_18, pv_18]) := q7_18
  have m_20 : (0, 7) ∈ RL := hmB 7 (by omega)
  have c_21 : E 0 8 = .inl (kA 4, 12, .inr (.inr (.inr (.inr fc_18)))) := q8_18
  have m_22 : (0, 8) ∈ RL := hmB 8 (by omega)
  obtain ⟨fl_23, hml_23, q9_23, hla_23⟩ := id (hLa)
  have c_24 : E 0 9 = .inl (kA 5, 5, .inr (.inr (.inr (.inr fl_23)))) := q9_23
  have m_25 : (0, 9) ∈ RL := hmB 9 (by omega)
  obtain ⟨xfi_18, xpv_18, xfc_18, xGL_18⟩ := id hCX
  rw [c_19] at xfi_18 xpv_18
  rw [c_21] at xfc_18
  have xfi_18 : cf_18 = fi := xfi_18
  have xpv_18 : pv_18 = lyv ad lq := xpv_18
  have xfc_18 : ∀ k, k < L.length → fc_18 k = some (ad (1 + L.getD k 0) 0) := xfc_18
  have xln_18 := GL_len xGL_18
  refine lv_iconst (v := 0) hx hb xd_Ch_bindUsesOf_0 (by decide) ?_
  refine lv_istore_n hx hb xd_Ch_bindUsesOf_1 rfl hl (Nat.le_of_ble_eq_true rfl) rfl (fun ls hl => ?_)
  have hl : lv_has ls 3 [(2, .int 0), (0, .ref (ad 0 7)), (1, .ref (ad (1 + d) 0))] := hl
  refine xlab (σ := Nat × (Nat → Nat → va_E) × List Nat) (ml := 3) 2 (fun (i, E1, L1) => [(2, .int (nI i)), (1, .ref (ad (1 + d) 0)), (0, .ref (ad 0 7))]) (fun (i, E1, L1) => []) (fun (i, E1, L1) => rp ad E1 RL) (fun (i, E1, L1) => (i ≤ 3) ∧ (bUg g nd fi lq d L = bUs (bSv g nd fi lq) (g 14) (3 * d + 3 - (3 * d + i)) (3 * d + i) L1) ∧ (CI kA ad E1 RL ml nd len wn L1.length) ∧ (CX ad E1 nd fi lq L1) ∧ (F78 E E1)) (fun (i, E1, L1) => 3 - i) ?_ (0, E, L) _ _ _ (lv_sub hl [0, 2, 1] rfl) hP hD hS ⟨(show 0 ≤ 3 from by first | assumption | omega), (show bUg g nd fi lq d L = bUs (bSv g nd fi lq) (g 14) (3 * d + 3 - (3 * d + 0)) (3 * d + 0) L from (show bUg g nd fi lq d L = bUs (bSv g nd fi lq) (g 14) (3 * d + 3 - (3 * d + 0)) (3 * d + 0) L from by rw [show 3 * d + 3 - (3 * d + 0) = 3 by omega]; rfl)), (show CI kA ad E RL ml nd len wn L.length from hCI), (show CX ad E nd fi lq L from hCX), (show F78 E E from F78_rf)⟩
  intro n9 ih26 a9 ls H locs hμ hl hP hD hS hI
  subst hμ
  obtain ⟨i, E1, L1⟩ := a9
  obtain ⟨hi, hU, hCI, hCX1, hF1⟩ := hI
  have hi : i ≤ 3 := hi
  have hU : bUg g nd fi lq d L = bUs (bSv g nd fi lq) (g 14) (3 * d + 3 - (3 * d + i)) (3 * d + i) L1 := hU
  have hCI : CI kA ad E1 RL ml nd len wn L1.length := hCI
  have hCX1 : CX ad E1 nd fi lq L1 := hCX1
  have hF1 : F78 E E1 := hF1
  have hl : lv_has ls 3 [(2, .int (nI i)), (1, .ref (ad (1 + d) 0)), (0, .ref (ad 0 7))] := hl
  have hP : va_P D xcl (rp ad E1 RL) H := hP
  have hD : va_D A (rp ad E1 RL) := hD
  obtain ⟨hmB, hDk, hLi, hSh, hCh, hLa, hDIs, hLIs⟩ := id hCI
  obtain ⟨fd_27, hnd_27, q5_27, q6_27, hds_27⟩ := id (hSh)
  have c_28 : E1 0 5 = .inr (2, [.ref (ad 0 6), .int (nI nd)]) := q5_27
  have m_29 : (0, 5) ∈ RL := hmB 5 (by omega)
  have c_30 : E1 0 6 = .inl (kA 4, 12, .inr (.inr (.inr (.inr fd_27)))) := q6_27
  have m_31 : (0, 6) ∈ RL := hmB 6 (by omega)
  have hTD1 : TDs g E1 nd := TDs_78 hF1 hTD
  have hTL1 : TLas g ad E1 nd ml := TLas_78 hF1 hTL
  refine lv_iload_n hx hb xd_Ch_bindUsesOf_2 rfl (lv_at hl 0 rfl) ?_
  refine lv_aload_n hx hb xd_Ch_bindUsesOf_3 rfl (lv_at hl 1 rfl) ?_
  obtain ⟨hm_32, fd_32, nm_32, sd_32, k0_32, k1_32, k2_32, k3_32, f0_32, f1_32, f2_32, f3_32, fe_32, fo_32, tr_32, op_32, hk0_32, hk1_32, hk2_32, hk3_32, q0_32, q1_32, q2_32, q3_32, q4_32, q5_32, q6_32, q7_32, q8_32, q9_32, q10_32, q11_32, q12_32, hg_32⟩ := id (hDIs d (by omega))
  have c_33 : E1 (1 + d) 0 = .inr (7, [.int (nI d), .int fd_32, .int nm_32, .ref (ad (1 + d) 1), .ref (ad (1 + d) 9), .ref (ad (1 + d) 10), .ref (ad (1 + d) 2), .ref (ad (1 + d) 11), .ref (ad (1 + d) 12), .ref (ad (1 + d) 3), .ref (ad (1 + d) 4), .int sd_32]) := q0_32
  have m_34 : (1 + d, 0) ∈ RL := hm_32 0 (by omega)
  have c_35 : E1 (1 + d) 1 = .inr (8, [.ref (ad (1 + d) 5), .int (nI k0_32)]) := q1_32
  have m_36 : (1 + d, 1) ∈ RL := hm_32 1 (by omega)
  have c_37 : E1 (1 + d) 2 = .inr (8, [.ref (ad (1 + d) 6), .int (nI k1_32)]) := q2_32
  have m_38 : (1 + d, 2) ∈ RL := hm_32 2 (by omega)
  have c_39 : E1 (1 + d) 3 = .inr (8, [.ref (ad (1 + d) 7), .int (nI k2_32)]) := q3_32
  have m_40 : (1 + d, 3) ∈ RL := hm_32 3 (by omega)
  have c_41 : E1 (1 + d) 4 = .inr (8, [.ref (ad (1 + d) 8), .int (nI k3_32)]) := q4_32
  have m_42 : (1 + d, 4) ∈ RL := hm_32 4 (by omega)
  have c_43 : E1 (1 + d) 5 = .inl (kA 0, 6, .inl f0_32) := q5_32
  have m_44 : (1 + d, 5) ∈ RL := hm_32 5 (by omega)
  have c_45 : E1 (1 + d) 6 = .inl (kA 0, 5, .inl f1_32) := q6_32
  have m_46 : (1 + d, 6) ∈ RL := hm_32 6 (by omega)
  have c_47 : E1 (1 + d) 7 = .inl (kA 0, 3, .inl f2_32) := q7_32
  have m_48 : (1 + d, 7) ∈ RL := hm_32 7 (by omega)
  have c_49 : E1 (1 + d) 8 = .inl (kA 0, 3, .inl f3_32) := q8_32
  have m_50 : (1 + d, 8) ∈ RL := hm_32 8 (by omega)
  have c_51 : E1 (1 + d) 9 = .inl (kA 8, 6, .inr (.inr (.inr (.inr fe_32)))) := q9_32
  have m_52 : (1 + d, 9) ∈ RL := hm_32 9 (by omega)
  have c_53 : E1 (1 + d) 10 = .inl (kA 8, 6, .inr (.inr (.inr (.inr fo_32)))) := q10_32
  have m_54 : (1 + d, 10) ∈ RL := hm_32 10 (by omega)
  have c_55 : E1 (1 + d) 11 = .inl (kA 2, 5, .inl tr_32) := q11_32
  have m_56 : (1 + d, 11) ∈ RL := hm_32 11 (by omega)
  have c_57 : E1 (1 + d) 12 = .inl (kA 2, 5, .inl op_32) := q12_32
  have m_58 : (1 + d, 12) ∈ RL := hm_32 12 (by omega)
  have hg_32 : ∀ w9, w9 < k0_32 → fe_32 w9 = some (ad (1 + d) (20 + 3 * w9)) ∧ fo_32 w9 = some (ad (1 + d) (38 + 3 * w9)) ∧ GI kA (ad (1 + d)) (E1 (1 + d)) (fun o => (1 + d, o) ∈ RL) (20 + 3 * w9) (21 + 3 * w9) (22 + 3 * w9) ∧ GI kA (ad (1 + d)) (E1 (1 + d)) (fun o => (1 + d, o) ∈ RL) (38 + 3 * w9) (39 + 3 * w9) (40 + 3 * w9) := hg_32
  obtain ⟨hTT_32, tgr_32⟩ := TD_get hk0_32 hk1_32 hk2_32 hk3_32 c_33 c_35 c_37 c_39 c_41 c_43 c_45 c_47 c_49 c_55 c_57 (hTD1 d (by omega))
  obtain ⟨tfd_32, tnm_32, tsd_32, tk0_32, tf0_32, tk1_32, tf1_32, tk2_32, tk3_32⟩ := id hTT_32
  have ik0_32 : iN (g 5 d) = k0_32 := by rw [← tk0_32, iN_nI (by omega)]
  have ik1_32 : iN (g 12 d) = k1_32 := by rw [← tk1_32, iN_nI (by omega)]
  refine px_get (D := D) (ci := 7) (v := .ref (ad (1 + d) 3)) (C := xR_Ds) (T := xT_Ds) (N := 12) hx hb hT xi_Ds hown hK.1 hP m_34 c_33 rfl 9 (by decide) (hT _ k5o_0) (fun _ h9 => h9) rfl xd_Ch_bindUsesOf_4 ?_
  refine px_get (D := D) (ci := 8) (v := .int (nI k2_32)) (C := xR_Na) (T := xT_Na) (N := 2) hx hb hT xi_Na hown hK.1 hP m_40 c_39 rfl 1 (by decide) (hT _ k5o_1) (fun _ h9 => h9) rfl xd_Ch_bindUsesOf_7 ?_
  refine xn_ge (a := i) (b := k2_32) (tgt := 31) hx hb xd_Ch_bindUsesOf_10 (by decide) (by omega) (by omega) (fun hc59 => ?_) (fun hc59 => ?_)
  · exact W.vret hx hb hr (fun t ht hW => ⟨⟨E1, rfl, ⟨L1, hCI, hCX1, hF1, by rw [hU, bUs_z _ _ _ (fun j h1 h2 => by
        have q := (tk2_32 (j - 3 * d) (by omega)).2 (by omega)
        have q2 : g 14 j = 0 := by rw [← show 3 * d + (j - 3 * d) = j by omega]; exact q
        rw [q2]; decide)]⟩, by rw [ht]; exact hP, hD⟩, hS.F ht⟩) hS.2.2 xd_Ch_bindUsesOf_31
  · refine lv_aload_n hx hb xd_Ch_bindUsesOf_13 rfl (lv_at hl 2 rfl) ?_
    refine lv_aload_n hx hb xd_Ch_bindUsesOf_14 rfl (lv_at hl 1 rfl) ?_
    refine px_get (D := D) (ci := 7) (v := .ref (ad (1 + d) 3)) (C := xR_Ds) (T := xT_Ds) (N := 12) hx hb hT xi_Ds hown hK.1 hP m_34 c_33 rfl 9 (by decide) (hT _ k5o_0) (fun _ h9 => h9) rfl xd_Ch_bindUsesOf_15 ?_
    refine lv_iload_n hx hb xd_Ch_bindUsesOf_18 rfl (lv_at hl 0 rfl) ?_
    have hFc := px_free hD hS hA
    refine va_calli (va_runV (As := [.int (nI i)]) (rest := [.ref (ad 0 7)]) ⟨hx, hb, hml, hown, hT⟩ (xc_Na_at l D kA H.size ad E1 RL (1 + d) 3 7 3 k2_32 f2_32 i m_40 c_39 m_48 c_47 (by first | assumption | omega) (by first | assumption | omega) (by first | assumption | omega)) (cwV 1 hT (wT_V k5o_3 k5o_4 k5o_5 k5o_6 k5o_2) rfl rfl rfl (by decide +kernel) ⟨Nat.le_of_ble_eq_true rfl, Nat.le_of_ble_eq_true rfl⟩) (px_preV hK hP hD m_40 c_39 rfl) rfl rfl hl.1 rfl (lv_room (Nat.le_of_ble_eq_true rfl)) xd_Ch_bindUsesOf_19 ⟨(Nat.le_of_ble_eq_true rfl), (Nat.le_of_ble_eq_true rfl)⟩) hS (fun q _ h => hFc q h) hFc (fun r60 u61 t H1 locs ht hvm hp62 hB hz1 hk1 hS => ?_)
    obtain ⟨hP1, hD1⟩ := hB
    rw [ht] at hP1
    have hD1 := hD1.weaken (fun _ _ _ h => hFc _ h)
    generalize H1 = H at hP1 hS ⊢
    have hP := hP1
    have hD := hD1
    have hP : va_P D xcl (rp ad E1 RL) H := hP
    have hD : va_D A (rp ad E1 RL) := hD
    have hp62 : r60 = g 14 (3 * d + i) := by
      rcases hp62 with ⟨q, q2⟩ | ⟨q, _⟩
      · rw [q2]; exact ((tk2_32 i (by omega)).1 q).1
      · omega
    subst hp62
    have hP : va_P D xcl (rp ad E1 RL) H := hP
    have hD : va_D A (rp ad E1 RL) := hD
    have hFc := px_free hD hS hA
    obtain ⟨cf_63, pv_63, fc_63, hcs_63, hpv_63, q7_63, q8_63, hfc_63⟩ := id (hCh)
    have c_64 : E1 0 7 = .inr (3, [.ref (ad 0 5), .ref (ad 0 8), .int (nI (L1.length)), .int cf_63, pv_63]) := q7_63
    have m_65 : (0, 7) ∈ RL := hmB 7 (by omega)
    have c_66 : E1 0 8 = .inl (kA 4, 12, .inr (.inr (.inr (.inr fc_63)))) := q8_63
    have m_67 : (0, 8) ∈ RL := hmB 8 (by omega)
    refine va_callv (va_runV (As := [.int (g 14 (3 * d + i))]) (rest := []) ⟨hx, hb, hml, hown, hT⟩ (xc_Ch_bindProvidersOfX l D kA H.size ad E1 RL g ml nd len wn fi lq L1 (g 14 (3 * d + i)) (by first | assumption | omega) hCX1 hTD1 hTL1 (by first | assumption | omega) (((tk2_32 i (by omega)).1 (by omega)).2)) (cwV 1 hT (wT_V k5o_8 k5o_9 k5o_10 k5o_11 k5o_7) rfl rfl rfl (by decide +kernel) ⟨Nat.le_of_ble_eq_true rfl, Nat.le_of_ble_eq_true rfl⟩) (px_preV hK hP hD m_65 c_64 rfl) rfl rfl hl.1 rfl (lv_room (Nat.le_of_ble_eq_true rfl)) xd_Ch_bindUsesOf_22 ⟨(Nat.le_of_ble_eq_true rfl), (Nat.le_of_ble_eq_true rfl)⟩) hS (fun q _ h => hFc q h) hFc (fun u69 t H1 locs ht hvm hp70 hB hz1 hk1 hS => ?_)
    obtain ⟨hP1, hD1⟩ := hB
    rw [ht] at hP1
    have hD1 := hD1.weaken (fun _ _ _ h => hFc _ h)
    generalize H1 = H at hP1 hS ⊢
    have hP := hP1
    have hD := hD1
    obtain ⟨E71, rfl⟩ : ∃ z, z = u69 := ⟨_, rfl⟩
    have hP : va_P D xcl (rp ad E71 RL) H := hP
    have hD : va_D A (rp ad E71 RL) := hD
    obtain ⟨L2, hCI, hCX2, hF9, hsp9⟩ := hp70
    have hCI : CI kA ad E71 RL ml nd len wn L2.length := hCI
    have hF2 : F78 E E71 := F78_tr hF1 hF9
    obtain ⟨hmB, hDk, hLi, hSh, hCh, hLa, hDIs, hLIs⟩ := id hCI
    refine lv_iinc (k := 0) (x := (nI i)) (v := (nI (i + 1))) hx hb xd_Ch_bindUsesOf_25 hl rfl (xb_inc i 1) (Nat.le_of_ble_eq_true rfl) rfl (fun ls hl => ?_)
    have hl : lv_has ls 3 [(2, .int (nI (i + 1))), (1, .ref (ad (1 + d) 0)), (0, .ref (ad 0 7))] := hl
    refine lv_goto (tgt := 2) hx hb xd_Ch_bindUsesOf_28 (by decide) ?_
    exact ih26 (i + 1, E71, L2) _ _ _ (show 3 - (i + 1) < 3 - i by omega) (lv_sub hl [0, 1, 2] rfl) hP hD hS ⟨(show (i + 1) ≤ 3 from by first | assumption | omega), (show bUg g nd fi lq d L = bUs (bSv g nd fi lq) (g 14) (3 * d + 3 - (3 * d + (i + 1))) (3 * d + (i + 1)) L2 from by rw [hU, bUs_s (by omega), cif_pos ((tk2_32 i (by omega)).1 (by omega)).2, hsp9]; rfl), (show CI kA ad E71 RL ml nd len wn L2.length from hCI), (show CX ad E71 nd fi lq L2 from hCX2), (show F78 E E71 from hF2)⟩
