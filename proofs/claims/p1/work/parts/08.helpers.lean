set_option maxHeartbeats 4000000 in
set_option maxRecDepth 100000 in
theorem xc_La_line (l : Launch) (D : va_G) (kA : Nat → ClassId) (sz : Nat) (x : Nat) (L : Nat) (S : Nat) (C : Nat) (P : Nat) (tx : Nat) (b1 : Nat) (b2 : Nat) (d1 : Nat) (o : Nat) (fo : Nat → Int64) : Met l xy_La_line (.codeWith xy_La_line xb_La_line 3 (some .int) [(0, 8, 11, 13), (0, 8, 14, 15)] :: wT) { frames := 2, cells := 0, slots := 0, locals := 43 } (va_Pc [.ref x, .ref o] (xPre D kA sz [(x, .inr (0, [.ref L, .ref S, .ref C, .ref P, .int 0, .int 0])), (L, .inr (1, [.ref tx, .ref b1, .ref b2, .int 0, .int 0])), (S, .inr (2, [.ref d1, .int 0])), (o, .inl (kA 3, 1, .inr (.inl fo)))])) (va_Qi (fun (r : Int32) (u : Unit) => r = 0) (fun (u : Unit) t => va_P D xcl [(x, .inr (0, [.ref L, .ref S, .ref C, .ref P, .int 0, .int 0])), (L, .inr (1, [.ref tx, .ref b1, .ref b2, .int 0, .int 0])), (S, .inr (2, [.ref d1, .int 0])), (o, .inl (kA 3, 1, .inr (.inl (vp_updL fo (0 : Int32).toNatClampNeg ((0 : Int32).toInt64)))))] t.heap ∧ va_D (va_A [(x, .inr (0, [.ref L, .ref S, .ref C, .ref P, .int 0, .int 0])), (L, .inr (1, [.ref tx, .ref b1, .ref b2, .int 0, .int 0])), (S, .inr (2, [.ref d1, .int 0])), (o, .inl (kA 3, 1, .inr (.inl fo)))] sz) [(x, .inr (0, [.ref L, .ref S, .ref C, .ref P, .int 0, .int 0])), (L, .inr (1, [.ref tx, .ref b1, .ref b2, .int 0, .int 0])), (S, .inr (2, [.ref d1, .int 0])), (o, .inl (kA 3, 1, .inr (.inl (vp_updL fo (0 : Int32).toNatClampNeg ((0 : Int32).toInt64)))))]) (va_A [(x, .inr (0, [.ref L, .ref S, .ref C, .ref P, .int 0, .int 0])), (L, .inr (1, [.ref tx, .ref b1, .ref b2, .int 0, .int 0])), (S, .inr (2, [.ref d1, .int 0])), (o, .inl (kA 3, 1, .inr (.inl fo)))] sz)) 0 0 (va_A [(x, .inr (0, [.ref L, .ref S, .ref C, .ref P, .int 0, .int 0])), (L, .inr (1, [.ref tx, .ref b1, .ref b2, .int 0, .int 0])), (S, .inr (2, [.ref d1, .int 0])), (o, .inl (kA 3, 1, .inr (.inl fo)))] sz) := by
  refine va_MetW (cc := xb_La_line) (maxL := 3) (ret := (some .int)) (by decide) rfl ?_
  intro p e s m args below meth c s₁ B hml hv
  obtain ⟨rfl, hsz, hP, hK, hD0⟩ := hv
  have hx := B.exec
  have hb := B.bytes
  have hr := B.returns
  have hT := x_hT B.pre
  have hown : s.vm.findClass xR_La = some m.cls := findClass_of_methodNamed B.named
  have hlocks := B.notSynchronized
  subst hsz
  have hD := hD0.self (sz := s.heap.size)
  generalize hAe : va_A [(x, .inr (0, [.ref L, .ref S, .ref C, .ref P, .int 0, .int 0])), (L, .inr (1, [.ref tx, .ref b1, .ref b2, .int 0, .int 0])), (S, .inr (2, [.ref d1, .int 0])), (o, .inl (kA 3, 1, .inr (.inl fo)))] s.heap.size = A at hD ⊢
  have hA : ∀ q : Nat, s.heap.size ≤ q → A q := fun q h => by rw [← hAe]; exact Or.inr h
  have hS : va_S A s.heap s.heap [] := va_S.rf
  have hP : va_P D xcl [(x, .inr (0, [.ref L, .ref S, .ref C, .ref P, .int 0, .int 0])), (L, .inr (1, [.ref tx, .ref b1, .ref b2, .int 0, .int 0])), (S, .inr (2, [.ref d1, .int 0])), (o, .inl (kA 3, 1, .inr (.inl fo)))] s.heap := hP
  have hl := lv_entry ([.ref x, .ref o]) (n := 3) (Nat.le_of_ble_eq_true rfl)
  rw [lg_entry_eq]
  generalize (lg_sl ([.ref x, .ref o]) ++ List.replicate (3 - (lg_sl ([.ref x, .ref o])).length) Slot.unset).toArray = ls at hl ⊢
  have hl : lv_has ls 3 [(0, .ref x), (1, .ref o)] := hl
  have hex := vx_table (x := xy_La_line) B (atoms_spec (ws := .codeWith xy_La_line xb_La_line 3 (some .int) [(0, 8, 11, 13), (0, 8, 14, 15)] :: wT) B.pre _ List.mem_cons_self)
  refine lv_aload_n hx hb xd_La_line_0 rfl (lv_at hl 1 rfl) ?_
  refine lv_iconst (v := 0) hx hb xd_La_line_1 (by decide) ?_
  refine lv_aload_n hx hb xd_La_line_2 rfl (lv_at hl 0 rfl) ?_
  have hPc := hP.sub (ws' := [(x, .inr (0, [.ref L, .ref S, .ref C, .ref P, .int 0, .int 0])), (L, .inr (1, [.ref tx, .ref b1, .ref b2, .int 0, .int 0])), (S, .inr (2, [.ref d1, .int 0]))]) [0, 1, 2] rfl
  have hDc := hD.sub (ws' := [(x, .inr (0, [.ref L, .ref S, .ref C, .ref P, .int 0, .int 0])), (L, .inr (1, [.ref tx, .ref b1, .ref b2, .int 0, .int 0])), (S, .inr (2, [.ref d1, .int 0]))]) [0, 1, 2] (by decide) rfl
  have hFc := va_free (wc := [(x, .inr (0, [.ref L, .ref S, .ref C, .ref P, .int 0, .int 0])), (L, .inr (1, [.ref tx, .ref b1, .ref b2, .int 0, .int 0])), (S, .inr (2, [.ref d1, .int 0]))]) hD hS hA [0, 1, 2] rfl
  have hkc : 0 + 0 ≤ 0 := Nat.le_of_ble_eq_true rfl
  have hks : 0 + 0 ≤ 0 := Nat.le_of_ble_eq_true rfl
  refine va_calli (va_runV (As := []) (rest := [.int 0, .ref o]) ⟨hx, hb, hml, hown, hT⟩ (xc_De_line l D kA s.heap.size x L S C P tx b1 b2 d1) (cwV 0 hT (wT_V xk_143 xk_144 xk_145 xk_90 xk_142) rfl rfl rfl (by decide +kernel) ⟨Nat.le_of_ble_eq_true rfl, Nat.le_of_ble_eq_true rfl⟩) (x_preV hK hPc hDc 0 rfl rfl) rfl rfl hl.1 rfl (lv_room (Nat.le_of_ble_eq_true rfl)) xd_La_line_3 ⟨hkc, hks⟩) hS (fun q _ h => hFc q h) hFc (fun r u t H1 locs ht hvm hpost hB hz1 hk1 hS => ?_)
  have hpost : r = 0 := hpost
  subst hpost
  obtain ⟨hP1, hD1⟩ := hB
  rw [ht] at hP1
  obtain ⟨hP, hD⟩ := va_join (wr := [(o, .inl (kA 3, 1, .inr (.inl fo)))]) (w1 := [(x, .inr (0, [.ref L, .ref S, .ref C, .ref P, .int 0, .int 0])), (L, .inr (1, [.ref tx, .ref b1, .ref b2, .int 0, .int 0])), (S, .inr (2, [.ref d1, .int 0]))]) hP hD [0, 1, 2] [3] rfl rfl (by decide) (by decide) hk1 hFc hP1 hD1
  generalize H1 = H at hP hS ⊢
  have hP : va_P D xcl [(o, .inl (kA 3, 1, .inr (.inl fo))), (x, .inr (0, [.ref L, .ref S, .ref C, .ref P, .int 0, .int 0])), (L, .inr (1, [.ref tx, .ref b1, .ref b2, .int 0, .int 0])), (S, .inr (2, [.ref d1, .int 0]))] H := hP
  have hD : va_D A [(o, .inl (kA 3, 1, .inr (.inl fo))), (x, .inr (0, [.ref L, .ref S, .ref C, .ref P, .int 0, .int 0])), (L, .inr (1, [.ref tx, .ref b1, .ref b2, .int 0, .int 0])), (S, .inr (2, [.ref d1, .int 0]))] := hD
  refine lv_i2l (v := ((0 : Int32).toInt64)) hx hb xd_La_line_6 rfl ?_
  refine va_last hx hb hK.1 hP hD hS 0 3 rfl rfl (show ¬ _ by decide) xd_La_line_7 (fun H locs hP hD hS => ?_)
  have hP : va_P D xcl [(o, .inl (kA 3, 1, .inr (.inl (vp_updL fo (0 : Int32).toNatClampNeg ((0 : Int32).toInt64))))), (x, .inr (0, [.ref L, .ref S, .ref C, .ref P, .int 0, .int 0])), (L, .inr (1, [.ref tx, .ref b1, .ref b2, .int 0, .int 0])), (S, .inr (2, [.ref d1, .int 0]))] H := hP
  have hD : va_D A [(o, .inl (kA 3, 1, .inr (.inl (vp_updL fo (0 : Int32).toNatClampNeg ((0 : Int32).toInt64))))), (x, .inr (0, [.ref L, .ref S, .ref C, .ref P, .int 0, .int 0])), (L, .inr (1, [.ref tx, .ref b1, .ref b2, .int 0, .int 0])), (S, .inr (2, [.ref d1, .int 0]))] := hD
  refine lv_goto (tgt := 17) hx hb xd_La_line_8 (by decide) ?_
  refine lv_iconst (v := 0) hx hb xd_La_line_17 (by decide) ?_
  have hP9 := hP.sub (ws' := [(x, .inr (0, [.ref L, .ref S, .ref C, .ref P, .int 0, .int 0])), (L, .inr (1, [.ref tx, .ref b1, .ref b2, .int 0, .int 0])), (S, .inr (2, [.ref d1, .int 0])), (o, .inl (kA 3, 1, .inr (.inl (vp_updL fo (0 : Int32).toNatClampNeg ((0 : Int32).toInt64)))))]) [1, 2, 3, 0] rfl
  have hD9 := hD.sub (ws' := [(x, .inr (0, [.ref L, .ref S, .ref C, .ref P, .int 0, .int 0])), (L, .inr (1, [.ref tx, .ref b1, .ref b2, .int 0, .int 0])), (S, .inr (2, [.ref d1, .int 0])), (o, .inl (kA 3, 1, .inr (.inl (vp_updL fo (0 : Int32).toNatClampNeg ((0 : Int32).toInt64)))))]) [1, 2, 3, 0] (by decide) rfl
  refine W.widen (k := 0) (n := 0) (Nat.le_of_ble_eq_true rfl) (Nat.le_of_ble_eq_true rfl) ?_
  exact W.iret (v := 0) hx hb hr (fun t ht hW => ⟨⟨0, (), rfl, rfl, by rw [ht]; exact hP9, hD9⟩, hS.F ht⟩) hS.2.2 xd_La_line_18
set_option maxHeartbeats 4000000 in
set_option maxRecDepth 100000 in
theorem xc_La_layer (l : Launch) (hlt : l.stackTraces = false) (D : va_G) (kA : Nat → ClassId) (sz sa : Nat) (x : Nat) (L : Nat) (S : Nat) (C : Nat) (P : Nat) (tx : Nat) (b1 : Nat) (b2 : Nat) (n : Int32) (k : Int32) (z : Int32) (o : Nat) (fo : Nat → Int64) : Met l xy_La_layer (.codeWith xy_La_layer xb_La_layer 6 (some .int) [(0, 12, 15, 13), (0, 12, 19, 21), (0, 12, 23, 15)] :: wT) { frames := 7, cells := 1, slots := 6, locals := 108 } (va_Pc [.ref x, .int n, .int k, .int z, .ref o] (xPreX D kA sz [(x, .inr (0, [.ref L, .ref S, .ref C, .ref P, .int 0, .int 0])), (L, .inr (1, [.ref tx, .ref b1, .ref b2, .int 0, .int 0])), (o, .inl (kA 3, 1, .inr (.inl fo)))] "LayerDesk" 80 "no roots, no such finder or no open parent" sa)) (va_Qi (fun (r : Int32) (u : Unit) => r = 1) (fun (u : Unit) t => va_P D xcl [(x, .inr (0, [.ref L, .ref S, .ref C, .ref P, .int 0, .int 0])), (L, .inr (1, [.ref tx, .ref b1, .ref b2, .int 0, .int 0])), (o, .inl (kA 3, 1, .inr (.inl fo)))] t.heap ∧ va_D (va_A [(x, .inr (0, [.ref L, .ref S, .ref C, .ref P, .int 0, .int 0])), (L, .inr (1, [.ref tx, .ref b1, .ref b2, .int 0, .int 0])), (o, .inl (kA 3, 1, .inr (.inl fo)))] sz) [(x, .inr (0, [.ref L, .ref S, .ref C, .ref P, .int 0, .int 0])), (L, .inr (1, [.ref tx, .ref b1, .ref b2, .int 0, .int 0])), (o, .inl (kA 3, 1, .inr (.inl fo)))]) (va_A [(x, .inr (0, [.ref L, .ref S, .ref C, .ref P, .int 0, .int 0])), (L, .inr (1, [.ref tx, .ref b1, .ref b2, .int 0, .int 0])), (o, .inl (kA 3, 1, .inr (.inl fo)))] sz)) 1 6 (va_A [(x, .inr (0, [.ref L, .ref S, .ref C, .ref P, .int 0, .int 0])), (L, .inr (1, [.ref tx, .ref b1, .ref b2, .int 0, .int 0])), (o, .inl (kA 3, 1, .inr (.inl fo)))] sz) := by
  refine va_MetW (cc := xb_La_layer) (maxL := 6) (ret := (some .int)) (by decide) rfl ?_
  intro p e s m args below meth c s₁ B hml hv
  obtain ⟨rfl, ⟨hsz, hP, hK, hD0⟩, hU, hstr⟩ := hv
  have hx := B.exec
  have hb := B.bytes
  have hr := B.returns
  have hT := x_hT B.pre
  have hown : s.vm.findClass xR_La = some m.cls := findClass_of_methodNamed B.named
  have hlocks := B.notSynchronized
  subst hsz
  have hD := hD0.self (sz := s.heap.size)
  generalize hAe : va_A [(x, .inr (0, [.ref L, .ref S, .ref C, .ref P, .int 0, .int 0])), (L, .inr (1, [.ref tx, .ref b1, .ref b2, .int 0, .int 0])), (o, .inl (kA 3, 1, .inr (.inl fo)))] s.heap.size = A at hD hU ⊢
  have hA : ∀ q : Nat, s.heap.size ≤ q → A q := fun q h => by rw [← hAe]; exact Or.inr h
  have hS : va_S A s.heap s.heap [] := va_S.rf
  have hP : va_P D xcl [(x, .inr (0, [.ref L, .ref S, .ref C, .ref P, .int 0, .int 0])), (L, .inr (1, [.ref tx, .ref b1, .ref b2, .int 0, .int 0])), (o, .inl (kA 3, 1, .inr (.inl fo)))] s.heap := hP
  have hl := lv_entry ([.ref x, .int n, .int k, .int z, .ref o]) (n := 6) (Nat.le_of_ble_eq_true rfl)
  rw [lg_entry_eq]
  generalize (lg_sl ([.ref x, .int n, .int k, .int z, .ref o]) ++ List.replicate (6 - (lg_sl ([.ref x, .int n, .int k, .int z, .ref o])).length) Slot.unset).toArray = ls at hl ⊢
  have hl : lv_has ls 6 [(0, .ref x), (1, .int n), (2, .int k), (3, .int z), (4, .ref o)] := hl
  have hex := vx_table (x := xy_La_layer) B (atoms_spec (ws := .codeWith xy_La_layer xb_La_layer 6 (some .int) [(0, 12, 15, 13), (0, 12, 19, 21), (0, 12, 23, 15)] :: wT) B.pre _ List.mem_cons_self)
  refine lv_aload hx hb xd_La_layer_0 (lv_at hl 4 rfl) ?_
  refine lv_iconst (v := 0) hx hb xd_La_layer_2 (by decide) ?_
  refine lv_aload_n hx hb xd_La_layer_3 rfl (lv_at hl 0 rfl) ?_
  refine lv_iload_n hx hb xd_La_layer_4 rfl (lv_at hl 1 rfl) ?_
  refine lv_iload_n hx hb xd_La_layer_5 rfl (lv_at hl 2 rfl) ?_
  refine lv_iload_n hx hb xd_La_layer_6 rfl (lv_at hl 3 rfl) ?_
  have hPc := hP.sub (ws' := [(x, .inr (0, [.ref L, .ref S, .ref C, .ref P, .int 0, .int 0])), (L, .inr (1, [.ref tx, .ref b1, .ref b2, .int 0, .int 0]))]) [0, 1] rfl
  have hDc := hD.sub (ws' := [(x, .inr (0, [.ref L, .ref S, .ref C, .ref P, .int 0, .int 0])), (L, .inr (1, [.ref tx, .ref b1, .ref b2, .int 0, .int 0]))]) [0, 1] (by decide) rfl
  have hFc := va_free (wc := [(x, .inr (0, [.ref L, .ref S, .ref C, .ref P, .int 0, .int 0])), (L, .inr (1, [.ref tx, .ref b1, .ref b2, .int 0, .int 0]))]) hD hS hA [0, 1] rfl
  have hkc : 0 + 1 ≤ 1 := Nat.le_of_ble_eq_true rfl
  have hks : 0 + 6 ≤ 6 := Nat.le_of_ble_eq_true rfl
  refine vx_calli (vx_runV (As := [.int n, .int k, .int z]) (rest := [.int 0, .ref o]) ⟨hx, hb, hml, hown, hT⟩ (xc_De_layer l hlt D kA s.heap.size sa x L S C P tx b1 b2 n k z) (cwV 3 hT (wT_V xk_147 xk_148 xk_149 xk_90 xk_146) rfl rfl rfl (by decide +kernel) ⟨Nat.le_of_ble_eq_true rfl, Nat.le_of_ble_eq_true rfl⟩) (x_preVX hK hPc hDc 0 rfl rfl hFc (xUS_kept hU hS) hstr) rfl rfl hl.1 rfl (lv_room (Nat.le_of_ble_eq_true rfl)) xd_La_layer_7 ⟨hkc, hks⟩) hS (fun q _ h => hFc q h) hFc (fun q _ h => hFc q h) (fun E ce q9 u t H1 locs ht hvm hpost hB hz1 hk1 hS hce hcv hcl => ?_) (fun r u t H1 locs ht hvm hpost hB hz1 hk1 hS => ?_)
  · obtain ⟨hE9, hP1, hD1⟩ := hB
    subst hE9
    rw [ht] at hP1
    obtain ⟨hP, hD⟩ := va_join (wr := [(o, .inl (kA 3, 1, .inr (.inl fo)))]) (w1 := [(x, .inr (0, [.ref L, .ref S, .ref C, .ref P, .int 0, .int 0])), (L, .inr (1, [.ref tx, .ref b1, .ref b2, .int 0, .int 0]))]) hP hD [0, 1] [2] rfl rfl (by decide) (by decide) hk1 hFc hP1 hD1
    generalize H1 = H at hP hS hce ⊢
    have hP : va_P D xcl [(o, .inl (kA 3, 1, .inr (.inl fo))), (x, .inr (0, [.ref L, .ref S, .ref C, .ref P, .int 0, .int 0])), (L, .inr (1, [.ref tx, .ref b1, .ref b2, .int 0, .int 0]))] H := hP
    have hD : va_D A [(o, .inl (kA 3, 1, .inr (.inl fo))), (x, .inr (0, [.ref L, .ref S, .ref C, .ref P, .int 0, .int 0])), (L, .inr (1, [.ref tx, .ref b1, .ref b2, .int 0, .int 0]))] := hD
    refine vx_catch (own := "LayerDeskLaw") (name := "java/lang/IllegalArgumentException") hown [] ⟨0, 12, 15, 13⟩ [⟨0, 12, 19, 21⟩, ⟨0, 12, 23, 15⟩] (by rw [hex]; rfl) (fun z hz => nomatch hz) rfl (by decide) (hT _ xk_150) (va_Nw.use rfl hK.2.2.2.2.2.1) hce hcv hcl ?_
    refine lv_astore hx hb xd_La_layer_15 hl (Nat.le_of_ble_eq_true rfl) rfl (fun ls hl => ?_)
    have hl : lv_has ls 6 [(5, .ref q9), (0, .ref x), (1, .int n), (2, .int k), (3, .int z), (4, .ref o)] := hl
    refine lv_iconst (v := 1) hx hb xd_La_layer_17 (by decide) ?_
    have hP9 := hP.sub (ws' := [(x, .inr (0, [.ref L, .ref S, .ref C, .ref P, .int 0, .int 0])), (L, .inr (1, [.ref tx, .ref b1, .ref b2, .int 0, .int 0])), (o, .inl (kA 3, 1, .inr (.inl fo)))]) [1, 2, 0] rfl
    have hD9 := hD.sub (ws' := [(x, .inr (0, [.ref L, .ref S, .ref C, .ref P, .int 0, .int 0])), (L, .inr (1, [.ref tx, .ref b1, .ref b2, .int 0, .int 0])), (o, .inl (kA 3, 1, .inr (.inl fo)))]) [1, 2, 0] (by decide) rfl
    refine W.widen (k := 1) (n := 6) (Nat.le_of_ble_eq_true rfl) (Nat.le_of_ble_eq_true rfl) ?_
    exact W.iret (v := 1) hx hb hr (fun t ht hW => ⟨⟨1, (), rfl, rfl, by rw [ht]; exact hP9, hD9⟩, hS.F ht⟩) hS.2.2 xd_La_layer_18
  · exact absurd hpost (by exact fun h => h)
set_option maxHeartbeats 4000000 in
set_option maxRecDepth 100000 in
theorem xc_La_load (l : Launch) (hlt : l.stackTraces = false) (D : va_G) (kA : Nat → ClassId) (sz sa : Nat) (x : Nat) (L : Nat) (S : Nat) (C : Nat) (P : Nat) (tx : Nat) (b1 : Nat) (b2 : Nat) (n : Int32) (k : Int32) (o : Nat) (fo : Nat → Int64) : Met l xy_La_load (.codeWith xy_La_load xb_La_load 5 (some .int) [(0, 10, 13, 13), (0, 10, 17, 21)] :: wT) { frames := 7, cells := 1, slots := 6, locals := 107 } (va_Pc [.ref x, .int n, .int k, .ref o] (xPreX D kA sz [(x, .inr (0, [.ref L, .ref S, .ref C, .ref P, .int 0, .int 0])), (L, .inr (1, [.ref tx, .ref b1, .ref b2, .int 0, .int 0])), (o, .inl (kA 3, 1, .inr (.inl fo)))] "LayerDesk" 161 "no such module, or no name" sa)) (va_Qi (fun (r : Int32) (u : Unit) => r = 1) (fun (u : Unit) t => va_P D xcl [(x, .inr (0, [.ref L, .ref S, .ref C, .ref P, .int 0, .int 0])), (L, .inr (1, [.ref tx, .ref b1, .ref b2, .int 0, .int 0])), (o, .inl (kA 3, 1, .inr (.inl fo)))] t.heap ∧ va_D (va_A [(x, .inr (0, [.ref L, .ref S, .ref C, .ref P, .int 0, .int 0])), (L, .inr (1, [.ref tx, .ref b1, .ref b2, .int 0, .int 0])), (o, .inl (kA 3, 1, .inr (.inl fo)))] sz) [(x, .inr (0, [.ref L, .ref S, .ref C, .ref P, .int 0, .int 0])), (L, .inr (1, [.ref tx, .ref b1, .ref b2, .int 0, .int 0])), (o, .inl (kA 3, 1, .inr (.inl fo)))]) (va_A [(x, .inr (0, [.ref L, .ref S, .ref C, .ref P, .int 0, .int 0])), (L, .inr (1, [.ref tx, .ref b1, .ref b2, .int 0, .int 0])), (o, .inl (kA 3, 1, .inr (.inl fo)))] sz)) 1 6 (va_A [(x, .inr (0, [.ref L, .ref S, .ref C, .ref P, .int 0, .int 0])), (L, .inr (1, [.ref tx, .ref b1, .ref b2, .int 0, .int 0])), (o, .inl (kA 3, 1, .inr (.inl fo)))] sz) := by
  refine va_MetW (cc := xb_La_load) (maxL := 5) (ret := (some .int)) (by decide) rfl ?_
  intro p e s m args below meth c s₁ B hml hv
  obtain ⟨rfl, ⟨hsz, hP, hK, hD0⟩, hU, hstr⟩ := hv
  have hx := B.exec
  have hb := B.bytes
  have hr := B.returns
  have hT := x_hT B.pre
  have hown : s.vm.findClass xR_La = some m.cls := findClass_of_methodNamed B.named
  have hlocks := B.notSynchronized
  subst hsz
  have hD := hD0.self (sz := s.heap.size)
  generalize hAe : va_A [(x, .inr (0, [.ref L, .ref S, .ref C, .ref P, .int 0, .int 0])), (L, .inr (1, [.ref tx, .ref b1, .ref b2, .int 0, .int 0])), (o, .inl (kA 3, 1, .inr (.inl fo)))] s.heap.size = A at hD hU ⊢
  have hA : ∀ q : Nat, s.heap.size ≤ q → A q := fun q h => by rw [← hAe]; exact Or.inr h
  have hS : va_S A s.heap s.heap [] := va_S.rf
  have hP : va_P D xcl [(x, .inr (0, [.ref L, .ref S, .ref C, .ref P, .int 0, .int 0])), (L, .inr (1, [.ref tx, .ref b1, .ref b2, .int 0, .int 0])), (o, .inl (kA 3, 1, .inr (.inl fo)))] s.heap := hP
  have hl := lv_entry ([.ref x, .int n, .int k, .ref o]) (n := 5) (Nat.le_of_ble_eq_true rfl)
  rw [lg_entry_eq]
  generalize (lg_sl ([.ref x, .int n, .int k, .ref o]) ++ List.replicate (5 - (lg_sl ([.ref x, .int n, .int k, .ref o])).length) Slot.unset).toArray = ls at hl ⊢
  have hl : lv_has ls 5 [(0, .ref x), (1, .int n), (2, .int k), (3, .ref o)] := hl
  have hex := vx_table (x := xy_La_load) B (atoms_spec (ws := .codeWith xy_La_load xb_La_load 5 (some .int) [(0, 10, 13, 13), (0, 10, 17, 21)] :: wT) B.pre _ List.mem_cons_self)
  refine lv_aload_n hx hb xd_La_load_0 rfl (lv_at hl 3 rfl) ?_
  refine lv_iconst (v := 0) hx hb xd_La_load_1 (by decide) ?_
  refine lv_aload_n hx hb xd_La_load_2 rfl (lv_at hl 0 rfl) ?_
  refine lv_iload_n hx hb xd_La_load_3 rfl (lv_at hl 1 rfl) ?_
  refine lv_iload_n hx hb xd_La_load_4 rfl (lv_at hl 2 rfl) ?_
  have hPc := hP.sub (ws' := [(x, .inr (0, [.ref L, .ref S, .ref C, .ref P, .int 0, .int 0])), (L, .inr (1, [.ref tx, .ref b1, .ref b2, .int 0, .int 0]))]) [0, 1] rfl
  have hDc := hD.sub (ws' := [(x, .inr (0, [.ref L, .ref S, .ref C, .ref P, .int 0, .int 0])), (L, .inr (1, [.ref tx, .ref b1, .ref b2, .int 0, .int 0]))]) [0, 1] (by decide) rfl
  have hFc := va_free (wc := [(x, .inr (0, [.ref L, .ref S, .ref C, .ref P, .int 0, .int 0])), (L, .inr (1, [.ref tx, .ref b1, .ref b2, .int 0, .int 0]))]) hD hS hA [0, 1] rfl
  have hkc : 0 + 1 ≤ 1 := Nat.le_of_ble_eq_true rfl
  have hks : 0 + 6 ≤ 6 := Nat.le_of_ble_eq_true rfl
  refine vx_calli (vx_runV (As := [.int n, .int k]) (rest := [.int 0, .ref o]) ⟨hx, hb, hml, hown, hT⟩ (xc_De_load l hlt D kA s.heap.size sa x L S C P tx b1 b2 n k) (cwV 2 hT (wT_V xk_152 xk_153 xk_154 xk_90 xk_151) rfl rfl rfl (by decide +kernel) ⟨Nat.le_of_ble_eq_true rfl, Nat.le_of_ble_eq_true rfl⟩) (x_preVX hK hPc hDc 0 rfl rfl hFc (xUS_kept hU hS) hstr) rfl rfl hl.1 rfl (lv_room (Nat.le_of_ble_eq_true rfl)) xd_La_load_5 ⟨hkc, hks⟩) hS (fun q _ h => hFc q h) hFc (fun q _ h => hFc q h) (fun E ce q9 u t H1 locs ht hvm hpost hB hz1 hk1 hS hce hcv hcl => ?_) (fun r u t H1 locs ht hvm hpost hB hz1 hk1 hS => ?_)
  · obtain ⟨hE9, hP1, hD1⟩ := hB
    subst hE9
    rw [ht] at hP1
    obtain ⟨hP, hD⟩ := va_join (wr := [(o, .inl (kA 3, 1, .inr (.inl fo)))]) (w1 := [(x, .inr (0, [.ref L, .ref S, .ref C, .ref P, .int 0, .int 0])), (L, .inr (1, [.ref tx, .ref b1, .ref b2, .int 0, .int 0]))]) hP hD [0, 1] [2] rfl rfl (by decide) (by decide) hk1 hFc hP1 hD1
    generalize H1 = H at hP hS hce ⊢
    have hP : va_P D xcl [(o, .inl (kA 3, 1, .inr (.inl fo))), (x, .inr (0, [.ref L, .ref S, .ref C, .ref P, .int 0, .int 0])), (L, .inr (1, [.ref tx, .ref b1, .ref b2, .int 0, .int 0]))] H := hP
    have hD : va_D A [(o, .inl (kA 3, 1, .inr (.inl fo))), (x, .inr (0, [.ref L, .ref S, .ref C, .ref P, .int 0, .int 0])), (L, .inr (1, [.ref tx, .ref b1, .ref b2, .int 0, .int 0]))] := hD
    refine vx_catch (own := "LayerDeskLaw") (name := "java/lang/IllegalArgumentException") hown [] ⟨0, 10, 13, 13⟩ [⟨0, 10, 17, 21⟩] (by rw [hex]; rfl) (fun z hz => nomatch hz) rfl (by decide) (hT _ xk_150) (va_Nw.use rfl hK.2.2.2.2.2.1) hce hcv hcl ?_
    refine lv_astore hx hb xd_La_load_13 hl (Nat.le_of_ble_eq_true rfl) rfl (fun ls hl => ?_)
    have hl : lv_has ls 5 [(4, .ref q9), (0, .ref x), (1, .int n), (2, .int k), (3, .ref o)] := hl
    refine lv_iconst (v := 1) hx hb xd_La_load_15 (by decide) ?_
    have hP9 := hP.sub (ws' := [(x, .inr (0, [.ref L, .ref S, .ref C, .ref P, .int 0, .int 0])), (L, .inr (1, [.ref tx, .ref b1, .ref b2, .int 0, .int 0])), (o, .inl (kA 3, 1, .inr (.inl fo)))]) [1, 2, 0] rfl
    have hD9 := hD.sub (ws' := [(x, .inr (0, [.ref L, .ref S, .ref C, .ref P, .int 0, .int 0])), (L, .inr (1, [.ref tx, .ref b1, .ref b2, .int 0, .int 0])), (o, .inl (kA 3, 1, .inr (.inl fo)))]) [1, 2, 0] (by decide) rfl
    refine W.widen (k := 1) (n := 6) (Nat.le_of_ble_eq_true rfl) (Nat.le_of_ble_eq_true rfl) ?_
    exact W.iret (v := 1) hx hb hr (fun t ht hW => ⟨⟨1, (), rfl, rfl, by rw [ht]; exact hP9, hD9⟩, hS.F ht⟩) hS.2.2 xd_La_load_16
  · exact absurd hpost (by exact fun h => h)
set_option maxHeartbeats 4000000 in
set_option maxRecDepth 100000 in
theorem xc_La_peek (l : Launch) (hlt : l.stackTraces = false) (D : va_G) (kA : Nat → ClassId) (sz sa : Nat) (x : Nat) (L : Nat) (S : Nat) (C : Nat) (P : Nat) (tx : Nat) (b1 : Nat) (b2 : Nat) (n : Int32) (k : Int32) (n2 : Int32) (k2 : Int32) (o : Nat) (fo : Nat → Int64) : Met l xy_La_peek (.codeWith xy_La_peek xb_La_peek 7 (some .int) [(0, 21, 24, 13), (0, 21, 28, 21)] :: wT) { frames := 7, cells := 1, slots := 6, locals := 109 } (va_Pc [.ref x, .int n, .int k, .int n2, .int k2, .ref o] (xPreX D kA sz [(x, .inr (0, [.ref L, .ref S, .ref C, .ref P, .int 0, .int 0])), (L, .inr (1, [.ref tx, .ref b1, .ref b2, .int 0, .int 0])), (o, .inl (kA 3, 1, .inr (.inl fo)))] "LayerDesk" 161 "no such module, or no name" sa)) (va_Qi (fun (r : Int32) (u : Unit) => r = 1) (fun (u : Unit) t => va_P D xcl [(x, .inr (0, [.ref L, .ref S, .ref C, .ref P, .int 0, .int 0])), (L, .inr (1, [.ref tx, .ref b1, .ref b2, .int 0, .int 0])), (o, .inl (kA 3, 1, .inr (.inl fo)))] t.heap ∧ va_D (va_A [(x, .inr (0, [.ref L, .ref S, .ref C, .ref P, .int 0, .int 0])), (L, .inr (1, [.ref tx, .ref b1, .ref b2, .int 0, .int 0])), (o, .inl (kA 3, 1, .inr (.inl fo)))] sz) [(x, .inr (0, [.ref L, .ref S, .ref C, .ref P, .int 0, .int 0])), (L, .inr (1, [.ref tx, .ref b1, .ref b2, .int 0, .int 0])), (o, .inl (kA 3, 1, .inr (.inl fo)))]) (va_A [(x, .inr (0, [.ref L, .ref S, .ref C, .ref P, .int 0, .int 0])), (L, .inr (1, [.ref tx, .ref b1, .ref b2, .int 0, .int 0])), (o, .inl (kA 3, 1, .inr (.inl fo)))] sz)) 1 6 (va_A [(x, .inr (0, [.ref L, .ref S, .ref C, .ref P, .int 0, .int 0])), (L, .inr (1, [.ref tx, .ref b1, .ref b2, .int 0, .int 0])), (o, .inl (kA 3, 1, .inr (.inl fo)))] sz) := by
  refine va_MetW (cc := xb_La_peek) (maxL := 7) (ret := (some .int)) (by decide) rfl ?_
  intro p e s m args below meth c s₁ B hml hv
  obtain ⟨rfl, ⟨hsz, hP, hK, hD0⟩, hU, hstr⟩ := hv
  have hx := B.exec
  have hb := B.bytes
  have hr := B.returns
  have hT := x_hT B.pre
  have hown : s.vm.findClass xR_La = some m.cls := findClass_of_methodNamed B.named
  have hlocks := B.notSynchronized
  subst hsz
  have hD := hD0.self (sz := s.heap.size)
  generalize hAe : va_A [(x, .inr (0, [.ref L, .ref S, .ref C, .ref P, .int 0, .int 0])), (L, .inr (1, [.ref tx, .ref b1, .ref b2, .int 0, .int 0])), (o, .inl (kA 3, 1, .inr (.inl fo)))] s.heap.size = A at hD hU ⊢
  have hA : ∀ q : Nat, s.heap.size ≤ q → A q := fun q h => by rw [← hAe]; exact Or.inr h
  have hS : va_S A s.heap s.heap [] := va_S.rf
  have hP : va_P D xcl [(x, .inr (0, [.ref L, .ref S, .ref C, .ref P, .int 0, .int 0])), (L, .inr (1, [.ref tx, .ref b1, .ref b2, .int 0, .int 0])), (o, .inl (kA 3, 1, .inr (.inl fo)))] s.heap := hP
  have hl := lv_entry ([.ref x, .int n, .int k, .int n2, .int k2, .ref o]) (n := 7) (Nat.le_of_ble_eq_true rfl)
  rw [lg_entry_eq]
  generalize (lg_sl ([.ref x, .int n, .int k, .int n2, .int k2, .ref o]) ++ List.replicate (7 - (lg_sl ([.ref x, .int n, .int k, .int n2, .int k2, .ref o])).length) Slot.unset).toArray = ls at hl ⊢
  have hl : lv_has ls 7 [(0, .ref x), (1, .int n), (2, .int k), (3, .int n2), (4, .int k2), (5, .ref o)] := hl
  have hex := vx_table (x := xy_La_peek) B (atoms_spec (ws := .codeWith xy_La_peek xb_La_peek 7 (some .int) [(0, 21, 24, 13), (0, 21, 28, 21)] :: wT) B.pre _ List.mem_cons_self)
  refine lv_aload hx hb xd_La_peek_0 (lv_at hl 5 rfl) ?_
  refine lv_iconst (v := 0) hx hb xd_La_peek_2 (by decide) ?_
  refine lv_aload_n hx hb xd_La_peek_3 rfl (lv_at hl 0 rfl) ?_
  refine lv_iload_n hx hb xd_La_peek_4 rfl (lv_at hl 1 rfl) ?_
  refine lv_iload_n hx hb xd_La_peek_5 rfl (lv_at hl 2 rfl) ?_
  refine lv_iload_n hx hb xd_La_peek_6 rfl (lv_at hl 3 rfl) ?_
  refine lv_iload hx hb xd_La_peek_7 (lv_at hl 4 rfl) ?_
  have hPc := hP.sub (ws' := [(x, .inr (0, [.ref L, .ref S, .ref C, .ref P, .int 0, .int 0])), (L, .inr (1, [.ref tx, .ref b1, .ref b2, .int 0, .int 0]))]) [0, 1] rfl
  have hDc := hD.sub (ws' := [(x, .inr (0, [.ref L, .ref S, .ref C, .ref P, .int 0, .int 0])), (L, .inr (1, [.ref tx, .ref b1, .ref b2, .int 0, .int 0]))]) [0, 1] (by decide) rfl
  have hFc := va_free (wc := [(x, .inr (0, [.ref L, .ref S, .ref C, .ref P, .int 0, .int 0])), (L, .inr (1, [.ref tx, .ref b1, .ref b2, .int 0, .int 0]))]) hD hS hA [0, 1] rfl
  have hkc : 0 + 1 ≤ 1 := Nat.le_of_ble_eq_true rfl
  have hks : 0 + 6 ≤ 6 := Nat.le_of_ble_eq_true rfl
  refine vx_calli (vx_runV (As := [.int n, .int k, .int n2, .int k2]) (rest := [.int 0, .ref o]) ⟨hx, hb, hml, hown, hT⟩ (xc_De_peek l hlt D kA s.heap.size sa x L S C P tx b1 b2 n k n2 k2) (cwV 4 hT (wT_V xk_156 xk_157 xk_158 xk_90 xk_155) rfl rfl rfl (by decide +kernel) ⟨Nat.le_of_ble_eq_true rfl, Nat.le_of_ble_eq_true rfl⟩) (x_preVX hK hPc hDc 0 rfl rfl hFc (xUS_kept hU hS) hstr) rfl rfl hl.1 rfl (lv_room (Nat.le_of_ble_eq_true rfl)) xd_La_peek_9 ⟨hkc, hks⟩) hS (fun q _ h => hFc q h) hFc (fun q _ h => hFc q h) (fun E ce q9 u t H1 locs ht hvm hpost hB hz1 hk1 hS hce hcv hcl => ?_) (fun r u t H1 locs ht hvm hpost hB hz1 hk1 hS => ?_)
  · obtain ⟨hE9, hP1, hD1⟩ := hB
    subst hE9
    rw [ht] at hP1
    obtain ⟨hP, hD⟩ := va_join (wr := [(o, .inl (kA 3, 1, .inr (.inl fo)))]) (w1 := [(x, .inr (0, [.ref L, .ref S, .ref C, .ref P, .int 0, .int 0])), (L, .inr (1, [.ref tx, .ref b1, .ref b2, .int 0, .int 0]))]) hP hD [0, 1] [2] rfl rfl (by decide) (by decide) hk1 hFc hP1 hD1
    generalize H1 = H at hP hS hce ⊢
    have hP : va_P D xcl [(o, .inl (kA 3, 1, .inr (.inl fo))), (x, .inr (0, [.ref L, .ref S, .ref C, .ref P, .int 0, .int 0])), (L, .inr (1, [.ref tx, .ref b1, .ref b2, .int 0, .int 0]))] H := hP
    have hD : va_D A [(o, .inl (kA 3, 1, .inr (.inl fo))), (x, .inr (0, [.ref L, .ref S, .ref C, .ref P, .int 0, .int 0])), (L, .inr (1, [.ref tx, .ref b1, .ref b2, .int 0, .int 0]))] := hD
    refine vx_catch (own := "LayerDeskLaw") (name := "java/lang/IllegalArgumentException") hown [] ⟨0, 21, 24, 13⟩ [⟨0, 21, 28, 21⟩] (by rw [hex]; rfl) (fun z hz => nomatch hz) rfl (by decide) (hT _ xk_150) (va_Nw.use rfl hK.2.2.2.2.2.1) hce hcv hcl ?_
    refine lv_astore hx hb xd_La_peek_24 hl (Nat.le_of_ble_eq_true rfl) rfl (fun ls hl => ?_)
    have hl : lv_has ls 7 [(6, .ref q9), (0, .ref x), (1, .int n), (2, .int k), (3, .int n2), (4, .int k2), (5, .ref o)] := hl
    refine lv_iconst (v := 1) hx hb xd_La_peek_26 (by decide) ?_
    have hP9 := hP.sub (ws' := [(x, .inr (0, [.ref L, .ref S, .ref C, .ref P, .int 0, .int 0])), (L, .inr (1, [.ref tx, .ref b1, .ref b2, .int 0, .int 0])), (o, .inl (kA 3, 1, .inr (.inl fo)))]) [1, 2, 0] rfl
    have hD9 := hD.sub (ws' := [(x, .inr (0, [.ref L, .ref S, .ref C, .ref P, .int 0, .int 0])), (L, .inr (1, [.ref tx, .ref b1, .ref b2, .int 0, .int 0])), (o, .inl (kA 3, 1, .inr (.inl fo)))]) [1, 2, 0] (by decide) rfl
    refine W.widen (k := 1) (n := 6) (Nat.le_of_ble_eq_true rfl) (Nat.le_of_ble_eq_true rfl) ?_
    exact W.iret (v := 1) hx hb hr (fun t ht hW => ⟨⟨1, (), rfl, rfl, by rw [ht]; exact hP9, hD9⟩, hS.F ht⟩) hS.2.2 xd_La_peek_27
  · exact absurd hpost (by exact fun h => h)
set_option maxHeartbeats 4000000 in
set_option maxRecDepth 100000 in
theorem xc_La_provider (l : Launch) (hlt : l.stackTraces = false) (D : va_G) (kA : Nat → ClassId) (sz sa : Nat) (x : Nat) (L : Nat) (S : Nat) (C : Nat) (P : Nat) (tx : Nat) (b1 : Nat) (b2 : Nat) (n : Int32) (k : Int32) (o : Nat) (fo : Nat → Int64) : Met l xy_La_provider (.codeWith xy_La_provider xb_La_provider 5 (some .int) [(0, 10, 13, 13)] :: wT) { frames := 7, cells := 1, slots := 6, locals := 107 } (va_Pc [.ref x, .int n, .int k, .ref o] (xPreX D kA sz [(x, .inr (0, [.ref L, .ref S, .ref C, .ref P, .int 0, .int 0])), (L, .inr (1, [.ref tx, .ref b1, .ref b2, .int 0, .int 0])), (o, .inl (kA 3, 1, .inr (.inl fo)))] "LayerDesk" 190 "the layer is not open, or no name" sa)) (va_Qi (fun (r : Int32) (u : Unit) => r = 1) (fun (u : Unit) t => va_P D xcl [(x, .inr (0, [.ref L, .ref S, .ref C, .ref P, .int 0, .int 0])), (L, .inr (1, [.ref tx, .ref b1, .ref b2, .int 0, .int 0])), (o, .inl (kA 3, 1, .inr (.inl fo)))] t.heap ∧ va_D (va_A [(x, .inr (0, [.ref L, .ref S, .ref C, .ref P, .int 0, .int 0])), (L, .inr (1, [.ref tx, .ref b1, .ref b2, .int 0, .int 0])), (o, .inl (kA 3, 1, .inr (.inl fo)))] sz) [(x, .inr (0, [.ref L, .ref S, .ref C, .ref P, .int 0, .int 0])), (L, .inr (1, [.ref tx, .ref b1, .ref b2, .int 0, .int 0])), (o, .inl (kA 3, 1, .inr (.inl fo)))]) (va_A [(x, .inr (0, [.ref L, .ref S, .ref C, .ref P, .int 0, .int 0])), (L, .inr (1, [.ref tx, .ref b1, .ref b2, .int 0, .int 0])), (o, .inl (kA 3, 1, .inr (.inl fo)))] sz)) 1 6 (va_A [(x, .inr (0, [.ref L, .ref S, .ref C, .ref P, .int 0, .int 0])), (L, .inr (1, [.ref tx, .ref b1, .ref b2, .int 0, .int 0])), (o, .inl (kA 3, 1, .inr (.inl fo)))] sz) := by
  refine va_MetW (cc := xb_La_provider) (maxL := 5) (ret := (some .int)) (by decide) rfl ?_
  intro p e s m args below meth c s₁ B hml hv
  obtain ⟨rfl, ⟨hsz, hP, hK, hD0⟩, hU, hstr⟩ := hv
  have hx := B.exec
  have hb := B.bytes
  have hr := B.returns
  have hT := x_hT B.pre
  have hown : s.vm.findClass xR_La = some m.cls := findClass_of_methodNamed B.named
  have hlocks := B.notSynchronized
  subst hsz
  have hD := hD0.self (sz := s.heap.size)
  generalize hAe : va_A [(x, .inr (0, [.ref L, .ref S, .ref C, .ref P, .int 0, .int 0])), (L, .inr (1, [.ref tx, .ref b1, .ref b2, .int 0, .int 0])), (o, .inl (kA 3, 1, .inr (.inl fo)))] s.heap.size = A at hD hU ⊢
  have hA : ∀ q : Nat, s.heap.size ≤ q → A q := fun q h => by rw [← hAe]; exact Or.inr h
  have hS : va_S A s.heap s.heap [] := va_S.rf
  have hP : va_P D xcl [(x, .inr (0, [.ref L, .ref S, .ref C, .ref P, .int 0, .int 0])), (L, .inr (1, [.ref tx, .ref b1, .ref b2, .int 0, .int 0])), (o, .inl (kA 3, 1, .inr (.inl fo)))] s.heap := hP
  have hl := lv_entry ([.ref x, .int n, .int k, .ref o]) (n := 5) (Nat.le_of_ble_eq_true rfl)
  rw [lg_entry_eq]
  generalize (lg_sl ([.ref x, .int n, .int k, .ref o]) ++ List.replicate (5 - (lg_sl ([.ref x, .int n, .int k, .ref o])).length) Slot.unset).toArray = ls at hl ⊢
  have hl : lv_has ls 5 [(0, .ref x), (1, .int n), (2, .int k), (3, .ref o)] := hl
  have hex := vx_table (x := xy_La_provider) B (atoms_spec (ws := .codeWith xy_La_provider xb_La_provider 5 (some .int) [(0, 10, 13, 13)] :: wT) B.pre _ List.mem_cons_self)
  refine lv_aload_n hx hb xd_La_provider_0 rfl (lv_at hl 3 rfl) ?_
  refine lv_iconst (v := 0) hx hb xd_La_provider_1 (by decide) ?_
  refine lv_aload_n hx hb xd_La_provider_2 rfl (lv_at hl 0 rfl) ?_
  refine lv_iload_n hx hb xd_La_provider_3 rfl (lv_at hl 1 rfl) ?_
  refine lv_iload_n hx hb xd_La_provider_4 rfl (lv_at hl 2 rfl) ?_
  have hPc := hP.sub (ws' := [(x, .inr (0, [.ref L, .ref S, .ref C, .ref P, .int 0, .int 0])), (L, .inr (1, [.ref tx, .ref b1, .ref b2, .int 0, .int 0]))]) [0, 1] rfl
  have hDc := hD.sub (ws' := [(x, .inr (0, [.ref L, .ref S, .ref C, .ref P, .int 0, .int 0])), (L, .inr (1, [.ref tx, .ref b1, .ref b2, .int 0, .int 0]))]) [0, 1] (by decide) rfl
  have hFc := va_free (wc := [(x, .inr (0, [.ref L, .ref S, .ref C, .ref P, .int 0, .int 0])), (L, .inr (1, [.ref tx, .ref b1, .ref b2, .int 0, .int 0]))]) hD hS hA [0, 1] rfl
  have hkc : 0 + 1 ≤ 1 := Nat.le_of_ble_eq_true rfl
  have hks : 0 + 6 ≤ 6 := Nat.le_of_ble_eq_true rfl
  refine vx_calli (vx_runV (As := [.int n, .int k]) (rest := [.int 0, .ref o]) ⟨hx, hb, hml, hown, hT⟩ (xc_De_provider l hlt D kA s.heap.size sa x L S C P tx b1 b2 n k) (cwV 2 hT (wT_V xk_160 xk_161 xk_162 xk_90 xk_159) rfl rfl rfl (by decide +kernel) ⟨Nat.le_of_ble_eq_true rfl, Nat.le_of_ble_eq_true rfl⟩) (x_preVX hK hPc hDc 0 rfl rfl hFc (xUS_kept hU hS) hstr) rfl rfl hl.1 rfl (lv_room (Nat.le_of_ble_eq_true rfl)) xd_La_provider_5 ⟨hkc, hks⟩) hS (fun q _ h => hFc q h) hFc (fun q _ h => hFc q h) (fun E ce q9 u t H1 locs ht hvm hpost hB hz1 hk1 hS hce hcv hcl => ?_) (fun r u t H1 locs ht hvm hpost hB hz1 hk1 hS => ?_)
  · obtain ⟨hE9, hP1, hD1⟩ := hB
    subst hE9
    rw [ht] at hP1
    obtain ⟨hP, hD⟩ := va_join (wr := [(o, .inl (kA 3, 1, .inr (.inl fo)))]) (w1 := [(x, .inr (0, [.ref L, .ref S, .ref C, .ref P, .int 0, .int 0])), (L, .inr (1, [.ref tx, .ref b1, .ref b2, .int 0, .int 0]))]) hP hD [0, 1] [2] rfl rfl (by decide) (by decide) hk1 hFc hP1 hD1
    generalize H1 = H at hP hS hce ⊢
    have hP : va_P D xcl [(o, .inl (kA 3, 1, .inr (.inl fo))), (x, .inr (0, [.ref L, .ref S, .ref C, .ref P, .int 0, .int 0])), (L, .inr (1, [.ref tx, .ref b1, .ref b2, .int 0, .int 0]))] H := hP
    have hD : va_D A [(o, .inl (kA 3, 1, .inr (.inl fo))), (x, .inr (0, [.ref L, .ref S, .ref C, .ref P, .int 0, .int 0])), (L, .inr (1, [.ref tx, .ref b1, .ref b2, .int 0, .int 0]))] := hD
    refine vx_catch (own := "LayerDeskLaw") (name := "java/lang/IllegalArgumentException") hown [] ⟨0, 10, 13, 13⟩ [] (by rw [hex]; rfl) (fun z hz => nomatch hz) rfl (by decide) (hT _ xk_150) (va_Nw.use rfl hK.2.2.2.2.2.1) hce hcv hcl ?_
    refine lv_astore hx hb xd_La_provider_13 hl (Nat.le_of_ble_eq_true rfl) rfl (fun ls hl => ?_)
    have hl : lv_has ls 5 [(4, .ref q9), (0, .ref x), (1, .int n), (2, .int k), (3, .ref o)] := hl
    refine lv_iconst (v := 1) hx hb xd_La_provider_15 (by decide) ?_
    have hP9 := hP.sub (ws' := [(x, .inr (0, [.ref L, .ref S, .ref C, .ref P, .int 0, .int 0])), (L, .inr (1, [.ref tx, .ref b1, .ref b2, .int 0, .int 0])), (o, .inl (kA 3, 1, .inr (.inl fo)))]) [1, 2, 0] rfl
    have hD9 := hD.sub (ws' := [(x, .inr (0, [.ref L, .ref S, .ref C, .ref P, .int 0, .int 0])), (L, .inr (1, [.ref tx, .ref b1, .ref b2, .int 0, .int 0])), (o, .inl (kA 3, 1, .inr (.inl fo)))]) [1, 2, 0] (by decide) rfl
    refine W.widen (k := 1) (n := 6) (Nat.le_of_ble_eq_true rfl) (Nat.le_of_ble_eq_true rfl) ?_
    exact W.iret (v := 1) hx hb hr (fun t ht hW => ⟨⟨1, (), rfl, rfl, by rw [ht]; exact hP9, hD9⟩, hS.F ht⟩) hS.2.2 xd_La_provider_16
  · exact absurd hpost (by exact fun h => h)
