theorem k5s_0 : (Cond.fieldLink "LayerDesk$Member" 44 "LayerDesk$Member" "required" "[LLayerDesk$Member;") ∈ wT := wT_t (List.mem_append_right _ (List.mem_append_right _ (List.mem_append_left _ (List.mem_of_getElem? (i := 186) rfl)))) rfl
theorem k5s_1 : (Cond.fieldLink "LayerDesk$Member" 24 "LayerDesk$Member" "home" "LLayerDesk$Layer;") ∈ wT := wT_t (List.mem_append_right _ (List.mem_append_right _ (List.mem_append_left _ (List.mem_of_getElem? (i := 179) rfl)))) rfl
theorem k5s_2 : (Cond.fieldLink "LayerDesk$Member" 28 "LayerDesk$Member" "descriptor" "LLayerDesk$Descriptor;") ∈ wT := wT_t (List.mem_append_right _ (List.mem_append_right _ (List.mem_append_left _ (List.mem_of_getElem? (i := 181) rfl)))) rfl
theorem k5s_3 : (Cond.fieldLink "LayerDesk$Member" 32 "LayerDesk$Descriptor" "required" "LLayerDesk$Names;") ∈ wT := wT_t (List.mem_append_right _ (List.mem_append_left _ (List.mem_of_getElem? (i := 67) rfl))) rfl
theorem k5s_4 : (Cond.code xy_Na_at xb_Na_at 2 (some .int)) ∈ wT := wT_t (List.mem_append_right _ (List.mem_append_right _ (List.mem_append_left _ (List.mem_of_getElem? (i := 93) rfl)))) rfl
theorem k5s_5 : (Cond.methodLink "LayerDesk$Member" 47 xy_Na_at) ∈ wT := wT_t (List.mem_append_right _ (List.mem_append_right _ (List.mem_append_left _ (List.mem_of_getElem? (i := 216) rfl)))) rfl
theorem k5s_6 : (Cond.instanceMethod xy_Na_at) ∈ wT := wT_t (List.mem_append_right _ (List.mem_append_right _ (List.mem_append_left _ (List.mem_of_getElem? (i := 91) rfl)))) rfl
theorem k5s_7 : (Cond.selects "LayerDesk$Names" xy_Na_at xy_Na_at) ∈ wT := wT_t (List.mem_append_right _ (List.mem_append_right _ (List.mem_append_left _ (List.mem_of_getElem? (i := 92) rfl)))) rfl
theorem k5s_8 : (Cond.initialized "LayerDesk$Names") ∈ wT := wT_t (List.mem_append_left _ (List.mem_of_getElem? (i := 11) rfl)) rfl
theorem k5s_9 : (Cond.code xy_Ly_lookUp xb_Ly_lookUp 4 (some (.object "LayerDesk$Member"))) ∈ wT := wT_t (List.mem_append_right _ (List.mem_append_right _ (List.mem_append_left _ (List.mem_of_getElem? (i := 85) rfl)))) rfl
theorem k5s_10 : (Cond.methodLink "LayerDesk$Member" 51 xy_Ly_lookUp) ∈ wT := wT_t (List.mem_append_right _ (List.mem_append_right _ (List.mem_append_left _ (List.mem_of_getElem? (i := 217) rfl)))) rfl
theorem k5s_11 : (Cond.instanceMethod xy_Ly_lookUp) ∈ wT := wT_t (List.mem_append_right _ (List.mem_append_right _ (List.mem_append_left _ (List.mem_of_getElem? (i := 83) rfl)))) rfl
theorem k5s_12 : (Cond.selects "LayerDesk$Layer" xy_Ly_lookUp xy_Ly_lookUp) ∈ wT := wT_t (List.mem_append_right _ (List.mem_append_right _ (List.mem_append_left _ (List.mem_of_getElem? (i := 84) rfl)))) rfl
theorem k5s_13 : (Cond.initialized "LayerDesk$Layer") ∈ wT := wT_t (List.mem_append_left _ (List.mem_of_getElem? (i := 19) rfl)) rfl
theorem k5s_14 : (Cond.fieldLink "LayerDesk$Member" 57 "LayerDesk$Descriptor" "optional" "[Z") ∈ wT := wT_t (List.mem_append_right _ (List.mem_append_left _ (List.mem_of_getElem? (i := 73) rfl))) rfl
theorem k5s_15 : (Cond.fieldLink "LayerDesk$Member" 65 "LayerDesk$Descriptor" "transitive" "[Z") ∈ wT := wT_t (List.mem_append_right _ (List.mem_append_left _ (List.mem_of_getElem? (i := 71) rfl))) rfl
theorem k5s_16 : (Cond.fieldLink "LayerDesk$Member" 18 "LayerDesk$Member" "carried" "LLayerDesk$Reach;") ∈ wT := wT_t (List.mem_append_right _ (List.mem_append_right _ (List.mem_append_left _ (List.mem_of_getElem? (i := 189) rfl)))) rfl
theorem k5s_17 : (Cond.code xy_Re_mark xb_Re_mark 2 none) ∈ wT := wT_t (List.mem_append_right _ (List.mem_append_right _ (List.mem_append_left _ (List.mem_of_getElem? (i := 221) rfl)))) rfl
theorem k5s_18 : (Cond.methodLink "LayerDesk$Member" 61 xy_Re_mark) ∈ wT := wT_t (List.mem_append_right _ (List.mem_append_right _ (List.mem_append_left _ (List.mem_of_getElem? (i := 218) rfl)))) rfl
theorem k5s_19 : (Cond.instanceMethod xy_Re_mark) ∈ wT := wT_t (List.mem_append_right _ (List.mem_append_right _ (List.mem_append_left _ (List.mem_of_getElem? (i := 219) rfl)))) rfl
theorem k5s_20 : (Cond.selects "LayerDesk$Reach" xy_Re_mark xy_Re_mark) ∈ wT := wT_t (List.mem_append_right _ (List.mem_append_right _ (List.mem_append_left _ (List.mem_of_getElem? (i := 220) rfl)))) rfl
theorem k5s_21 : (Cond.initialized "LayerDesk$Reach") ∈ wT := wT_t (List.mem_append_left _ (List.mem_of_getElem? (i := 21) rfl)) rfl
theorem k5s_22 : (Cond.fieldLink "LayerDesk$Member" 12 "LayerDesk$Member" "leading" "LLayerDesk$Reach;") ∈ wT := wT_t (List.mem_append_right _ (List.mem_append_right _ (List.mem_append_left _ (List.mem_of_getElem? (i := 187) rfl)))) rfl
theorem k5s_23 : (Cond.code xy_Re_join xb_Re_join 3 none) ∈ wT := wT_t (List.mem_append_right _ (List.mem_append_right _ (List.mem_append_left _ (List.mem_of_getElem? (i := 225) rfl)))) rfl
theorem k5s_24 : (Cond.methodLink "LayerDesk$Member" 68 xy_Re_join) ∈ wT := wT_t (List.mem_append_right _ (List.mem_append_right _ (List.mem_append_left _ (List.mem_of_getElem? (i := 222) rfl)))) rfl
theorem k5s_25 : (Cond.instanceMethod xy_Re_join) ∈ wT := wT_t (List.mem_append_right _ (List.mem_append_right _ (List.mem_append_left _ (List.mem_of_getElem? (i := 223) rfl)))) rfl
theorem k5s_26 : (Cond.selects "LayerDesk$Reach" xy_Re_join xy_Re_join) ∈ wT := wT_t (List.mem_append_right _ (List.mem_append_right _ (List.mem_append_left _ (List.mem_of_getElem? (i := 224) rfl)))) rfl
set_option maxHeartbeats 4000000 in
set_option maxRecDepth 100000 in
theorem xc_Me_takeFirstStepsX (l : Launch) (D : va_G) (kA : Nat → ClassId) (sz : Nat) (ad : Nat → Nat → Nat) (E : Nat → Nat → va_E) (RL : List (Nat × Nat)) (g : Nat → Nat → Int32) (nd : Nat) (nL : Nat) (n : Nat) (k : Nat) (d : Nat) (rs : Nat) (fr : Nat → Option Nat) (ga : Nat → Int32) (gb : Nat → Int32) (ym0 : (20 + n, 10 + 10 * k) ∈ RL) (yc0 : E (20 + n) (10 + 10 * k) = .inr (6, [.ref (ad (20 + n) 0), .ref (ad (1 + d) 0), .ref (ad (20 + n) (11 + 10 * k)), .ref (ad (20 + n) (12 + 10 * k)), .ref (ad (20 + n) (13 + 10 * k)), .ref (ad (20 + n) (14 + 10 * k))])) (ym1 : (20 + n, 11 + 10 * k) ∈ RL) (yc1 : E (20 + n) (11 + 10 * k) = .inl (kA 6, rs, .inr (.inr (.inr (.inr fr))))) (ym2 : (20 + n, 12 + 10 * k) ∈ RL) (yc2 : E (20 + n) (12 + 10 * k) = .inr (10, [.ref (ad (20 + n) (15 + 10 * k))])) (ym3 : (20 + n, 13 + 10 * k) ∈ RL) (yc3 : E (20 + n) (13 + 10 * k) = .inr (10, [.ref (ad (20 + n) (16 + 10 * k))])) (ym4 : (20 + n, 15 + 10 * k) ∈ RL) (yc4 : E (20 + n) (15 + 10 * k) = .inl (kA 0, 6, .inl ga)) (ym5 : (20 + n, 16 + 10 * k) ∈ RL) (yc5 : E (20 + n) (16 + 10 * k) = .inl (kA 0, 6, .inl gb)) (hDIs : DIs kA ad E RL nd) (hLIs : LIs kA ad E RL nd nL) (hnd12 : nd ≤ 12) (hnL : nL ≤ 6) (hn : n < nL) (hd : d < nd) (hrs : rs ≤ 5) (hTD : TDs g E nd) (hTL : TLas g ad E nd nL) (hrsd : g 12 d = nI rs) (hdk : mdv g n k = d) (hCB : CBs g E n) (hkm : k < iN (g 20 n)) : Met l xy_Me_takeFirstSteps (.code xy_Me_takeFirstSteps xb_Me_takeFirstSteps 3 none :: wT) { frames := 1, cells := 0, slots := 0, locals := 23 } (va_Pc [.ref (ad (20 + n) (10 + 10 * k))] (xPre D kA sz (rp ad E RL))) (va_Qv (fun (u : Nat → Nat → va_E) => ∃ fr2 : Nat → Option Nat, ∃ ga2 : Nat → Int32, ∃ gb2 : Nat → Int32, (RQX g kA ad u RL nd n d rs fr2 ∧ (∀ t, t < 72 → (BS ga2 t ↔ (BS ga t ∨ LSp g n d rs t))) ∧ ∀ t, t < 72 → (BS gb2 t ↔ (BS gb t ∨ CSp g n d rs t))) ∧ (u (20 + n) (11 + 10 * k) = .inl (kA 6, rs, .inr (.inr (.inr (.inr fr2))))) ∧ (u (20 + n) (15 + 10 * k) = .inl (kA 0, 6, .inl ga2)) ∧ (u (20 + n) (16 + 10 * k) = .inl (kA 0, 6, .inl gb2)) ∧ ((∀ b2 o2, ¬ (b2 = 20 + n ∧ o2 = 11 + 10 * k) → ¬ (b2 = 20 + n ∧ o2 = 15 + 10 * k) → ¬ (b2 = 20 + n ∧ o2 = 16 + 10 * k) → u b2 o2 = E b2 o2))) (fun (u : Nat → Nat → va_E) t => va_P D xcl (rp ad u RL) t.heap ∧ va_D (va_A (rp ad E RL) sz) (rp ad u RL)) (va_A (rp ad E RL) sz)) 0 0 (va_A (rp ad E RL) sz) := by
  refine Met.ofW (cc := xb_Me_takeFirstSteps) (maxL := 3) (ret := none) (by decide) rfl ?_
  intro p e s m args below meth c s₁ B hml hv
  obtain ⟨rfl, hsz, hP, hK, hD0⟩ := hv
  have hx := B.exec
  have hb := B.bytes
  have hr := B.returns
  have hT := x_hT B.pre
  have hown : s.vm.findClass xR_Me = some m.cls := findClass_of_methodNamed B.named
  have hlocks := B.notSynchronized
  subst hsz
  have hD := hD0.self (sz := s.heap.size)
  generalize hAe : va_A (rp ad E RL) s.heap.size = A at hD ⊢
  have hA : ∀ q : Nat, s.heap.size ≤ q → A q := fun q h => by rw [← hAe]; exact Or.inr h
  have hS : va_S A s.heap s.heap [] := va_S.rf
  have hl := lv_entry ([.ref (ad (20 + n) (10 + 10 * k))]) (n := 3) (Nat.le_of_ble_eq_true rfl)
  rw [lg_entry_eq]
  generalize (lg_sl ([.ref (ad (20 + n) (10 + 10 * k))]) ++ List.replicate (3 - (lg_sl ([.ref (ad (20 + n) (10 + 10 * k))])).length) Slot.unset).toArray = ls at hl ⊢
  have hl : lv_has ls 3 [(0, .ref (ad (20 + n) (10 + 10 * k)))] := hl
  have hP : va_P D xcl (rp ad E RL) s.heap := hP
  have hDIs0 := hDIs
  have hLIs0 := hLIs
  refine lv_iconst (v := 0) hx hb xd_Me_takeFirstSteps_0 (by decide) ?_
  refine lv_istore_n hx hb xd_Me_takeFirstSteps_1 rfl hl (Nat.le_of_ble_eq_true rfl) rfl (fun ls hl => ?_)
  have hl : lv_has ls 3 [(1, .int 0), (0, .ref (ad (20 + n) (10 + 10 * k)))] := hl
  refine xlab (σ := Nat × (Nat → Nat → va_E) × (Nat → Option Nat) × (Nat → Int32) × (Nat → Int32)) (ml := 3) 2 (fun (i, E1, fr1, ga1, gb1) => [(1, .int (nI i)), (0, .ref (ad (20 + n) (10 + 10 * k)))]) (fun (i, E1, fr1, ga1, gb1) => []) (fun (i, E1, fr1, ga1, gb1) => rp ad E1 RL) (fun (i, E1, fr1, ga1, gb1) => (i ≤ rs) ∧ (E1 (20 + n) (11 + 10 * k) = .inl (kA 6, rs, .inr (.inr (.inr (.inr fr1))))) ∧ (E1 (20 + n) (15 + 10 * k) = .inl (kA 0, 6, .inl ga1)) ∧ (E1 (20 + n) (16 + 10 * k) = .inl (kA 0, 6, .inl gb1)) ∧ (∀ b2 o2, ¬ (b2 = 20 + n ∧ o2 = 11 + 10 * k) → ¬ (b2 = 20 + n ∧ o2 = 15 + 10 * k) → ¬ (b2 = 20 + n ∧ o2 = 16 + 10 * k) → E1 b2 o2 = E b2 o2) ∧ (RQX g kA ad E1 RL nd n d i fr1) ∧ (∀ t, t < 72 → (BS ga1 t ↔ (BS ga t ∨ LSp g n d i t))) ∧ (∀ t, t < 72 → (BS gb1 t ↔ (BS gb t ∨ CSp g n d i t)))) (fun (i, E1, fr1, ga1, gb1) => rs - i) ?_ (0, E, fr, ga, gb) _ _ _ (lv_sub hl [0, 1] rfl) hP hD hS ⟨(show 0 ≤ rs from by first | assumption | omega), (show E (20 + n) (11 + 10 * k) = .inl (kA 6, rs, .inr (.inr (.inr (.inr fr)))) from yc1), (show E (20 + n) (15 + 10 * k) = .inl (kA 0, 6, .inl ga) from yc4), (show E (20 + n) (16 + 10 * k) = .inl (kA 0, 6, .inl gb) from yc5), (show ∀ b2 o2, ¬ (b2 = 20 + n ∧ o2 = 11 + 10 * k) → ¬ (b2 = 20 + n ∧ o2 = 15 + 10 * k) → ¬ (b2 = 20 + n ∧ o2 = 16 + 10 * k) → E b2 o2 = E b2 o2 from fun b2 o2 h09 h19 h29 => rfl), (show RQX g kA ad E RL nd n d 0 fr from fun j hj => absurd hj (by omega)), (show ∀ t, t < 72 → (BS ga t ↔ (BS ga t ∨ LSp g n d 0 t)) from fun t _ => ⟨Or.inl, fun q => q.elim id (fun z => absurd z LSp_0)⟩), (show ∀ t, t < 72 → (BS gb t ↔ (BS gb t ∨ CSp g n d 0 t)) from fun t _ => ⟨Or.inl, fun q => q.elim id (fun z => absurd z CSp_0)⟩)⟩
  intro n9 ih1 a9 ls H locs hμ hl hP hD hS hI
  subst hμ
  obtain ⟨i, E1, fr1, ga1, gb1⟩ := a9
  obtain ⟨hi, hcA1, hcA5, hcA6, hfr, hRQ, hL, hC⟩ := hI
  have hi : i ≤ rs := hi
  have hcA1 : E1 (20 + n) (11 + 10 * k) = .inl (kA 6, rs, .inr (.inr (.inr (.inr fr1)))) := hcA1
  have hcA5 : E1 (20 + n) (15 + 10 * k) = .inl (kA 0, 6, .inl ga1) := hcA5
  have hcA6 : E1 (20 + n) (16 + 10 * k) = .inl (kA 0, 6, .inl gb1) := hcA6
  have hfr : ∀ b2 o2, ¬ (b2 = 20 + n ∧ o2 = 11 + 10 * k) → ¬ (b2 = 20 + n ∧ o2 = 15 + 10 * k) → ¬ (b2 = 20 + n ∧ o2 = 16 + 10 * k) → E1 b2 o2 = E b2 o2 := hfr
  have hRQ : RQX g kA ad E1 RL nd n d i fr1 := hRQ
  have hL : ∀ t, t < 72 → (BS ga1 t ↔ (BS ga t ∨ LSp g n d i t)) := hL
  have hC : ∀ t, t < 72 → (BS gb1 t ↔ (BS gb t ∨ CSp g n d i t)) := hC
  have hl : lv_has ls 3 [(1, .int (nI i)), (0, .ref (ad (20 + n) (10 + 10 * k)))] := hl
  have hP : va_P D xcl (rp ad E1 RL) H := hP
  have hD : va_D A (rp ad E1 RL) := hD
  have hTD1 : TDs g E1 nd := TDs_same (fun d9 hd9 => fun2 fun o9 => hfr (1 + d9) o9 (by omega) (by omega) (by omega)) hTD
  have hTL1 : TLas g ad E1 nd nL := TLas_ro (fun n9 o9 hn9 ho9 => hfr (20 + n9) o9 (by omega) (by omega) (by omega)) hTL
  have hCB1 : CBs g E1 n := CBs_same (fun la o9 hla => hfr (20 + la) o9 (by omega) (by omega) (by omega)) hCB
  have hRU : RU kA E E1 := RU3 (b := 20 + n) (by omega) yc1 yc4 yc5 hcA1 hcA5 hcA6 hfr
  have hDIs := DIs_RU hRU hnd12 hDIs0
  have hLIs := LIs_RU hRU hLIs0
  have c_2 : E1 (20 + n) (10 + 10 * k) = .inr (6, [.ref (ad (20 + n) 0), .ref (ad (1 + d) 0), .ref (ad (20 + n) (11 + 10 * k)), .ref (ad (20 + n) (12 + 10 * k)), .ref (ad (20 + n) (13 + 10 * k)), .ref (ad (20 + n) (14 + 10 * k))]) := (hfr (20 + n) (10 + 10 * k) (by omega) (by omega) (by omega)).trans yc0
  have c_3 : E1 (20 + n) (12 + 10 * k) = .inr (10, [.ref (ad (20 + n) (15 + 10 * k))]) := (hfr (20 + n) (12 + 10 * k) (by omega) (by omega) (by omega)).trans yc2
  have c_4 : E1 (20 + n) (13 + 10 * k) = .inr (10, [.ref (ad (20 + n) (16 + 10 * k))]) := (hfr (20 + n) (13 + 10 * k) (by omega) (by omega) (by omega)).trans yc3
  refine lv_iload_n hx hb xd_Me_takeFirstSteps_2 rfl (lv_at hl 0 rfl) ?_
  refine lv_aload_n hx hb xd_Me_takeFirstSteps_3 rfl (lv_at hl 1 rfl) ?_
  refine px_get (D := D) (ci := 6) (v := .ref (ad (20 + n) (11 + 10 * k))) (C := xR_Me) (T := xT_Me) (N := 6) hx hb hT xi_Me hown hK.1 hP ym0 c_2 rfl 2 (by decide) (hT _ k5s_0) (fun _ h9 => h9) rfl xd_Me_takeFirstSteps_4 ?_
  refine px_alen hx hb hK.1 hP ym1 hcA1 6 rfl xd_Me_takeFirstSteps_7 ?_
  refine W.eq (g2 := F0 m 8 ls [.int (nI rs), .int (nI i)]) rfl ?_
  refine xn_ge (a := i) (b := rs) (tgt := 113) hx hb xd_Me_takeFirstSteps_8 (by decide) (by omega) (by omega) (fun hc5 => ?_) (fun hc5 => ?_)
  · exact W.vret hx hb hr (fun t ht hW => ⟨⟨E1, rfl, ⟨fr1, ga1, gb1, (by rw [show rs = i by omega]; exact ⟨hRQ, hL, hC⟩), hcA1, hcA5, hcA6, (fun b2 o2 h09 h19 h29 => by show E1 b2 o2 = _; rw [hfr b2 o2 (by omega) (by omega) (by omega)])⟩, by rw [ht]; exact hP, hD⟩, hS.F ht⟩) hS.2.2 xd_Me_takeFirstSteps_113
  · refine lv_aload_n hx hb xd_Me_takeFirstSteps_11 rfl (lv_at hl 1 rfl) ?_
    refine px_get (D := D) (ci := 6) (v := .ref (ad (20 + n) 0)) (C := xR_Me) (T := xT_Me) (N := 6) hx hb hT xi_Me hown hK.1 hP ym0 c_2 rfl 0 (by decide) (hT _ k5s_1) (fun _ h9 => h9) rfl xd_Me_takeFirstSteps_12 ?_
    refine lv_aload_n hx hb xd_Me_takeFirstSteps_15 rfl (lv_at hl 1 rfl) ?_
    refine px_get (D := D) (ci := 6) (v := .ref (ad (1 + d) 0)) (C := xR_Me) (T := xT_Me) (N := 6) hx hb hT xi_Me hown hK.1 hP ym0 c_2 rfl 1 (by decide) (hT _ k5s_2) (fun _ h9 => h9) rfl xd_Me_takeFirstSteps_16 ?_
    obtain ⟨hm_6, fd_6, nm_6, sd_6, k0_6, k1_6, k2_6, k3_6, f0_6, f1_6, f2_6, f3_6, fe_6, fo_6, tr_6, op_6, hk0_6, hk1_6, hk2_6, hk3_6, q0_6, q1_6, q2_6, q3_6, q4_6, q5_6, q6_6, q7_6, q8_6, q9_6, q10_6, q11_6, q12_6, hg_6⟩ := id (hDIs d (by omega))
    have c_7 : E1 (1 + d) 0 = .inr (7, [.int (nI d), .int fd_6, .int nm_6, .ref (ad (1 + d) 1), .ref (ad (1 + d) 9), .ref (ad (1 + d) 10), .ref (ad (1 + d) 2), .ref (ad (1 + d) 11), .ref (ad (1 + d) 12), .ref (ad (1 + d) 3), .ref (ad (1 + d) 4), .int sd_6]) := q0_6
    have m_8 : (1 + d, 0) ∈ RL := hm_6 0 (by decide)
    have c_9 : E1 (1 + d) 1 = .inr (8, [.ref (ad (1 + d) 5), .int (nI k0_6)]) := q1_6
    have m_10 : (1 + d, 1) ∈ RL := hm_6 1 (by decide)
    have c_11 : E1 (1 + d) 2 = .inr (8, [.ref (ad (1 + d) 6), .int (nI k1_6)]) := q2_6
    have m_12 : (1 + d, 2) ∈ RL := hm_6 2 (by decide)
    have c_13 : E1 (1 + d) 3 = .inr (8, [.ref (ad (1 + d) 7), .int (nI k2_6)]) := q3_6
    have m_14 : (1 + d, 3) ∈ RL := hm_6 3 (by decide)
    have c_15 : E1 (1 + d) 4 = .inr (8, [.ref (ad (1 + d) 8), .int (nI k3_6)]) := q4_6
    have m_16 : (1 + d, 4) ∈ RL := hm_6 4 (by decide)
    have c_17 : E1 (1 + d) 5 = .inl (kA 0, 6, .inl f0_6) := q5_6
    have m_18 : (1 + d, 5) ∈ RL := hm_6 5 (by decide)
    have c_19 : E1 (1 + d) 6 = .inl (kA 0, 5, .inl f1_6) := q6_6
    have m_20 : (1 + d, 6) ∈ RL := hm_6 6 (by decide)
    have c_21 : E1 (1 + d) 7 = .inl (kA 0, 3, .inl f2_6) := q7_6
    have m_22 : (1 + d, 7) ∈ RL := hm_6 7 (by decide)
    have c_23 : E1 (1 + d) 8 = .inl (kA 0, 3, .inl f3_6) := q8_6
    have m_24 : (1 + d, 8) ∈ RL := hm_6 8 (by decide)
    have c_25 : E1 (1 + d) 9 = .inl (kA 8, 6, .inr (.inr (.inr (.inr fe_6)))) := q9_6
    have m_26 : (1 + d, 9) ∈ RL := hm_6 9 (by decide)
    have c_27 : E1 (1 + d) 10 = .inl (kA 8, 6, .inr (.inr (.inr (.inr fo_6)))) := q10_6
    have m_28 : (1 + d, 10) ∈ RL := hm_6 10 (by decide)
    have c_29 : E1 (1 + d) 11 = .inl (kA 2, 5, .inl tr_6) := q11_6
    have m_30 : (1 + d, 11) ∈ RL := hm_6 11 (by decide)
    have c_31 : E1 (1 + d) 12 = .inl (kA 2, 5, .inl op_6) := q12_6
    have m_32 : (1 + d, 12) ∈ RL := hm_6 12 (by decide)
    have hg_6 : ∀ w9, w9 < k0_6 → fe_6 w9 = some (ad (1 + d) (20 + 3 * w9)) ∧ fo_6 w9 = some (ad (1 + d) (38 + 3 * w9)) ∧ GI kA (ad (1 + d)) (E1 (1 + d)) (fun o => (1 + d, o) ∈ RL) (20 + 3 * w9) (21 + 3 * w9) (22 + 3 * w9) ∧ GI kA (ad (1 + d)) (E1 (1 + d)) (fun o => (1 + d, o) ∈ RL) (38 + 3 * w9) (39 + 3 * w9) (40 + 3 * w9) := hg_6
    obtain ⟨hTT_6, tgr_6⟩ := TD_get hk0_6 hk1_6 hk2_6 hk3_6 c_7 c_9 c_11 c_13 c_15 c_17 c_19 c_21 c_23 c_29 c_31 (hTD1 d (by omega))
    obtain ⟨tfd_6, tnm_6, tsd_6, tk0_6, tf0_6, tk1_6, tf1_6, tk2_6, tk3_6⟩ := id hTT_6
    have ik0_6 : iN (g 5 d) = k0_6 := by rw [← tk0_6, iN_nI (by omega)]
    have ik1_6 : iN (g 12 d) = k1_6 := by rw [← tk1_6, iN_nI (by omega)]
    refine px_get (D := D) (ci := 7) (v := .ref (ad (1 + d) 2)) (C := xR_Ds) (T := xT_Ds) (N := 12) hx hb hT xi_Ds hown hK.1 hP m_8 c_7 rfl 6 (by decide) (hT _ k5s_3) (fun _ h9 => h9) rfl xd_Me_takeFirstSteps_19 ?_
    refine lv_iload_n hx hb xd_Me_takeFirstSteps_22 rfl (lv_at hl 0 rfl) ?_
    have hFc := px_free hD hS hA
    refine va_calli (va_runV (As := [.int (nI i)]) (rest := [.ref (ad (20 + n) 0)]) ⟨hx, hb, hml, hown, hT⟩ (xc_Na_at l D kA H.size ad E1 RL (1 + d) 2 6 5 k1_6 f1_6 i m_12 c_11 m_20 c_19 (by first | assumption | omega) (by first | assumption | omega) (by first | assumption | omega)) (cwV 1 hT (wT_V k5s_5 k5s_6 k5s_7 k5s_8 k5s_4) rfl rfl rfl (by decide +kernel) ⟨Nat.le_of_ble_eq_true rfl, Nat.le_of_ble_eq_true rfl⟩) (px_preV hK hP hD m_12 c_11 rfl) rfl rfl hl.1 rfl (lv_room (Nat.le_of_ble_eq_true rfl)) xd_Me_takeFirstSteps_23 ⟨(Nat.le_of_ble_eq_true rfl), (Nat.le_of_ble_eq_true rfl)⟩) hS (fun q _ h => hFc q h) hFc (fun r33 u34 t H1 locs ht hvm hp35 hB hz1 hk1 hS => ?_)
    obtain ⟨hP1, hD1⟩ := hB
    rw [ht] at hP1
    have hD1 := hD1.weaken (fun _ _ _ h => hFc _ h)
    generalize H1 = H at hP1 hS ⊢
    have hP := hP1
    have hD := hD1
    have hP : va_P D xcl (rp ad E1 RL) H := hP
    have hD : va_D A (rp ad E1 RL) := hD
    have hp35 : r33 = g 13 (5 * d + i) := by
      rcases hp35 with ⟨q, q2⟩ | ⟨q, _⟩
      · rw [q2]; exact (tf1_6 i q).1
      · have q3 : k1_6 = rs := nI_inj (by omega) (by omega) (tk1_6.trans hrsd)
        omega
    subst hp35
    have hP : va_P D xcl (rp ad E1 RL) H := hP
    have hD : va_D A (rp ad E1 RL) := hD
    have hk1r : k1_6 = rs := nI_inj (by omega) (by omega) (tk1_6.trans hrsd)
    have hti9 := tf1_6 i (by omega)
    have hFc := px_free hD hS hA
    obtain ⟨m0_36, m1_36, pv_36, op_36, mk_36, fm_36, hmk_36, hpv_36, q0_36, q1_36, hk_36⟩ := id (hLIs n (by omega))
    have c_37 : E1 (20 + n) 0 = .inr (5, [.int (nI n), pv_36, .ref (ad (20 + n) 1), .int op_36]) := q0_36
    have m_38 : (20 + n, 0) ∈ RL := m0_36
    have c_39 : E1 (20 + n) 1 = .inl (kA 6, mk_36, .inr (.inr (.inr (.inr fm_36)))) := q1_36
    have m_40 : (20 + n, 1) ∈ RL := m1_36
    obtain ⟨top_36, ⟨lq_36, hlq_36, h19_36, hpv2_36⟩, h20_36, tmd_36⟩ := TLa_get c_37 c_39 (hTL1 n (by omega))
    have c_41 : E1 (20 + n) 0 = .inr (5, [.int (nI n), (lyv ad lq_36), .ref (ad (20 + n) 1), .int op_36]) := by rw [← hpv2_36]; exact c_37
    have i20_36 : iN (g 20 n) = mk_36 := by rw [h20_36, iN_nI (by omega)]
    refine va_callq (va_runV (As := [.int (g 13 (5 * d + i))]) (rest := []) ⟨hx, hb, hml, hown, hT⟩ (xc_Ly_lookUpX l D kA H.size ad E1 RL g nd nL n (g 13 (5 * d + i)) (by first | assumption | omega) (by first | assumption | omega) (by first | assumption | omega) (by first | assumption | omega) hTD1 hTL1 (by first | assumption | omega)) (cwV 1 hT (wT_V k5s_10 k5s_11 k5s_12 k5s_13 k5s_9) rfl rfl rfl (by decide +kernel) ⟨Nat.le_of_ble_eq_true rfl, Nat.le_of_ble_eq_true rfl⟩) (px_preV hK hP hD m_38 c_41 rfl) rfl rfl hl.1 rfl (lv_room (Nat.le_of_ble_eq_true rfl)) xd_Me_takeFirstSteps_26 ⟨(Nat.le_of_ble_eq_true rfl), (Nat.le_of_ble_eq_true rfl)⟩) hS (fun q _ h => hFc q h) hFc (fun r42 u43 t H1 locs ht hvm hp44 hB hz1 hk1 hS => ?_)
    obtain ⟨hP1, hD1⟩ := hB
    rw [ht] at hP1
    have hD1 := hD1.weaken (fun _ _ _ h => hFc _ h)
    generalize H1 = H at hP1 hS ⊢
    have hP := hP1
    have hD := hD1
    have hP : va_P D xcl (rp ad E1 RL) H := hP
    have hD : va_D A (rp ad E1 RL) := hD
    rcases hp44 with ⟨rfl, z45⟩ | ⟨z46, z47, z48, rfl, z49, z50, z51⟩
    · have hlk9 : lkG g (n + 1) (g 13 (5 * d + i)) = none := z45
      refine W.eq (g2 := F0 m 29 ls [.null]) rfl ?_
      refine lv_astore_nN hx hb xd_Me_takeFirstSteps_29 rfl hl (Nat.le_of_ble_eq_true rfl) rfl (fun ls hl => ?_)
      have hl : lv_has ls 3 [(2, .null), (1, .int (nI i)), (0, .ref (ad (20 + n) (10 + 10 * k)))] := hl
      refine lv_aload_n hx hb xd_Me_takeFirstSteps_30 rfl (lv_at hl 2 rfl) ?_
      refine px_get (D := D) (ci := 6) (v := .ref (ad (20 + n) (11 + 10 * k))) (C := xR_Me) (T := xT_Me) (N := 6) hx hb hT xi_Me hown hK.1 hP ym0 c_2 rfl 2 (by decide) (hT _ k5s_0) (fun _ h9 => h9) rfl xd_Me_takeFirstSteps_31 ?_
      refine lv_iload_n hx hb xd_Me_takeFirstSteps_34 rfl (lv_at hl 1 rfl) ?_
      refine lv_aload_nN hx hb xd_Me_takeFirstSteps_35 rfl (lv_at hl 0 rfl) ?_
      refine px_aastN (i := i) hx hb hK.1 hP hD hS ym1 hcA1 6 rfl (by omega) (by omega) xd_Me_takeFirstSteps_36 (fun H locs hP hD hS => ?_)
      have hP : va_P D xcl (rp ad (up2 E1 (20 + n) (11 + 10 * k) (.inl (kA 6, rs, .inr (.inr (.inr (.inr (va_up fr1 i none))))))) RL) H := hP
      have hD : va_D A (rp ad (up2 E1 (20 + n) (11 + 10 * k) (.inl (kA 6, rs, .inr (.inr (.inr (.inr (va_up fr1 i none))))))) RL) := hD
      generalize hE53 : up2 E1 (20 + n) (11 + 10 * k) (.inl (kA 6, rs, .inr (.inr (.inr (.inr (va_up fr1 i none)))))) = E52 at hP hD
      have fE54 : ∀ b2 o2, ¬ (b2 = 20 + n ∧ o2 = 11 + 10 * k) → E52 b2 o2 = E1 b2 o2 := fun b2 o2 h9 => by rw [← hE53]; exact up2_ne (nr_or h9)
      have c_55 : E52 (20 + n) (11 + 10 * k) = .inl (kA 6, rs, .inr (.inr (.inr (.inr (va_up fr1 i none))))) := by rw [← hE53]; exact up2_eq
      have c_56 : E52 (20 + n) (15 + 10 * k) = .inl (kA 0, 6, .inl ga1) := (fE54 (20 + n) (15 + 10 * k) (fun q9 => nr_k q9.2 (by decide))).trans hcA5
      have c_57 : E52 (20 + n) (16 + 10 * k) = .inl (kA 0, 6, .inl gb1) := (fE54 (20 + n) (16 + 10 * k) (fun q9 => nr_k q9.2 (by decide))).trans hcA6
      have c_58 : E52 (20 + n) (10 + 10 * k) = .inr (6, [.ref (ad (20 + n) 0), .ref (ad (1 + d) 0), .ref (ad (20 + n) (11 + 10 * k)), .ref (ad (20 + n) (12 + 10 * k)), .ref (ad (20 + n) (13 + 10 * k)), .ref (ad (20 + n) (14 + 10 * k))]) := (fE54 (20 + n) (10 + 10 * k) (fun q9 => nr_k q9.2 (by decide))).trans c_2
      have c_59 : E52 (20 + n) (12 + 10 * k) = .inr (10, [.ref (ad (20 + n) (15 + 10 * k))]) := (fE54 (20 + n) (12 + 10 * k) (fun q9 => nr_k q9.2 (by decide))).trans c_3
      have c_60 : E52 (20 + n) (13 + 10 * k) = .inr (10, [.ref (ad (20 + n) (16 + 10 * k))]) := (fE54 (20 + n) (13 + 10 * k) (fun q9 => nr_k q9.2 (by decide))).trans c_4
      have c_61 : E52 (1 + d) 0 = .inr (7, [.int (nI d), .int fd_6, .int nm_6, .ref (ad (1 + d) 1), .ref (ad (1 + d) 9), .ref (ad (1 + d) 10), .ref (ad (1 + d) 2), .ref (ad (1 + d) 11), .ref (ad (1 + d) 12), .ref (ad (1 + d) 3), .ref (ad (1 + d) 4), .int sd_6]) := (fE54 (1 + d) 0 (fun q9 => nr_z q9.2 (by decide))).trans c_7
      have nb_62 : ¬ (1 + d = 20 + n) := by omega
      have c_63 : E52 (1 + d) 11 = .inl (kA 2, 5, .inl tr_6) := (fE54 (1 + d) 11 (fun q9 => nb_62 q9.1)).trans c_29
      have c_64 : E52 (1 + d) 12 = .inl (kA 2, 5, .inl op_6) := (fE54 (1 + d) 12 (fun q9 => nb_62 q9.1)).trans c_31
      have c_65 : E52 (20 + n) 0 = .inr (5, [.int (nI n), (lyv ad lq_36), .ref (ad (20 + n) 1), .int op_36]) := (fE54 (20 + n) 0 (fun q9 => nr_z q9.2 (by decide))).trans c_41
      refine lv_aload_nN hx hb xd_Me_takeFirstSteps_37 rfl (lv_at hl 0 rfl) ?_
      refine lv_ifnullN (tgt := 61) hx hb xd_Me_takeFirstSteps_38 (by decide) ?_
      refine lv_aload_nN hx hb xd_Me_takeFirstSteps_61 rfl (lv_at hl 0 rfl) ?_
      refine lv_ifnullN (tgt := 107) hx hb xd_Me_takeFirstSteps_62 (by decide) ?_
      refine lv_iinc (k := 1) (x := (nI i)) (v := (nI (i + 1))) hx hb xd_Me_takeFirstSteps_107 hl rfl (xb_inc i 1) (Nat.le_of_ble_eq_true rfl) rfl (fun ls hl => ?_)
      have hl : lv_has ls 3 [(1, .int (nI (i + 1))), (2, .null), (0, .ref (ad (20 + n) (10 + 10 * k)))] := hl
      refine lv_goto (tgt := 2) hx hb xd_Me_takeFirstSteps_110 (by decide) ?_
      exact ih1 (i + 1, E52, (va_up fr1 i none), ga1, gb1) _ _ _ (show rs - (i + 1) < rs - i by omega) (lv_sub hl [0, 2] rfl) hP hD hS ⟨(show (i + 1) ≤ rs from by first | assumption | omega), (show E52 (20 + n) (11 + 10 * k) = .inl (kA 6, rs, .inr (.inr (.inr (.inr (va_up fr1 i none))))) from c_55), (show E52 (20 + n) (15 + 10 * k) = .inl (kA 0, 6, .inl ga1) from c_56), (show E52 (20 + n) (16 + 10 * k) = .inl (kA 0, 6, .inl gb1) from c_57), (show ∀ b2 o2, ¬ (b2 = 20 + n ∧ o2 = 11 + 10 * k) → ¬ (b2 = 20 + n ∧ o2 = 15 + 10 * k) → ¬ (b2 = 20 + n ∧ o2 = 16 + 10 * k) → E52 b2 o2 = E b2 o2 from fun b2 o2 h09 h19 h29 => by rw [fE54 b2 o2 (by omega), hfr b2 o2 (by omega) (by omega) (by omega)]), (show RQX g kA ad E52 RL nd n d (i + 1) (va_up fr1 i none) from RQX_RU (RU3 (b := 20 + n) (by omega) hcA1 hcA5 hcA6 c_55 c_56 c_57 (fun b2 o2 h19 h29 h39 => by rw [fE54 b2 o2 (by omega)])) (RQX_addN hlk9 hRQ)), (show ∀ t, t < 72 → (BS ga1 t ↔ (BS ga t ∨ LSp g n d (i + 1) t)) from fun t ht => by rw [hL t ht, LSp_n (Or.inr hlk9)]), (show ∀ t, t < 72 → (BS gb1 t ↔ (BS gb t ∨ CSp g n d (i + 1) t)) from fun t ht => by rw [hC t ht, CSp_n (Or.inr hlk9)])⟩
    · refine W.eq (g2 := F0 m 29 ls [.ref (ad (20 + z46) (10 + 10 * z47))]) rfl ?_
      refine lv_astore_n hx hb xd_Me_takeFirstSteps_29 rfl hl (Nat.le_of_ble_eq_true rfl) rfl (fun ls hl => ?_)
      have hl : lv_has ls 3 [(2, .ref (ad (20 + z46) (10 + 10 * z47))), (1, .int (nI i)), (0, .ref (ad (20 + n) (10 + 10 * k)))] := hl
      by_cases hxk : z46 = n ∧ z47 = k
      · obtain ⟨hxk1, hxk2⟩ := hxk
        rw [hxk1, hxk2] at hl
        have hl : lv_has ls 3 [(2, .ref (ad (20 + n) (10 + 10 * k))), (1, .int (nI i)), (0, .ref (ad (20 + n) (10 + 10 * k)))] := hl
        rw [hxk1, hxk2] at z49
        have hlk9 : lkG g (n + 1) (g 13 (5 * d + i)) = some (n, d) := by have q := z51; rw [hxk1, hxk2, hdk] at q; exact q
        refine lv_aload_n hx hb xd_Me_takeFirstSteps_30 rfl (lv_at hl 2 rfl) ?_
        refine px_get (D := D) (ci := 6) (v := .ref (ad (20 + n) (11 + 10 * k))) (C := xR_Me) (T := xT_Me) (N := 6) hx hb hT xi_Me hown hK.1 hP ym0 c_2 rfl 2 (by decide) (hT _ k5s_0) (fun _ h9 => h9) rfl xd_Me_takeFirstSteps_31 ?_
        refine lv_iload_n hx hb xd_Me_takeFirstSteps_34 rfl (lv_at hl 1 rfl) ?_
        refine lv_aload_n hx hb xd_Me_takeFirstSteps_35 rfl (lv_at hl 0 rfl) ?_
        refine px_aast (i := i) (r := (xR_Me, xT_Me, 6)) hx hb hK.1 hP hD hS ym1 hcA1 6 rfl ym0 c_2 rfl (by omega) (by omega) xd_Me_takeFirstSteps_36 (fun H locs hP hD hS => ?_)
        have hP : va_P D xcl (rp ad (up2 E1 (20 + n) (11 + 10 * k) (.inl (kA 6, rs, .inr (.inr (.inr (.inr (va_up fr1 i (some (ad (20 + n) (10 + 10 * k)))))))))) RL) H := hP
        have hD : va_D A (rp ad (up2 E1 (20 + n) (11 + 10 * k) (.inl (kA 6, rs, .inr (.inr (.inr (.inr (va_up fr1 i (some (ad (20 + n) (10 + 10 * k)))))))))) RL) := hD
        generalize hE67 : up2 E1 (20 + n) (11 + 10 * k) (.inl (kA 6, rs, .inr (.inr (.inr (.inr (va_up fr1 i (some (ad (20 + n) (10 + 10 * k))))))))) = E66 at hP hD
        have fE68 : ∀ b2 o2, ¬ (b2 = 20 + n ∧ o2 = 11 + 10 * k) → E66 b2 o2 = E1 b2 o2 := fun b2 o2 h9 => by rw [← hE67]; exact up2_ne (nr_or h9)
        have c_69 : E66 (20 + n) (11 + 10 * k) = .inl (kA 6, rs, .inr (.inr (.inr (.inr (va_up fr1 i (some (ad (20 + n) (10 + 10 * k)))))))) := by rw [← hE67]; exact up2_eq
        have c_70 : E66 (20 + n) (15 + 10 * k) = .inl (kA 0, 6, .inl ga1) := (fE68 (20 + n) (15 + 10 * k) (fun q9 => nr_k q9.2 (by decide))).trans hcA5
        have c_71 : E66 (20 + n) (16 + 10 * k) = .inl (kA 0, 6, .inl gb1) := (fE68 (20 + n) (16 + 10 * k) (fun q9 => nr_k q9.2 (by decide))).trans hcA6
        have c_72 : E66 (20 + n) (10 + 10 * k) = .inr (6, [.ref (ad (20 + n) 0), .ref (ad (1 + d) 0), .ref (ad (20 + n) (11 + 10 * k)), .ref (ad (20 + n) (12 + 10 * k)), .ref (ad (20 + n) (13 + 10 * k)), .ref (ad (20 + n) (14 + 10 * k))]) := (fE68 (20 + n) (10 + 10 * k) (fun q9 => nr_k q9.2 (by decide))).trans c_2
        have c_73 : E66 (20 + n) (12 + 10 * k) = .inr (10, [.ref (ad (20 + n) (15 + 10 * k))]) := (fE68 (20 + n) (12 + 10 * k) (fun q9 => nr_k q9.2 (by decide))).trans c_3
        have c_74 : E66 (20 + n) (13 + 10 * k) = .inr (10, [.ref (ad (20 + n) (16 + 10 * k))]) := (fE68 (20 + n) (13 + 10 * k) (fun q9 => nr_k q9.2 (by decide))).trans c_4
        have c_75 : E66 (1 + d) 0 = .inr (7, [.int (nI d), .int fd_6, .int nm_6, .ref (ad (1 + d) 1), .ref (ad (1 + d) 9), .ref (ad (1 + d) 10), .ref (ad (1 + d) 2), .ref (ad (1 + d) 11), .ref (ad (1 + d) 12), .ref (ad (1 + d) 3), .ref (ad (1 + d) 4), .int sd_6]) := (fE68 (1 + d) 0 (fun q9 => nr_z q9.2 (by decide))).trans c_7
        have nb_76 : ¬ (1 + d = 20 + n) := by omega
        have c_77 : E66 (1 + d) 11 = .inl (kA 2, 5, .inl tr_6) := (fE68 (1 + d) 11 (fun q9 => nb_76 q9.1)).trans c_29
        have c_78 : E66 (1 + d) 12 = .inl (kA 2, 5, .inl op_6) := (fE68 (1 + d) 12 (fun q9 => nb_76 q9.1)).trans c_31
        have c_79 : E66 (20 + n) 0 = .inr (5, [.int (nI n), (lyv ad lq_36), .ref (ad (20 + n) 1), .int op_36]) := (fE68 (20 + n) 0 (fun q9 => nr_z q9.2 (by decide))).trans c_41
        refine lv_aload_n hx hb xd_Me_takeFirstSteps_37 rfl (lv_at hl 0 rfl) ?_
        refine lv_ifnull hx hb xd_Me_takeFirstSteps_38 ?_
        refine lv_aload_n hx hb xd_Me_takeFirstSteps_41 rfl (lv_at hl 2 rfl) ?_
        refine px_get (D := D) (ci := 6) (v := .ref (ad (1 + d) 0)) (C := xR_Me) (T := xT_Me) (N := 6) hx hb hT xi_Me hown hK.1 hP ym0 c_72 rfl 1 (by decide) (hT _ k5s_2) (fun _ h9 => h9) rfl xd_Me_takeFirstSteps_42 ?_
        refine px_get (D := D) (ci := 7) (v := .ref (ad (1 + d) 12)) (C := xR_Ds) (T := xT_Ds) (N := 12) hx hb hT xi_Ds hown hK.1 hP m_8 c_75 rfl 8 (by decide) (hT _ k5s_14) (fun _ h9 => h9) rfl xd_Me_takeFirstSteps_45 ?_
        refine lv_iload_n hx hb xd_Me_takeFirstSteps_48 rfl (lv_at hl 1 rfl) ?_
        refine px_zald (i := i) hx hb hK.1 hP m_32 c_78 2 rfl (by omega) (by decide) xd_Me_takeFirstSteps_49 ?_
        refine lv_if_ne (tgt := 61) hx hb xd_Me_takeFirstSteps_50 (by decide) (fun hc80 => ?_) (fun hc80 => ?_)
        · refine lv_aload_n hx hb xd_Me_takeFirstSteps_61 rfl (lv_at hl 0 rfl) ?_
          refine lv_ifnull hx hb xd_Me_takeFirstSteps_62 ?_
          refine lv_aload_n hx hb xd_Me_takeFirstSteps_65 rfl (lv_at hl 2 rfl) ?_
          refine px_get (D := D) (ci := 6) (v := .ref (ad (1 + d) 0)) (C := xR_Me) (T := xT_Me) (N := 6) hx hb hT xi_Me hown hK.1 hP ym0 c_72 rfl 1 (by decide) (hT _ k5s_2) (fun _ h9 => h9) rfl xd_Me_takeFirstSteps_66 ?_
          refine px_get (D := D) (ci := 7) (v := .ref (ad (1 + d) 11)) (C := xR_Ds) (T := xT_Ds) (N := 12) hx hb hT xi_Ds hown hK.1 hP m_8 c_75 rfl 7 (by decide) (hT _ k5s_15) (fun _ h9 => h9) rfl xd_Me_takeFirstSteps_69 ?_
          refine lv_iload_n hx hb xd_Me_takeFirstSteps_72 rfl (lv_at hl 1 rfl) ?_
          refine px_zald (i := i) hx hb hK.1 hP m_30 c_77 2 rfl (by omega) (by decide) xd_Me_takeFirstSteps_73 ?_
          refine lv_if_eq (tgt := 107) hx hb xd_Me_takeFirstSteps_74 (by decide) (fun hc81 => ?_) (fun hc81 => ?_)
          · refine lv_iinc (k := 1) (x := (nI i)) (v := (nI (i + 1))) hx hb xd_Me_takeFirstSteps_107 hl rfl (xb_inc i 1) (Nat.le_of_ble_eq_true rfl) rfl (fun ls hl => ?_)
            have hl : lv_has ls 3 [(1, .int (nI (i + 1))), (2, .ref (ad (20 + n) (10 + 10 * k))), (0, .ref (ad (20 + n) (10 + 10 * k)))] := hl
            refine lv_goto (tgt := 2) hx hb xd_Me_takeFirstSteps_110 (by decide) ?_
            exact ih1 (i + 1, E66, (va_up fr1 i (some (ad (20 + n) (10 + 10 * k)))), ga1, gb1) _ _ _ (show rs - (i + 1) < rs - i by omega) (lv_sub hl [0, 2] rfl) hP hD hS ⟨(show (i + 1) ≤ rs from by first | assumption | omega), (show E66 (20 + n) (11 + 10 * k) = .inl (kA 6, rs, .inr (.inr (.inr (.inr (va_up fr1 i (some (ad (20 + n) (10 + 10 * k)))))))) from c_69), (show E66 (20 + n) (15 + 10 * k) = .inl (kA 0, 6, .inl ga1) from c_70), (show E66 (20 + n) (16 + 10 * k) = .inl (kA 0, 6, .inl gb1) from c_71), (show ∀ b2 o2, ¬ (b2 = 20 + n ∧ o2 = 11 + 10 * k) → ¬ (b2 = 20 + n ∧ o2 = 15 + 10 * k) → ¬ (b2 = 20 + n ∧ o2 = 16 + 10 * k) → E66 b2 o2 = E b2 o2 from fun b2 o2 h09 h19 h29 => by rw [fE68 b2 o2 (by omega), hfr b2 o2 (by omega) (by omega) (by omega)]), (show RQX g kA ad E66 RL nd n d (i + 1) (va_up fr1 i (some (ad (20 + n) (10 + 10 * k)))) from RQX_RU (RU3 (b := 20 + n) (by omega) hcA1 hcA5 hcA6 c_69 c_70 c_71 (fun b2 o2 h19 h29 h39 => by rw [fE68 b2 o2 (by omega)])) (RQX_add (Nat.le_refl _) z49 hkm (by rw [hdk]; exact hlk9) hRQ)), (show ∀ t, t < 72 → (BS ga1 t ↔ (BS ga t ∨ LSp g n d (i + 1) t)) from fun t ht => by rw [hL t ht, LSp_n (Or.inl (by rw [← hti9.2.2]; exact hc80))]), (show ∀ t, t < 72 → (BS gb1 t ↔ (BS gb t ∨ CSp g n d (i + 1) t)) from fun t ht => by rw [hC t ht, CSp_n (Or.inl (by rw [← hti9.2.1]; exact hc81))])⟩
          · refine lv_aload_n hx hb xd_Me_takeFirstSteps_77 rfl (lv_at hl 2 rfl) ?_
            refine px_get (D := D) (ci := 6) (v := .ref (ad (20 + n) (13 + 10 * k))) (C := xR_Me) (T := xT_Me) (N := 6) hx hb hT xi_Me hown hK.1 hP ym0 c_72 rfl 4 (by decide) (hT _ k5s_16) (fun _ h9 => h9) rfl xd_Me_takeFirstSteps_78 ?_
            refine lv_aload_n hx hb xd_Me_takeFirstSteps_81 rfl (lv_at hl 0 rfl) ?_
            have hFc := px_free hD hS hA
            refine va_callv (va_runV (As := [.ref (ad (20 + n) (10 + 10 * k))]) (rest := []) ⟨hx, hb, hml, hown, hT⟩ (xc_Re_mark l D kA H.size ad E66 RL (20 + n) (13 + 10 * k) (16 + 10 * k) gb1 n k d (lyv ad lq_36) op_36 fd_6 nm_6 sd_6 ym3 c_74 ym5 c_71 ym0 c_72 m_38 c_79 m_8 c_75 (by first | assumption | omega) (by first | assumption | omega) (by first | assumption | omega)) (cwV 1 hT (wT_V k5s_18 k5s_19 k5s_20 k5s_21 k5s_17) rfl rfl rfl (by decide +kernel) ⟨Nat.le_of_ble_eq_true rfl, Nat.le_of_ble_eq_true rfl⟩) (px_preV hK hP hD ym3 c_74 rfl) rfl rfl hl.1 rfl (lv_room (Nat.le_of_ble_eq_true rfl)) xd_Me_takeFirstSteps_82 ⟨(Nat.le_of_ble_eq_true rfl), (Nat.le_of_ble_eq_true rfl)⟩) hS (fun q _ h => hFc q h) hFc (fun u83 t H1 locs ht hvm hp84 hB hz1 hk1 hS => ?_)
            obtain ⟨hP1, hD1⟩ := hB
            rw [ht] at hP1
            have hD1 := hD1.weaken (fun _ _ _ h => hFc _ h)
            generalize H1 = H at hP1 hS ⊢
            have hP := hP1
            have hD := hD1
            obtain ⟨E85, rfl⟩ : ∃ z, z = u83 := ⟨_, rfl⟩
            obtain ⟨w86, hp89, p_87, p_88⟩ := hp84
            have p_87 : E85 (20 + n) (16 + 10 * k) = .inl (kA 0, 6, .inl w86) := p_87
            have p_88 : (∀ b2 o2, ¬ (b2 = (20 + n) ∧ o2 = (16 + 10 * k)) → E85 b2 o2 = E66 b2 o2) := p_88
            have c_90 : E85 (20 + n) (11 + 10 * k) = .inl (kA 6, rs, .inr (.inr (.inr (.inr (va_up fr1 i (some (ad (20 + n) (10 + 10 * k)))))))) := (p_88 (20 + n) (11 + 10 * k) (fun q9 => nr_k q9.2 (by decide))).trans c_69
            have c_91 : E85 (20 + n) (15 + 10 * k) = .inl (kA 0, 6, .inl ga1) := (p_88 (20 + n) (15 + 10 * k) (fun q9 => nr_k q9.2 (by decide))).trans c_70
            have c_92 : E85 (20 + n) (10 + 10 * k) = .inr (6, [.ref (ad (20 + n) 0), .ref (ad (1 + d) 0), .ref (ad (20 + n) (11 + 10 * k)), .ref (ad (20 + n) (12 + 10 * k)), .ref (ad (20 + n) (13 + 10 * k)), .ref (ad (20 + n) (14 + 10 * k))]) := (p_88 (20 + n) (10 + 10 * k) (fun q9 => nr_k q9.2 (by decide))).trans c_72
            have c_93 : E85 (20 + n) (12 + 10 * k) = .inr (10, [.ref (ad (20 + n) (15 + 10 * k))]) := (p_88 (20 + n) (12 + 10 * k) (fun q9 => nr_k q9.2 (by decide))).trans c_73
            have c_94 : E85 (20 + n) (13 + 10 * k) = .inr (10, [.ref (ad (20 + n) (16 + 10 * k))]) := (p_88 (20 + n) (13 + 10 * k) (fun q9 => nr_k q9.2 (by decide))).trans c_74
            have c_95 : E85 (1 + d) 0 = .inr (7, [.int (nI d), .int fd_6, .int nm_6, .ref (ad (1 + d) 1), .ref (ad (1 + d) 9), .ref (ad (1 + d) 10), .ref (ad (1 + d) 2), .ref (ad (1 + d) 11), .ref (ad (1 + d) 12), .ref (ad (1 + d) 3), .ref (ad (1 + d) 4), .int sd_6]) := (p_88 (1 + d) 0 (fun q9 => nr_z q9.2 (by decide))).trans c_75
            have c_96 : E85 (1 + d) 11 = .inl (kA 2, 5, .inl tr_6) := (p_88 (1 + d) 11 (fun q9 => nr_z q9.2 (by decide))).trans c_77
            have c_97 : E85 (1 + d) 12 = .inl (kA 2, 5, .inl op_6) := (p_88 (1 + d) 12 (fun q9 => nr_z q9.2 (by decide))).trans c_78
            have c_98 : E85 (20 + n) 0 = .inr (5, [.int (nI n), (lyv ad lq_36), .ref (ad (20 + n) 1), .int op_36]) := (p_88 (20 + n) 0 (fun q9 => nr_z q9.2 (by decide))).trans c_79
            have hP : va_P D xcl (rp ad E85 RL) H := hP
            have hD : va_D A (rp ad E85 RL) := hD
            have hCm : ∀ t, BS w86 t ↔ (BS gb1 t ∨ t = 12 * n + d) := fun t => by rw [hp89]; exact BS_mark (by omega)
            refine lv_aload_n hx hb xd_Me_takeFirstSteps_85 rfl (lv_at hl 0 rfl) ?_
            refine px_get (D := D) (ci := 6) (v := .ref (ad (20 + n) 0)) (C := xR_Me) (T := xT_Me) (N := 6) hx hb hT xi_Me hown hK.1 hP ym0 c_92 rfl 0 (by decide) (hT _ k5s_1) (fun _ h9 => h9) rfl xd_Me_takeFirstSteps_86 ?_
            refine lv_aload_n hx hb xd_Me_takeFirstSteps_89 rfl (lv_at hl 2 rfl) ?_
            refine px_get (D := D) (ci := 6) (v := .ref (ad (20 + n) 0)) (C := xR_Me) (T := xT_Me) (N := 6) hx hb hT xi_Me hown hK.1 hP ym0 c_92 rfl 0 (by decide) (hT _ k5s_1) (fun _ h9 => h9) rfl xd_Me_takeFirstSteps_90 ?_
            refine lv_acmp_eq (rx := (some (ad (20 + n) 0))) (ry := (some (ad (20 + n) 0))) (tgt := 107) hx hb xd_Me_takeFirstSteps_93 (by decide) (fun _ => ?_) (fun hc99 => absurd rfl hc99)
            refine lv_iinc (k := 1) (x := (nI i)) (v := (nI (i + 1))) hx hb xd_Me_takeFirstSteps_107 hl rfl (xb_inc i 1) (Nat.le_of_ble_eq_true rfl) rfl (fun ls hl => ?_)
            have hl : lv_has ls 3 [(1, .int (nI (i + 1))), (2, .ref (ad (20 + n) (10 + 10 * k))), (0, .ref (ad (20 + n) (10 + 10 * k)))] := hl
            refine lv_goto (tgt := 2) hx hb xd_Me_takeFirstSteps_110 (by decide) ?_
            exact ih1 (i + 1, E85, (va_up fr1 i (some (ad (20 + n) (10 + 10 * k)))), ga1, w86) _ _ _ (show rs - (i + 1) < rs - i by omega) (lv_sub hl [0, 2] rfl) hP hD hS ⟨(show (i + 1) ≤ rs from by first | assumption | omega), (show E85 (20 + n) (11 + 10 * k) = .inl (kA 6, rs, .inr (.inr (.inr (.inr (va_up fr1 i (some (ad (20 + n) (10 + 10 * k)))))))) from c_90), (show E85 (20 + n) (15 + 10 * k) = .inl (kA 0, 6, .inl ga1) from c_91), (show E85 (20 + n) (16 + 10 * k) = .inl (kA 0, 6, .inl w86) from p_87), (show ∀ b2 o2, ¬ (b2 = 20 + n ∧ o2 = 11 + 10 * k) → ¬ (b2 = 20 + n ∧ o2 = 15 + 10 * k) → ¬ (b2 = 20 + n ∧ o2 = 16 + 10 * k) → E85 b2 o2 = E b2 o2 from fun b2 o2 h09 h19 h29 => by rw [p_88 b2 o2 (by omega), fE68 b2 o2 (by omega), hfr b2 o2 (by omega) (by omega) (by omega)]), (show RQX g kA ad E85 RL nd n d (i + 1) (va_up fr1 i (some (ad (20 + n) (10 + 10 * k)))) from RQX_RU (RU3 (b := 20 + n) (by omega) hcA1 hcA5 hcA6 c_90 c_91 p_87 (fun b2 o2 h19 h29 h39 => by rw [p_88 b2 o2 (by omega), fE68 b2 o2 (by omega)])) (RQX_add (Nat.le_refl _) z49 hkm (by rw [hdk]; exact hlk9) hRQ)), (show ∀ t, t < 72 → (BS ga1 t ↔ (BS ga t ∨ LSp g n d (i + 1) t)) from fun t ht => by rw [hL t ht, LSp_n (Or.inl (by rw [← hti9.2.2]; exact hc80))]), (show ∀ t, t < 72 → (BS w86 t ↔ (BS gb t ∨ CSp g n d (i + 1) t)) from fun t ht => by
        rw [hCm t, hC t ht, CSp_y (by rw [← hti9.2.1]; exact hc81) hlk9]
        constructor
        · rintro ((q | q) | q)
          · exact Or.inl q
          · exact Or.inr (Or.inl q)
          · exact Or.inr (Or.inr (Or.inl q))
        · rintro (q | q | q | q)
          · exact Or.inl (Or.inl q)
          · exact Or.inl (Or.inr q)
          · exact Or.inr q
          · exact absurd (show n = n from rfl) q.1)⟩
        · refine lv_aload_n hx hb xd_Me_takeFirstSteps_53 rfl (lv_at hl 2 rfl) ?_
          refine px_get (D := D) (ci := 6) (v := .ref (ad (20 + n) (12 + 10 * k))) (C := xR_Me) (T := xT_Me) (N := 6) hx hb hT xi_Me hown hK.1 hP ym0 c_72 rfl 3 (by decide) (hT _ k5s_22) (fun _ h9 => h9) rfl xd_Me_takeFirstSteps_54 ?_
          refine lv_aload_n hx hb xd_Me_takeFirstSteps_57 rfl (lv_at hl 0 rfl) ?_
          have hFc := px_free hD hS hA
          refine va_callv (va_runV (As := [.ref (ad (20 + n) (10 + 10 * k))]) (rest := []) ⟨hx, hb, hml, hown, hT⟩ (xc_Re_mark l D kA H.size ad E66 RL (20 + n) (12 + 10 * k) (15 + 10 * k) ga1 n k d (lyv ad lq_36) op_36 fd_6 nm_6 sd_6 ym2 c_73 ym4 c_70 ym0 c_72 m_38 c_79 m_8 c_75 (by first | assumption | omega) (by first | assumption | omega) (by first | assumption | omega)) (cwV 1 hT (wT_V k5s_18 k5s_19 k5s_20 k5s_21 k5s_17) rfl rfl rfl (by decide +kernel) ⟨Nat.le_of_ble_eq_true rfl, Nat.le_of_ble_eq_true rfl⟩) (px_preV hK hP hD ym2 c_73 rfl) rfl rfl hl.1 rfl (lv_room (Nat.le_of_ble_eq_true rfl)) xd_Me_takeFirstSteps_58 ⟨(Nat.le_of_ble_eq_true rfl), (Nat.le_of_ble_eq_true rfl)⟩) hS (fun q _ h => hFc q h) hFc (fun u101 t H1 locs ht hvm hp102 hB hz1 hk1 hS => ?_)
          obtain ⟨hP1, hD1⟩ := hB
          rw [ht] at hP1
          have hD1 := hD1.weaken (fun _ _ _ h => hFc _ h)
          generalize H1 = H at hP1 hS ⊢
          have hP := hP1
          have hD := hD1
          obtain ⟨E103, rfl⟩ : ∃ z, z = u101 := ⟨_, rfl⟩
          obtain ⟨w104, hp107, p_105, p_106⟩ := hp102
          have p_105 : E103 (20 + n) (15 + 10 * k) = .inl (kA 0, 6, .inl w104) := p_105
          have p_106 : (∀ b2 o2, ¬ (b2 = (20 + n) ∧ o2 = (15 + 10 * k)) → E103 b2 o2 = E66 b2 o2) := p_106
          have c_108 : E103 (20 + n) (11 + 10 * k) = .inl (kA 6, rs, .inr (.inr (.inr (.inr (va_up fr1 i (some (ad (20 + n) (10 + 10 * k)))))))) := (p_106 (20 + n) (11 + 10 * k) (fun q9 => nr_k q9.2 (by decide))).trans c_69
          have c_109 : E103 (20 + n) (16 + 10 * k) = .inl (kA 0, 6, .inl gb1) := (p_106 (20 + n) (16 + 10 * k) (fun q9 => nr_k q9.2 (by decide))).trans c_71
          have c_110 : E103 (20 + n) (10 + 10 * k) = .inr (6, [.ref (ad (20 + n) 0), .ref (ad (1 + d) 0), .ref (ad (20 + n) (11 + 10 * k)), .ref (ad (20 + n) (12 + 10 * k)), .ref (ad (20 + n) (13 + 10 * k)), .ref (ad (20 + n) (14 + 10 * k))]) := (p_106 (20 + n) (10 + 10 * k) (fun q9 => nr_k q9.2 (by decide))).trans c_72
          have c_111 : E103 (20 + n) (12 + 10 * k) = .inr (10, [.ref (ad (20 + n) (15 + 10 * k))]) := (p_106 (20 + n) (12 + 10 * k) (fun q9 => nr_k q9.2 (by decide))).trans c_73
          have c_112 : E103 (20 + n) (13 + 10 * k) = .inr (10, [.ref (ad (20 + n) (16 + 10 * k))]) := (p_106 (20 + n) (13 + 10 * k) (fun q9 => nr_k q9.2 (by decide))).trans c_74
          have c_113 : E103 (1 + d) 0 = .inr (7, [.int (nI d), .int fd_6, .int nm_6, .ref (ad (1 + d) 1), .ref (ad (1 + d) 9), .ref (ad (1 + d) 10), .ref (ad (1 + d) 2), .ref (ad (1 + d) 11), .ref (ad (1 + d) 12), .ref (ad (1 + d) 3), .ref (ad (1 + d) 4), .int sd_6]) := (p_106 (1 + d) 0 (fun q9 => nr_z q9.2 (by decide))).trans c_75
          have c_114 : E103 (1 + d) 11 = .inl (kA 2, 5, .inl tr_6) := (p_106 (1 + d) 11 (fun q9 => nr_z q9.2 (by decide))).trans c_77
          have c_115 : E103 (1 + d) 12 = .inl (kA 2, 5, .inl op_6) := (p_106 (1 + d) 12 (fun q9 => nr_z q9.2 (by decide))).trans c_78
          have c_116 : E103 (20 + n) 0 = .inr (5, [.int (nI n), (lyv ad lq_36), .ref (ad (20 + n) 1), .int op_36]) := (p_106 (20 + n) 0 (fun q9 => nr_z q9.2 (by decide))).trans c_79
          have hP : va_P D xcl (rp ad E103 RL) H := hP
          have hD : va_D A (rp ad E103 RL) := hD
          have hLm : ∀ t, BS w104 t ↔ (BS ga1 t ∨ t = 12 * n + d) := fun t => by rw [hp107]; exact BS_mark (by omega)
          refine lv_aload_n hx hb xd_Me_takeFirstSteps_61 rfl (lv_at hl 0 rfl) ?_
          refine lv_ifnull hx hb xd_Me_takeFirstSteps_62 ?_
          refine lv_aload_n hx hb xd_Me_takeFirstSteps_65 rfl (lv_at hl 2 rfl) ?_
          refine px_get (D := D) (ci := 6) (v := .ref (ad (1 + d) 0)) (C := xR_Me) (T := xT_Me) (N := 6) hx hb hT xi_Me hown hK.1 hP ym0 c_110 rfl 1 (by decide) (hT _ k5s_2) (fun _ h9 => h9) rfl xd_Me_takeFirstSteps_66 ?_
          refine px_get (D := D) (ci := 7) (v := .ref (ad (1 + d) 11)) (C := xR_Ds) (T := xT_Ds) (N := 12) hx hb hT xi_Ds hown hK.1 hP m_8 c_113 rfl 7 (by decide) (hT _ k5s_15) (fun _ h9 => h9) rfl xd_Me_takeFirstSteps_69 ?_
          refine lv_iload_n hx hb xd_Me_takeFirstSteps_72 rfl (lv_at hl 1 rfl) ?_
          refine px_zald (i := i) hx hb hK.1 hP m_30 c_114 2 rfl (by omega) (by decide) xd_Me_takeFirstSteps_73 ?_
          refine lv_if_eq (tgt := 107) hx hb xd_Me_takeFirstSteps_74 (by decide) (fun hc117 => ?_) (fun hc117 => ?_)
          · refine lv_iinc (k := 1) (x := (nI i)) (v := (nI (i + 1))) hx hb xd_Me_takeFirstSteps_107 hl rfl (xb_inc i 1) (Nat.le_of_ble_eq_true rfl) rfl (fun ls hl => ?_)
            have hl : lv_has ls 3 [(1, .int (nI (i + 1))), (2, .ref (ad (20 + n) (10 + 10 * k))), (0, .ref (ad (20 + n) (10 + 10 * k)))] := hl
            refine lv_goto (tgt := 2) hx hb xd_Me_takeFirstSteps_110 (by decide) ?_
            exact ih1 (i + 1, E103, (va_up fr1 i (some (ad (20 + n) (10 + 10 * k)))), w104, gb1) _ _ _ (show rs - (i + 1) < rs - i by omega) (lv_sub hl [0, 2] rfl) hP hD hS ⟨(show (i + 1) ≤ rs from by first | assumption | omega), (show E103 (20 + n) (11 + 10 * k) = .inl (kA 6, rs, .inr (.inr (.inr (.inr (va_up fr1 i (some (ad (20 + n) (10 + 10 * k)))))))) from c_108), (show E103 (20 + n) (15 + 10 * k) = .inl (kA 0, 6, .inl w104) from p_105), (show E103 (20 + n) (16 + 10 * k) = .inl (kA 0, 6, .inl gb1) from c_109), (show ∀ b2 o2, ¬ (b2 = 20 + n ∧ o2 = 11 + 10 * k) → ¬ (b2 = 20 + n ∧ o2 = 15 + 10 * k) → ¬ (b2 = 20 + n ∧ o2 = 16 + 10 * k) → E103 b2 o2 = E b2 o2 from fun b2 o2 h09 h19 h29 => by rw [p_106 b2 o2 (by omega), fE68 b2 o2 (by omega), hfr b2 o2 (by omega) (by omega) (by omega)]), (show RQX g kA ad E103 RL nd n d (i + 1) (va_up fr1 i (some (ad (20 + n) (10 + 10 * k)))) from RQX_RU (RU3 (b := 20 + n) (by omega) hcA1 hcA5 hcA6 c_108 p_105 c_109 (fun b2 o2 h19 h29 h39 => by rw [p_106 b2 o2 (by omega), fE68 b2 o2 (by omega)])) (RQX_add (Nat.le_refl _) z49 hkm (by rw [hdk]; exact hlk9) hRQ)), (show ∀ t, t < 72 → (BS w104 t ↔ (BS ga t ∨ LSp g n d (i + 1) t)) from fun t ht => by rw [hLm t, hL t ht, LSp_y (by rw [← hti9.2.2]; exact hc80) hlk9, or_assoc]), (show ∀ t, t < 72 → (BS gb1 t ↔ (BS gb t ∨ CSp g n d (i + 1) t)) from fun t ht => by rw [hC t ht, CSp_n (Or.inl (by rw [← hti9.2.1]; exact hc117))])⟩
          · refine lv_aload_n hx hb xd_Me_takeFirstSteps_77 rfl (lv_at hl 2 rfl) ?_
            refine px_get (D := D) (ci := 6) (v := .ref (ad (20 + n) (13 + 10 * k))) (C := xR_Me) (T := xT_Me) (N := 6) hx hb hT xi_Me hown hK.1 hP ym0 c_110 rfl 4 (by decide) (hT _ k5s_16) (fun _ h9 => h9) rfl xd_Me_takeFirstSteps_78 ?_
            refine lv_aload_n hx hb xd_Me_takeFirstSteps_81 rfl (lv_at hl 0 rfl) ?_
            have hFc := px_free hD hS hA
            refine va_callv (va_runV (As := [.ref (ad (20 + n) (10 + 10 * k))]) (rest := []) ⟨hx, hb, hml, hown, hT⟩ (xc_Re_mark l D kA H.size ad E103 RL (20 + n) (13 + 10 * k) (16 + 10 * k) gb1 n k d (lyv ad lq_36) op_36 fd_6 nm_6 sd_6 ym3 c_112 ym5 c_109 ym0 c_110 m_38 c_116 m_8 c_113 (by first | assumption | omega) (by first | assumption | omega) (by first | assumption | omega)) (cwV 1 hT (wT_V k5s_18 k5s_19 k5s_20 k5s_21 k5s_17) rfl rfl rfl (by decide +kernel) ⟨Nat.le_of_ble_eq_true rfl, Nat.le_of_ble_eq_true rfl⟩) (px_preV hK hP hD ym3 c_112 rfl) rfl rfl hl.1 rfl (lv_room (Nat.le_of_ble_eq_true rfl)) xd_Me_takeFirstSteps_82 ⟨(Nat.le_of_ble_eq_true rfl), (Nat.le_of_ble_eq_true rfl)⟩) hS (fun q _ h => hFc q h) hFc (fun u119 t H1 locs ht hvm hp120 hB hz1 hk1 hS => ?_)
            obtain ⟨hP1, hD1⟩ := hB
            rw [ht] at hP1
            have hD1 := hD1.weaken (fun _ _ _ h => hFc _ h)
            generalize H1 = H at hP1 hS ⊢
            have hP := hP1
            have hD := hD1
            obtain ⟨E121, rfl⟩ : ∃ z, z = u119 := ⟨_, rfl⟩
            obtain ⟨w122, hp125, p_123, p_124⟩ := hp120
            have p_123 : E121 (20 + n) (16 + 10 * k) = .inl (kA 0, 6, .inl w122) := p_123
            have p_124 : (∀ b2 o2, ¬ (b2 = (20 + n) ∧ o2 = (16 + 10 * k)) → E121 b2 o2 = E103 b2 o2) := p_124
            have c_126 : E121 (20 + n) (15 + 10 * k) = .inl (kA 0, 6, .inl w104) := (p_124 (20 + n) (15 + 10 * k) (fun q9 => nr_k q9.2 (by decide))).trans p_105
            have c_127 : E121 (20 + n) (11 + 10 * k) = .inl (kA 6, rs, .inr (.inr (.inr (.inr (va_up fr1 i (some (ad (20 + n) (10 + 10 * k)))))))) := (p_124 (20 + n) (11 + 10 * k) (fun q9 => nr_k q9.2 (by decide))).trans c_108
            have c_128 : E121 (20 + n) (10 + 10 * k) = .inr (6, [.ref (ad (20 + n) 0), .ref (ad (1 + d) 0), .ref (ad (20 + n) (11 + 10 * k)), .ref (ad (20 + n) (12 + 10 * k)), .ref (ad (20 + n) (13 + 10 * k)), .ref (ad (20 + n) (14 + 10 * k))]) := (p_124 (20 + n) (10 + 10 * k) (fun q9 => nr_k q9.2 (by decide))).trans c_110
            have c_129 : E121 (20 + n) (12 + 10 * k) = .inr (10, [.ref (ad (20 + n) (15 + 10 * k))]) := (p_124 (20 + n) (12 + 10 * k) (fun q9 => nr_k q9.2 (by decide))).trans c_111
            have c_130 : E121 (20 + n) (13 + 10 * k) = .inr (10, [.ref (ad (20 + n) (16 + 10 * k))]) := (p_124 (20 + n) (13 + 10 * k) (fun q9 => nr_k q9.2 (by decide))).trans c_112
            have c_131 : E121 (1 + d) 0 = .inr (7, [.int (nI d), .int fd_6, .int nm_6, .ref (ad (1 + d) 1), .ref (ad (1 + d) 9), .ref (ad (1 + d) 10), .ref (ad (1 + d) 2), .ref (ad (1 + d) 11), .ref (ad (1 + d) 12), .ref (ad (1 + d) 3), .ref (ad (1 + d) 4), .int sd_6]) := (p_124 (1 + d) 0 (fun q9 => nr_z q9.2 (by decide))).trans c_113
            have c_132 : E121 (1 + d) 11 = .inl (kA 2, 5, .inl tr_6) := (p_124 (1 + d) 11 (fun q9 => nr_z q9.2 (by decide))).trans c_114
            have c_133 : E121 (1 + d) 12 = .inl (kA 2, 5, .inl op_6) := (p_124 (1 + d) 12 (fun q9 => nr_z q9.2 (by decide))).trans c_115
            have c_134 : E121 (20 + n) 0 = .inr (5, [.int (nI n), (lyv ad lq_36), .ref (ad (20 + n) 1), .int op_36]) := (p_124 (20 + n) 0 (fun q9 => nr_z q9.2 (by decide))).trans c_116
            have hP : va_P D xcl (rp ad E121 RL) H := hP
            have hD : va_D A (rp ad E121 RL) := hD
            have hCm : ∀ t, BS w122 t ↔ (BS gb1 t ∨ t = 12 * n + d) := fun t => by rw [hp125]; exact BS_mark (by omega)
            refine lv_aload_n hx hb xd_Me_takeFirstSteps_85 rfl (lv_at hl 0 rfl) ?_
            refine px_get (D := D) (ci := 6) (v := .ref (ad (20 + n) 0)) (C := xR_Me) (T := xT_Me) (N := 6) hx hb hT xi_Me hown hK.1 hP ym0 c_128 rfl 0 (by decide) (hT _ k5s_1) (fun _ h9 => h9) rfl xd_Me_takeFirstSteps_86 ?_
            refine lv_aload_n hx hb xd_Me_takeFirstSteps_89 rfl (lv_at hl 2 rfl) ?_
            refine px_get (D := D) (ci := 6) (v := .ref (ad (20 + n) 0)) (C := xR_Me) (T := xT_Me) (N := 6) hx hb hT xi_Me hown hK.1 hP ym0 c_128 rfl 0 (by decide) (hT _ k5s_1) (fun _ h9 => h9) rfl xd_Me_takeFirstSteps_90 ?_
            refine lv_acmp_eq (rx := (some (ad (20 + n) 0))) (ry := (some (ad (20 + n) 0))) (tgt := 107) hx hb xd_Me_takeFirstSteps_93 (by decide) (fun _ => ?_) (fun hc135 => absurd rfl hc135)
            refine lv_iinc (k := 1) (x := (nI i)) (v := (nI (i + 1))) hx hb xd_Me_takeFirstSteps_107 hl rfl (xb_inc i 1) (Nat.le_of_ble_eq_true rfl) rfl (fun ls hl => ?_)
            have hl : lv_has ls 3 [(1, .int (nI (i + 1))), (2, .ref (ad (20 + n) (10 + 10 * k))), (0, .ref (ad (20 + n) (10 + 10 * k)))] := hl
            refine lv_goto (tgt := 2) hx hb xd_Me_takeFirstSteps_110 (by decide) ?_
            exact ih1 (i + 1, E121, (va_up fr1 i (some (ad (20 + n) (10 + 10 * k)))), w104, w122) _ _ _ (show rs - (i + 1) < rs - i by omega) (lv_sub hl [0, 2] rfl) hP hD hS ⟨(show (i + 1) ≤ rs from by first | assumption | omega), (show E121 (20 + n) (11 + 10 * k) = .inl (kA 6, rs, .inr (.inr (.inr (.inr (va_up fr1 i (some (ad (20 + n) (10 + 10 * k)))))))) from c_127), (show E121 (20 + n) (15 + 10 * k) = .inl (kA 0, 6, .inl w104) from c_126), (show E121 (20 + n) (16 + 10 * k) = .inl (kA 0, 6, .inl w122) from p_123), (show ∀ b2 o2, ¬ (b2 = 20 + n ∧ o2 = 11 + 10 * k) → ¬ (b2 = 20 + n ∧ o2 = 15 + 10 * k) → ¬ (b2 = 20 + n ∧ o2 = 16 + 10 * k) → E121 b2 o2 = E b2 o2 from fun b2 o2 h09 h19 h29 => by rw [p_124 b2 o2 (by omega), p_106 b2 o2 (by omega), fE68 b2 o2 (by omega), hfr b2 o2 (by omega) (by omega) (by omega)]), (show RQX g kA ad E121 RL nd n d (i + 1) (va_up fr1 i (some (ad (20 + n) (10 + 10 * k)))) from RQX_RU (RU3 (b := 20 + n) (by omega) hcA1 hcA5 hcA6 c_127 c_126 p_123 (fun b2 o2 h19 h29 h39 => by rw [p_124 b2 o2 (by omega), p_106 b2 o2 (by omega), fE68 b2 o2 (by omega)])) (RQX_add (Nat.le_refl _) z49 hkm (by rw [hdk]; exact hlk9) hRQ)), (show ∀ t, t < 72 → (BS w104 t ↔ (BS ga t ∨ LSp g n d (i + 1) t)) from fun t ht => by rw [hLm t, hL t ht, LSp_y (by rw [← hti9.2.2]; exact hc80) hlk9, or_assoc]), (show ∀ t, t < 72 → (BS w122 t ↔ (BS gb t ∨ CSp g n d (i + 1) t)) from fun t ht => by
        rw [hCm t, hC t ht, CSp_y (by rw [← hti9.2.1]; exact hc117) hlk9]
        constructor
        · rintro ((q | q) | q)
          · exact Or.inl q
          · exact Or.inr (Or.inl q)
          · exact Or.inr (Or.inr (Or.inl q))
        · rintro (q | q | q | q)
          · exact Or.inl (Or.inl q)
          · exact Or.inl (Or.inr q)
          · exact Or.inr q
          · exact absurd (show n = n from rfl) q.1)⟩
      · obtain ⟨m0_136, m1_136, pv_136, op_136, mk_136, fm_136, hmk_136, hpv_136, q0_136, q1_136, hk_136⟩ := id (hLIs z46 (by omega))
        have c_137 : E1 (20 + z46) 0 = .inr (5, [.int (nI z46), pv_136, .ref (ad (20 + z46) 1), .int op_136]) := q0_136
        have m_138 : (20 + z46, 0) ∈ RL := m0_136
        have c_139 : E1 (20 + z46) 1 = .inl (kA 6, mk_136, .inr (.inr (.inr (.inr fm_136)))) := q1_136
        have m_140 : (20 + z46, 1) ∈ RL := m1_136
        obtain ⟨top_136, ⟨lq_136, hlq_136, h19_136, hpv2_136⟩, h20_136, tmd_136⟩ := TLa_get c_137 c_139 (hTL1 z46 (by omega))
        have c_141 : E1 (20 + z46) 0 = .inr (5, [.int (nI z46), (lyv ad lq_136), .ref (ad (20 + z46) 1), .int op_136]) := by rw [← hpv2_136]; exact c_137
        have i20_136 : iN (g 20 z46) = mk_136 := by rw [h20_136, iN_nI (by omega)]
        have hkk9 : z47 < mk_136 := by have q := z50; rw [i20_136] at q; exact q
        obtain ⟨hm_142, d_142, rs_142, fr_142, g2_142, g3_142, g4_142, hd_142, hrs_142, q0_142, q1_142, q2_142, q3_142, q4_142, q5_142, q6_142, q7_142⟩ := id z49
        have c_143 : E1 (20 + z46) (10 + 10 * z47) = .inr (6, [.ref (ad (20 + z46) 0), .ref (ad (1 + d_142) 0), .ref (ad (20 + z46) (11 + 10 * z47)), .ref (ad (20 + z46) (12 + 10 * z47)), .ref (ad (20 + z46) (13 + 10 * z47)), .ref (ad (20 + z46) (14 + 10 * z47))]) := q0_142
        have m_144 : (20 + z46, 10 + 10 * z47) ∈ RL := hm_142 0 (by decide)
        have c_145 : E1 (20 + z46) (11 + 10 * z47) = .inl (kA 6, rs_142, .inr (.inr (.inr (.inr fr_142)))) := q1_142
        have m_146 : (20 + z46, 11 + 10 * z47) ∈ RL := hm_142 1 (by decide)
        have c_147 : E1 (20 + z46) (12 + 10 * z47) = .inr (10, [.ref (ad (20 + z46) (15 + 10 * z47))]) := q2_142
        have m_148 : (20 + z46, 12 + 10 * z47) ∈ RL := hm_142 2 (by decide)
        have c_149 : E1 (20 + z46) (13 + 10 * z47) = .inr (10, [.ref (ad (20 + z46) (16 + 10 * z47))]) := q3_142
        have m_150 : (20 + z46, 13 + 10 * z47) ∈ RL := hm_142 3 (by decide)
        have c_151 : E1 (20 + z46) (14 + 10 * z47) = .inr (10, [.ref (ad (20 + z46) (17 + 10 * z47))]) := q4_142
        have m_152 : (20 + z46, 14 + 10 * z47) ∈ RL := hm_142 4 (by decide)
        have c_153 : E1 (20 + z46) (15 + 10 * z47) = .inl (kA 0, 6, .inl g2_142) := q5_142
        have m_154 : (20 + z46, 15 + 10 * z47) ∈ RL := hm_142 5 (by decide)
        have c_155 : E1 (20 + z46) (16 + 10 * z47) = .inl (kA 0, 6, .inl g3_142) := q6_142
        have m_156 : (20 + z46, 16 + 10 * z47) ∈ RL := hm_142 6 (by decide)
        have c_157 : E1 (20 + z46) (17 + 10 * z47) = .inl (kA 0, 6, .inl g4_142) := q7_142
        have m_158 : (20 + z46, 17 + 10 * z47) ∈ RL := hm_142 7 (by decide)
        have hdm_142 : mdv g z46 z47 = d_142 := by
          obtain ⟨dz, hdz, h21z, hvz⟩ := tmd_136 z47 (by omega)
          rw [c_143] at hvz
          have ez := (rp_inj hD ((hDIs d_142 hd_142).1 0 (by omega)) ((hDIs dz hdz).1 0 (by omega)) (Value.ref.inj hvz)).1
          unfold mdv
          rw [h21z, iN_nI (by omega)]; omega
        obtain ⟨hm_159, fd_159, nm_159, sd_159, k0_159, k1_159, k2_159, k3_159, f0_159, f1_159, f2_159, f3_159, fe_159, fo_159, tr_159, op_159, hk0_159, hk1_159, hk2_159, hk3_159, q0_159, q1_159, q2_159, q3_159, q4_159, q5_159, q6_159, q7_159, q8_159, q9_159, q10_159, q11_159, q12_159, hg_159⟩ := id (hDIs d_142 (by omega))
        have c_160 : E1 (1 + d_142) 0 = .inr (7, [.int (nI d_142), .int fd_159, .int nm_159, .ref (ad (1 + d_142) 1), .ref (ad (1 + d_142) 9), .ref (ad (1 + d_142) 10), .ref (ad (1 + d_142) 2), .ref (ad (1 + d_142) 11), .ref (ad (1 + d_142) 12), .ref (ad (1 + d_142) 3), .ref (ad (1 + d_142) 4), .int sd_159]) := q0_159
        have m_161 : (1 + d_142, 0) ∈ RL := hm_159 0 (by decide)
        have c_162 : E1 (1 + d_142) 1 = .inr (8, [.ref (ad (1 + d_142) 5), .int (nI k0_159)]) := q1_159
        have m_163 : (1 + d_142, 1) ∈ RL := hm_159 1 (by decide)
        have c_164 : E1 (1 + d_142) 2 = .inr (8, [.ref (ad (1 + d_142) 6), .int (nI k1_159)]) := q2_159
        have m_165 : (1 + d_142, 2) ∈ RL := hm_159 2 (by decide)
        have c_166 : E1 (1 + d_142) 3 = .inr (8, [.ref (ad (1 + d_142) 7), .int (nI k2_159)]) := q3_159
        have m_167 : (1 + d_142, 3) ∈ RL := hm_159 3 (by decide)
        have c_168 : E1 (1 + d_142) 4 = .inr (8, [.ref (ad (1 + d_142) 8), .int (nI k3_159)]) := q4_159
        have m_169 : (1 + d_142, 4) ∈ RL := hm_159 4 (by decide)
        have c_170 : E1 (1 + d_142) 5 = .inl (kA 0, 6, .inl f0_159) := q5_159
        have m_171 : (1 + d_142, 5) ∈ RL := hm_159 5 (by decide)
        have c_172 : E1 (1 + d_142) 6 = .inl (kA 0, 5, .inl f1_159) := q6_159
        have m_173 : (1 + d_142, 6) ∈ RL := hm_159 6 (by decide)
        have c_174 : E1 (1 + d_142) 7 = .inl (kA 0, 3, .inl f2_159) := q7_159
        have m_175 : (1 + d_142, 7) ∈ RL := hm_159 7 (by decide)
        have c_176 : E1 (1 + d_142) 8 = .inl (kA 0, 3, .inl f3_159) := q8_159
        have m_177 : (1 + d_142, 8) ∈ RL := hm_159 8 (by decide)
        have c_178 : E1 (1 + d_142) 9 = .inl (kA 8, 6, .inr (.inr (.inr (.inr fe_159)))) := q9_159
        have m_179 : (1 + d_142, 9) ∈ RL := hm_159 9 (by decide)
        have c_180 : E1 (1 + d_142) 10 = .inl (kA 8, 6, .inr (.inr (.inr (.inr fo_159)))) := q10_159
        have m_181 : (1 + d_142, 10) ∈ RL := hm_159 10 (by decide)
        have c_182 : E1 (1 + d_142) 11 = .inl (kA 2, 5, .inl tr_159) := q11_159
        have m_183 : (1 + d_142, 11) ∈ RL := hm_159 11 (by decide)
        have c_184 : E1 (1 + d_142) 12 = .inl (kA 2, 5, .inl op_159) := q12_159
        have m_185 : (1 + d_142, 12) ∈ RL := hm_159 12 (by decide)
        have hg_159 : ∀ w9, w9 < k0_159 → fe_159 w9 = some (ad (1 + d_142) (20 + 3 * w9)) ∧ fo_159 w9 = some (ad (1 + d_142) (38 + 3 * w9)) ∧ GI kA (ad (1 + d_142)) (E1 (1 + d_142)) (fun o => (1 + d_142, o) ∈ RL) (20 + 3 * w9) (21 + 3 * w9) (22 + 3 * w9) ∧ GI kA (ad (1 + d_142)) (E1 (1 + d_142)) (fun o => (1 + d_142, o) ∈ RL) (38 + 3 * w9) (39 + 3 * w9) (40 + 3 * w9) := hg_159
        obtain ⟨hTT_159, tgr_159⟩ := TD_get hk0_159 hk1_159 hk2_159 hk3_159 c_160 c_162 c_164 c_166 c_168 c_170 c_172 c_174 c_176 c_182 c_184 (hTD1 d_142 (by omega))
        obtain ⟨tfd_159, tnm_159, tsd_159, tk0_159, tf0_159, tk1_159, tf1_159, tk2_159, tk3_159⟩ := id hTT_159
        have ik0_159 : iN (g 5 d_142) = k0_159 := by rw [← tk0_159, iN_nI (by omega)]
        have ik1_159 : iN (g 12 d_142) = k1_159 := by rw [← tk1_159, iN_nI (by omega)]
        have hlk9 : lkG g (n + 1) (g 13 (5 * d + i)) = some (z46, d_142) := by have q := z51; rw [hdm_142] at q; exact q
        have hoc9 : eA (E1 (20 + z46) (16 + 10 * z47)) = g3_142 := by rw [c_155]; rfl
        refine lv_aload_n hx hb xd_Me_takeFirstSteps_30 rfl (lv_at hl 2 rfl) ?_
        refine px_get (D := D) (ci := 6) (v := .ref (ad (20 + n) (11 + 10 * k))) (C := xR_Me) (T := xT_Me) (N := 6) hx hb hT xi_Me hown hK.1 hP ym0 c_2 rfl 2 (by decide) (hT _ k5s_0) (fun _ h9 => h9) rfl xd_Me_takeFirstSteps_31 ?_
        refine lv_iload_n hx hb xd_Me_takeFirstSteps_34 rfl (lv_at hl 1 rfl) ?_
        refine lv_aload_n hx hb xd_Me_takeFirstSteps_35 rfl (lv_at hl 0 rfl) ?_
        refine px_aast (i := i) (r := (xR_Me, xT_Me, 6)) hx hb hK.1 hP hD hS ym1 hcA1 6 rfl m_144 c_143 rfl (by omega) (by omega) xd_Me_takeFirstSteps_36 (fun H locs hP hD hS => ?_)
        have hP : va_P D xcl (rp ad (up2 E1 (20 + n) (11 + 10 * k) (.inl (kA 6, rs, .inr (.inr (.inr (.inr (va_up fr1 i (some (ad (20 + z46) (10 + 10 * z47)))))))))) RL) H := hP
        have hD : va_D A (rp ad (up2 E1 (20 + n) (11 + 10 * k) (.inl (kA 6, rs, .inr (.inr (.inr (.inr (va_up fr1 i (some (ad (20 + z46) (10 + 10 * z47)))))))))) RL) := hD
        generalize hE187 : up2 E1 (20 + n) (11 + 10 * k) (.inl (kA 6, rs, .inr (.inr (.inr (.inr (va_up fr1 i (some (ad (20 + z46) (10 + 10 * z47))))))))) = E186 at hP hD
        have fE188 : ∀ b2 o2, ¬ (b2 = 20 + n ∧ o2 = 11 + 10 * k) → E186 b2 o2 = E1 b2 o2 := fun b2 o2 h9 => by rw [← hE187]; exact up2_ne (nr_or h9)
        have c_189 : E186 (20 + n) (11 + 10 * k) = .inl (kA 6, rs, .inr (.inr (.inr (.inr (va_up fr1 i (some (ad (20 + z46) (10 + 10 * z47)))))))) := by rw [← hE187]; exact up2_eq
        have c_190 : E186 (20 + n) (15 + 10 * k) = .inl (kA 0, 6, .inl ga1) := (fE188 (20 + n) (15 + 10 * k) (fun q9 => nr_k q9.2 (by decide))).trans hcA5
        have c_191 : E186 (20 + n) (16 + 10 * k) = .inl (kA 0, 6, .inl gb1) := (fE188 (20 + n) (16 + 10 * k) (fun q9 => nr_k q9.2 (by decide))).trans hcA6
        have c_192 : E186 (20 + n) (10 + 10 * k) = .inr (6, [.ref (ad (20 + n) 0), .ref (ad (1 + d) 0), .ref (ad (20 + n) (11 + 10 * k)), .ref (ad (20 + n) (12 + 10 * k)), .ref (ad (20 + n) (13 + 10 * k)), .ref (ad (20 + n) (14 + 10 * k))]) := (fE188 (20 + n) (10 + 10 * k) (fun q9 => nr_k q9.2 (by decide))).trans c_2
        have c_193 : E186 (20 + n) (12 + 10 * k) = .inr (10, [.ref (ad (20 + n) (15 + 10 * k))]) := (fE188 (20 + n) (12 + 10 * k) (fun q9 => nr_k q9.2 (by decide))).trans c_3
        have c_194 : E186 (20 + n) (13 + 10 * k) = .inr (10, [.ref (ad (20 + n) (16 + 10 * k))]) := (fE188 (20 + n) (13 + 10 * k) (fun q9 => nr_k q9.2 (by decide))).trans c_4
        have c_195 : E186 (1 + d) 0 = .inr (7, [.int (nI d), .int fd_6, .int nm_6, .ref (ad (1 + d) 1), .ref (ad (1 + d) 9), .ref (ad (1 + d) 10), .ref (ad (1 + d) 2), .ref (ad (1 + d) 11), .ref (ad (1 + d) 12), .ref (ad (1 + d) 3), .ref (ad (1 + d) 4), .int sd_6]) := (fE188 (1 + d) 0 (fun q9 => nr_z q9.2 (by decide))).trans c_7
        have nb_196 : ¬ (1 + d = 20 + n) := by omega
        have c_197 : E186 (1 + d) 11 = .inl (kA 2, 5, .inl tr_6) := (fE188 (1 + d) 11 (fun q9 => nb_196 q9.1)).trans c_29
        have c_198 : E186 (1 + d) 12 = .inl (kA 2, 5, .inl op_6) := (fE188 (1 + d) 12 (fun q9 => nb_196 q9.1)).trans c_31
        have c_199 : E186 (20 + n) 0 = .inr (5, [.int (nI n), (lyv ad lq_36), .ref (ad (20 + n) 1), .int op_36]) := (fE188 (20 + n) 0 (fun q9 => nr_z q9.2 (by decide))).trans c_41
        have c_200 : E186 (20 + z46) 0 = .inr (5, [.int (nI z46), (lyv ad lq_136), .ref (ad (20 + z46) 1), .int op_136]) := (fE188 (20 + z46) 0 (fun q9 => nr_z q9.2 (by decide))).trans c_141
        have c_201 : E186 (20 + z46) (10 + 10 * z47) = .inr (6, [.ref (ad (20 + z46) 0), .ref (ad (1 + d_142) 0), .ref (ad (20 + z46) (11 + 10 * z47)), .ref (ad (20 + z46) (12 + 10 * z47)), .ref (ad (20 + z46) (13 + 10 * z47)), .ref (ad (20 + z46) (14 + 10 * z47))]) := (fE188 (20 + z46) (10 + 10 * z47) (by omega)).trans c_143
        have c_202 : E186 (20 + z46) (13 + 10 * z47) = .inr (10, [.ref (ad (20 + z46) (16 + 10 * z47))]) := (fE188 (20 + z46) (13 + 10 * z47) (by omega)).trans c_149
        have c_203 : E186 (20 + z46) (16 + 10 * z47) = .inl (kA 0, 6, .inl g3_142) := (fE188 (20 + z46) (16 + 10 * z47) (by omega)).trans c_155
        have c_204 : E186 (1 + d_142) 0 = .inr (7, [.int (nI d_142), .int fd_159, .int nm_159, .ref (ad (1 + d_142) 1), .ref (ad (1 + d_142) 9), .ref (ad (1 + d_142) 10), .ref (ad (1 + d_142) 2), .ref (ad (1 + d_142) 11), .ref (ad (1 + d_142) 12), .ref (ad (1 + d_142) 3), .ref (ad (1 + d_142) 4), .int sd_159]) := (fE188 (1 + d_142) 0 (fun q9 => nr_z q9.2 (by decide))).trans c_160
        refine lv_aload_n hx hb xd_Me_takeFirstSteps_37 rfl (lv_at hl 0 rfl) ?_
        refine lv_ifnull hx hb xd_Me_takeFirstSteps_38 ?_
        refine lv_aload_n hx hb xd_Me_takeFirstSteps_41 rfl (lv_at hl 2 rfl) ?_
        refine px_get (D := D) (ci := 6) (v := .ref (ad (1 + d) 0)) (C := xR_Me) (T := xT_Me) (N := 6) hx hb hT xi_Me hown hK.1 hP ym0 c_192 rfl 1 (by decide) (hT _ k5s_2) (fun _ h9 => h9) rfl xd_Me_takeFirstSteps_42 ?_
        refine px_get (D := D) (ci := 7) (v := .ref (ad (1 + d) 12)) (C := xR_Ds) (T := xT_Ds) (N := 12) hx hb hT xi_Ds hown hK.1 hP m_8 c_195 rfl 8 (by decide) (hT _ k5s_14) (fun _ h9 => h9) rfl xd_Me_takeFirstSteps_45 ?_
        refine lv_iload_n hx hb xd_Me_takeFirstSteps_48 rfl (lv_at hl 1 rfl) ?_
        refine px_zald (i := i) hx hb hK.1 hP m_32 c_198 2 rfl (by omega) (by decide) xd_Me_takeFirstSteps_49 ?_
        refine lv_if_ne (tgt := 61) hx hb xd_Me_takeFirstSteps_50 (by decide) (fun hc205 => ?_) (fun hc205 => ?_)
        · refine lv_aload_n hx hb xd_Me_takeFirstSteps_61 rfl (lv_at hl 0 rfl) ?_
          refine lv_ifnull hx hb xd_Me_takeFirstSteps_62 ?_
          refine lv_aload_n hx hb xd_Me_takeFirstSteps_65 rfl (lv_at hl 2 rfl) ?_
          refine px_get (D := D) (ci := 6) (v := .ref (ad (1 + d) 0)) (C := xR_Me) (T := xT_Me) (N := 6) hx hb hT xi_Me hown hK.1 hP ym0 c_192 rfl 1 (by decide) (hT _ k5s_2) (fun _ h9 => h9) rfl xd_Me_takeFirstSteps_66 ?_
          refine px_get (D := D) (ci := 7) (v := .ref (ad (1 + d) 11)) (C := xR_Ds) (T := xT_Ds) (N := 12) hx hb hT xi_Ds hown hK.1 hP m_8 c_195 rfl 7 (by decide) (hT _ k5s_15) (fun _ h9 => h9) rfl xd_Me_takeFirstSteps_69 ?_
          refine lv_iload_n hx hb xd_Me_takeFirstSteps_72 rfl (lv_at hl 1 rfl) ?_
          refine px_zald (i := i) hx hb hK.1 hP m_30 c_197 2 rfl (by omega) (by decide) xd_Me_takeFirstSteps_73 ?_
          refine lv_if_eq (tgt := 107) hx hb xd_Me_takeFirstSteps_74 (by decide) (fun hc206 => ?_) (fun hc206 => ?_)
          · refine lv_iinc (k := 1) (x := (nI i)) (v := (nI (i + 1))) hx hb xd_Me_takeFirstSteps_107 hl rfl (xb_inc i 1) (Nat.le_of_ble_eq_true rfl) rfl (fun ls hl => ?_)
            have hl : lv_has ls 3 [(1, .int (nI (i + 1))), (2, .ref (ad (20 + z46) (10 + 10 * z47))), (0, .ref (ad (20 + n) (10 + 10 * k)))] := hl
            refine lv_goto (tgt := 2) hx hb xd_Me_takeFirstSteps_110 (by decide) ?_
            exact ih1 (i + 1, E186, (va_up fr1 i (some (ad (20 + z46) (10 + 10 * z47)))), ga1, gb1) _ _ _ (show rs - (i + 1) < rs - i by omega) (lv_sub hl [0, 2] rfl) hP hD hS ⟨(show (i + 1) ≤ rs from by first | assumption | omega), (show E186 (20 + n) (11 + 10 * k) = .inl (kA 6, rs, .inr (.inr (.inr (.inr (va_up fr1 i (some (ad (20 + z46) (10 + 10 * z47)))))))) from c_189), (show E186 (20 + n) (15 + 10 * k) = .inl (kA 0, 6, .inl ga1) from c_190), (show E186 (20 + n) (16 + 10 * k) = .inl (kA 0, 6, .inl gb1) from c_191), (show ∀ b2 o2, ¬ (b2 = 20 + n ∧ o2 = 11 + 10 * k) → ¬ (b2 = 20 + n ∧ o2 = 15 + 10 * k) → ¬ (b2 = 20 + n ∧ o2 = 16 + 10 * k) → E186 b2 o2 = E b2 o2 from fun b2 o2 h09 h19 h29 => by rw [fE188 b2 o2 (by omega), hfr b2 o2 (by omega) (by omega) (by omega)]), (show RQX g kA ad E186 RL nd n d (i + 1) (va_up fr1 i (some (ad (20 + z46) (10 + 10 * z47)))) from RQX_RU (RU3 (b := 20 + n) (by omega) hcA1 hcA5 hcA6 c_189 c_190 c_191 (fun b2 o2 h19 h29 h39 => by rw [fE188 b2 o2 (by omega)])) (RQX_add (by omega) z49 z50 z51 hRQ)), (show ∀ t, t < 72 → (BS ga1 t ↔ (BS ga t ∨ LSp g n d (i + 1) t)) from fun t ht => by rw [hL t ht, LSp_n (Or.inl (by rw [← hti9.2.2]; exact hc205))]), (show ∀ t, t < 72 → (BS gb1 t ↔ (BS gb t ∨ CSp g n d (i + 1) t)) from fun t ht => by rw [hC t ht, CSp_n (Or.inl (by rw [← hti9.2.1]; exact hc206))])⟩
          · refine lv_aload_n hx hb xd_Me_takeFirstSteps_77 rfl (lv_at hl 2 rfl) ?_
            refine px_get (D := D) (ci := 6) (v := .ref (ad (20 + n) (13 + 10 * k))) (C := xR_Me) (T := xT_Me) (N := 6) hx hb hT xi_Me hown hK.1 hP ym0 c_192 rfl 4 (by decide) (hT _ k5s_16) (fun _ h9 => h9) rfl xd_Me_takeFirstSteps_78 ?_
            refine lv_aload_n hx hb xd_Me_takeFirstSteps_81 rfl (lv_at hl 0 rfl) ?_
            have hFc := px_free hD hS hA
            refine va_callv (va_runV (As := [.ref (ad (20 + z46) (10 + 10 * z47))]) (rest := []) ⟨hx, hb, hml, hown, hT⟩ (xc_Re_mark l D kA H.size ad E186 RL (20 + n) (13 + 10 * k) (16 + 10 * k) gb1 z46 z47 d_142 (lyv ad lq_136) op_136 fd_159 nm_159 sd_159 ym3 c_194 ym5 c_191 m_144 c_201 m_138 c_200 m_161 c_204 (by first | assumption | omega) (by first | assumption | omega) (by first | assumption | omega)) (cwV 1 hT (wT_V k5s_18 k5s_19 k5s_20 k5s_21 k5s_17) rfl rfl rfl (by decide +kernel) ⟨Nat.le_of_ble_eq_true rfl, Nat.le_of_ble_eq_true rfl⟩) (px_preV hK hP hD ym3 c_194 rfl) rfl rfl hl.1 rfl (lv_room (Nat.le_of_ble_eq_true rfl)) xd_Me_takeFirstSteps_82 ⟨(Nat.le_of_ble_eq_true rfl), (Nat.le_of_ble_eq_true rfl)⟩) hS (fun q _ h => hFc q h) hFc (fun u208 t H1 locs ht hvm hp209 hB hz1 hk1 hS => ?_)
            obtain ⟨hP1, hD1⟩ := hB
            rw [ht] at hP1
            have hD1 := hD1.weaken (fun _ _ _ h => hFc _ h)
            generalize H1 = H at hP1 hS ⊢
            have hP := hP1
            have hD := hD1
            obtain ⟨E210, rfl⟩ : ∃ z, z = u208 := ⟨_, rfl⟩
            obtain ⟨w211, hp214, p_212, p_213⟩ := hp209
            have p_212 : E210 (20 + n) (16 + 10 * k) = .inl (kA 0, 6, .inl w211) := p_212
            have p_213 : (∀ b2 o2, ¬ (b2 = (20 + n) ∧ o2 = (16 + 10 * k)) → E210 b2 o2 = E186 b2 o2) := p_213
            have c_215 : E210 (20 + n) (11 + 10 * k) = .inl (kA 6, rs, .inr (.inr (.inr (.inr (va_up fr1 i (some (ad (20 + z46) (10 + 10 * z47)))))))) := (p_213 (20 + n) (11 + 10 * k) (fun q9 => nr_k q9.2 (by decide))).trans c_189
            have c_216 : E210 (20 + n) (15 + 10 * k) = .inl (kA 0, 6, .inl ga1) := (p_213 (20 + n) (15 + 10 * k) (fun q9 => nr_k q9.2 (by decide))).trans c_190
            have c_217 : E210 (20 + n) (10 + 10 * k) = .inr (6, [.ref (ad (20 + n) 0), .ref (ad (1 + d) 0), .ref (ad (20 + n) (11 + 10 * k)), .ref (ad (20 + n) (12 + 10 * k)), .ref (ad (20 + n) (13 + 10 * k)), .ref (ad (20 + n) (14 + 10 * k))]) := (p_213 (20 + n) (10 + 10 * k) (fun q9 => nr_k q9.2 (by decide))).trans c_192
            have c_218 : E210 (20 + n) (12 + 10 * k) = .inr (10, [.ref (ad (20 + n) (15 + 10 * k))]) := (p_213 (20 + n) (12 + 10 * k) (fun q9 => nr_k q9.2 (by decide))).trans c_193
            have c_219 : E210 (20 + n) (13 + 10 * k) = .inr (10, [.ref (ad (20 + n) (16 + 10 * k))]) := (p_213 (20 + n) (13 + 10 * k) (fun q9 => nr_k q9.2 (by decide))).trans c_194
            have c_220 : E210 (1 + d) 0 = .inr (7, [.int (nI d), .int fd_6, .int nm_6, .ref (ad (1 + d) 1), .ref (ad (1 + d) 9), .ref (ad (1 + d) 10), .ref (ad (1 + d) 2), .ref (ad (1 + d) 11), .ref (ad (1 + d) 12), .ref (ad (1 + d) 3), .ref (ad (1 + d) 4), .int sd_6]) := (p_213 (1 + d) 0 (fun q9 => nr_z q9.2 (by decide))).trans c_195
            have c_221 : E210 (1 + d) 11 = .inl (kA 2, 5, .inl tr_6) := (p_213 (1 + d) 11 (fun q9 => nr_z q9.2 (by decide))).trans c_197
            have c_222 : E210 (1 + d) 12 = .inl (kA 2, 5, .inl op_6) := (p_213 (1 + d) 12 (fun q9 => nr_z q9.2 (by decide))).trans c_198
            have c_223 : E210 (20 + n) 0 = .inr (5, [.int (nI n), (lyv ad lq_36), .ref (ad (20 + n) 1), .int op_36]) := (p_213 (20 + n) 0 (fun q9 => nr_z q9.2 (by decide))).trans c_199
            have c_224 : E210 (20 + z46) 0 = .inr (5, [.int (nI z46), (lyv ad lq_136), .ref (ad (20 + z46) 1), .int op_136]) := (p_213 (20 + z46) 0 (fun q9 => nr_z q9.2 (by decide))).trans c_200
            have c_225 : E210 (20 + z46) (10 + 10 * z47) = .inr (6, [.ref (ad (20 + z46) 0), .ref (ad (1 + d_142) 0), .ref (ad (20 + z46) (11 + 10 * z47)), .ref (ad (20 + z46) (12 + 10 * z47)), .ref (ad (20 + z46) (13 + 10 * z47)), .ref (ad (20 + z46) (14 + 10 * z47))]) := (p_213 (20 + z46) (10 + 10 * z47) (by omega)).trans c_201
            have c_226 : E210 (20 + z46) (13 + 10 * z47) = .inr (10, [.ref (ad (20 + z46) (16 + 10 * z47))]) := (p_213 (20 + z46) (13 + 10 * z47) (by omega)).trans c_202
            have c_227 : E210 (20 + z46) (16 + 10 * z47) = .inl (kA 0, 6, .inl g3_142) := (p_213 (20 + z46) (16 + 10 * z47) (by omega)).trans c_203
            have c_228 : E210 (1 + d_142) 0 = .inr (7, [.int (nI d_142), .int fd_159, .int nm_159, .ref (ad (1 + d_142) 1), .ref (ad (1 + d_142) 9), .ref (ad (1 + d_142) 10), .ref (ad (1 + d_142) 2), .ref (ad (1 + d_142) 11), .ref (ad (1 + d_142) 12), .ref (ad (1 + d_142) 3), .ref (ad (1 + d_142) 4), .int sd_159]) := (p_213 (1 + d_142) 0 (fun q9 => nr_z q9.2 (by decide))).trans c_204
            have hP : va_P D xcl (rp ad E210 RL) H := hP
            have hD : va_D A (rp ad E210 RL) := hD
            have hCm : ∀ t, BS w211 t ↔ (BS gb1 t ∨ t = 12 * z46 + d_142) := fun t => by rw [hp214]; exact BS_mark (by omega)
            refine lv_aload_n hx hb xd_Me_takeFirstSteps_85 rfl (lv_at hl 0 rfl) ?_
            refine px_get (D := D) (ci := 6) (v := .ref (ad (20 + z46) 0)) (C := xR_Me) (T := xT_Me) (N := 6) hx hb hT xi_Me hown hK.1 hP m_144 c_225 rfl 0 (by decide) (hT _ k5s_1) (fun _ h9 => h9) rfl xd_Me_takeFirstSteps_86 ?_
            refine lv_aload_n hx hb xd_Me_takeFirstSteps_89 rfl (lv_at hl 2 rfl) ?_
            refine px_get (D := D) (ci := 6) (v := .ref (ad (20 + n) 0)) (C := xR_Me) (T := xT_Me) (N := 6) hx hb hT xi_Me hown hK.1 hP ym0 c_217 rfl 0 (by decide) (hT _ k5s_1) (fun _ h9 => h9) rfl xd_Me_takeFirstSteps_90 ?_
            refine lv_acmp_eq (rx := (some (ad (20 + z46) 0))) (ry := (some (ad (20 + n) 0))) (tgt := 107) hx hb xd_Me_takeFirstSteps_93 (by decide) (fun hc229 => ?_) (fun hc229 => ?_)
            · refine lv_iinc (k := 1) (x := (nI i)) (v := (nI (i + 1))) hx hb xd_Me_takeFirstSteps_107 hl rfl (xb_inc i 1) (Nat.le_of_ble_eq_true rfl) rfl (fun ls hl => ?_)
              have hl : lv_has ls 3 [(1, .int (nI (i + 1))), (2, .ref (ad (20 + z46) (10 + 10 * z47))), (0, .ref (ad (20 + n) (10 + 10 * k)))] := hl
              refine lv_goto (tgt := 2) hx hb xd_Me_takeFirstSteps_110 (by decide) ?_
              exact ih1 (i + 1, E210, (va_up fr1 i (some (ad (20 + z46) (10 + 10 * z47)))), ga1, w211) _ _ _ (show rs - (i + 1) < rs - i by omega) (lv_sub hl [0, 2] rfl) hP hD hS ⟨(show (i + 1) ≤ rs from by first | assumption | omega), (show E210 (20 + n) (11 + 10 * k) = .inl (kA 6, rs, .inr (.inr (.inr (.inr (va_up fr1 i (some (ad (20 + z46) (10 + 10 * z47)))))))) from c_215), (show E210 (20 + n) (15 + 10 * k) = .inl (kA 0, 6, .inl ga1) from c_216), (show E210 (20 + n) (16 + 10 * k) = .inl (kA 0, 6, .inl w211) from p_212), (show ∀ b2 o2, ¬ (b2 = 20 + n ∧ o2 = 11 + 10 * k) → ¬ (b2 = 20 + n ∧ o2 = 15 + 10 * k) → ¬ (b2 = 20 + n ∧ o2 = 16 + 10 * k) → E210 b2 o2 = E b2 o2 from fun b2 o2 h09 h19 h29 => by rw [p_213 b2 o2 (by omega), fE188 b2 o2 (by omega), hfr b2 o2 (by omega) (by omega) (by omega)]), (show RQX g kA ad E210 RL nd n d (i + 1) (va_up fr1 i (some (ad (20 + z46) (10 + 10 * z47)))) from RQX_RU (RU3 (b := 20 + n) (by omega) hcA1 hcA5 hcA6 c_215 c_216 p_212 (fun b2 o2 h19 h29 h39 => by rw [p_213 b2 o2 (by omega), fE188 b2 o2 (by omega)])) (RQX_add (by omega) z49 z50 z51 hRQ)), (show ∀ t, t < 72 → (BS ga1 t ↔ (BS ga t ∨ LSp g n d (i + 1) t)) from fun t ht => by rw [hL t ht, LSp_n (Or.inl (by rw [← hti9.2.2]; exact hc205))]), (show ∀ t, t < 72 → (BS w211 t ↔ (BS gb t ∨ CSp g n d (i + 1) t)) from fun t ht => by
        rw [hCm t, hC t ht, CSp_y (by rw [← hti9.2.1]; exact hc206) hlk9]
        constructor
        · rintro ((q | q) | q)
          · exact Or.inl q
          · exact Or.inr (Or.inl q)
          · exact Or.inr (Or.inr (Or.inl q))
        · rintro (q | q | q | q)
          · exact Or.inl (Or.inl q)
          · exact Or.inl (Or.inr q)
          · exact Or.inr q
          · exact absurd (show z46 = n from (by have q := (rp_inj hD m_138 m_38 (Option.some.inj hc229)).1; omega)) q.1)⟩
            · have hxn : ¬ z46 = n := fun e9 => hc229 (by rw [e9])
              refine lv_aload_n hx hb xd_Me_takeFirstSteps_96 rfl (lv_at hl 2 rfl) ?_
              refine px_get (D := D) (ci := 6) (v := .ref (ad (20 + n) (13 + 10 * k))) (C := xR_Me) (T := xT_Me) (N := 6) hx hb hT xi_Me hown hK.1 hP ym0 c_217 rfl 4 (by decide) (hT _ k5s_16) (fun _ h9 => h9) rfl xd_Me_takeFirstSteps_97 ?_
              refine lv_aload_n hx hb xd_Me_takeFirstSteps_100 rfl (lv_at hl 0 rfl) ?_
              refine px_get (D := D) (ci := 6) (v := .ref (ad (20 + z46) (13 + 10 * z47))) (C := xR_Me) (T := xT_Me) (N := 6) hx hb hT xi_Me hown hK.1 hP m_144 c_225 rfl 4 (by decide) (hT _ k5s_16) (fun _ h9 => h9) rfl xd_Me_takeFirstSteps_101 ?_
              have hFc := px_free hD hS hA
              refine va_callv (va_runV (As := [.ref (ad (20 + z46) (13 + 10 * z47))]) (rest := []) ⟨hx, hb, hml, hown, hT⟩ (xc_Re_joinX l D kA H.size ad E210 RL (20 + n) (13 + 10 * k) (16 + 10 * k) w211 (20 + z46) (13 + 10 * z47) (16 + 10 * z47) g3_142 ym3 c_219 ym5 p_212 m_150 c_226 m_156 c_227 (by first | assumption | omega) (by first | assumption | omega)) (cwV 1 hT (wT_V k5s_24 k5s_25 k5s_26 k5s_21 k5s_23) rfl rfl rfl (by decide +kernel) ⟨Nat.le_of_ble_eq_true rfl, Nat.le_of_ble_eq_true rfl⟩) (px_preV hK hP hD ym3 c_219 rfl) rfl rfl hl.1 rfl (lv_room (Nat.le_of_ble_eq_true rfl)) xd_Me_takeFirstSteps_104 ⟨(Nat.le_of_ble_eq_true rfl), (Nat.le_of_ble_eq_true rfl)⟩) hS (fun q _ h => hFc q h) hFc (fun u231 t H1 locs ht hvm hp232 hB hz1 hk1 hS => ?_)
              obtain ⟨hP1, hD1⟩ := hB
              rw [ht] at hP1
              have hD1 := hD1.weaken (fun _ _ _ h => hFc _ h)
              generalize H1 = H at hP1 hS ⊢
              have hP := hP1
              have hD := hD1
              obtain ⟨E233, rfl⟩ : ∃ z, z = u231 := ⟨_, rfl⟩
              obtain ⟨w234, hp237, p_235, p_236⟩ := hp232
              have p_235 : E233 (20 + n) (16 + 10 * k) = .inl (kA 0, 6, .inl w234) := p_235
              have p_236 : (∀ b2 o2, ¬ (b2 = (20 + n) ∧ o2 = (16 + 10 * k)) → E233 b2 o2 = E210 b2 o2) := p_236
              have c_238 : E233 (20 + n) (11 + 10 * k) = .inl (kA 6, rs, .inr (.inr (.inr (.inr (va_up fr1 i (some (ad (20 + z46) (10 + 10 * z47)))))))) := (p_236 (20 + n) (11 + 10 * k) (fun q9 => nr_k q9.2 (by decide))).trans c_215
              have c_239 : E233 (20 + n) (15 + 10 * k) = .inl (kA 0, 6, .inl ga1) := (p_236 (20 + n) (15 + 10 * k) (fun q9 => nr_k q9.2 (by decide))).trans c_216
              have c_240 : E233 (20 + n) (10 + 10 * k) = .inr (6, [.ref (ad (20 + n) 0), .ref (ad (1 + d) 0), .ref (ad (20 + n) (11 + 10 * k)), .ref (ad (20 + n) (12 + 10 * k)), .ref (ad (20 + n) (13 + 10 * k)), .ref (ad (20 + n) (14 + 10 * k))]) := (p_236 (20 + n) (10 + 10 * k) (fun q9 => nr_k q9.2 (by decide))).trans c_217
              have c_241 : E233 (20 + n) (12 + 10 * k) = .inr (10, [.ref (ad (20 + n) (15 + 10 * k))]) := (p_236 (20 + n) (12 + 10 * k) (fun q9 => nr_k q9.2 (by decide))).trans c_218
              have c_242 : E233 (20 + n) (13 + 10 * k) = .inr (10, [.ref (ad (20 + n) (16 + 10 * k))]) := (p_236 (20 + n) (13 + 10 * k) (fun q9 => nr_k q9.2 (by decide))).trans c_219
              have c_243 : E233 (1 + d) 0 = .inr (7, [.int (nI d), .int fd_6, .int nm_6, .ref (ad (1 + d) 1), .ref (ad (1 + d) 9), .ref (ad (1 + d) 10), .ref (ad (1 + d) 2), .ref (ad (1 + d) 11), .ref (ad (1 + d) 12), .ref (ad (1 + d) 3), .ref (ad (1 + d) 4), .int sd_6]) := (p_236 (1 + d) 0 (fun q9 => nr_z q9.2 (by decide))).trans c_220
              have c_244 : E233 (1 + d) 11 = .inl (kA 2, 5, .inl tr_6) := (p_236 (1 + d) 11 (fun q9 => nr_z q9.2 (by decide))).trans c_221
              have c_245 : E233 (1 + d) 12 = .inl (kA 2, 5, .inl op_6) := (p_236 (1 + d) 12 (fun q9 => nr_z q9.2 (by decide))).trans c_222
              have c_246 : E233 (20 + n) 0 = .inr (5, [.int (nI n), (lyv ad lq_36), .ref (ad (20 + n) 1), .int op_36]) := (p_236 (20 + n) 0 (fun q9 => nr_z q9.2 (by decide))).trans c_223
              have c_247 : E233 (20 + z46) 0 = .inr (5, [.int (nI z46), (lyv ad lq_136), .ref (ad (20 + z46) 1), .int op_136]) := (p_236 (20 + z46) 0 (fun q9 => nr_z q9.2 (by decide))).trans c_224
              have c_248 : E233 (20 + z46) (10 + 10 * z47) = .inr (6, [.ref (ad (20 + z46) 0), .ref (ad (1 + d_142) 0), .ref (ad (20 + z46) (11 + 10 * z47)), .ref (ad (20 + z46) (12 + 10 * z47)), .ref (ad (20 + z46) (13 + 10 * z47)), .ref (ad (20 + z46) (14 + 10 * z47))]) := (p_236 (20 + z46) (10 + 10 * z47) (by omega)).trans c_225
              have c_249 : E233 (20 + z46) (13 + 10 * z47) = .inr (10, [.ref (ad (20 + z46) (16 + 10 * z47))]) := (p_236 (20 + z46) (13 + 10 * z47) (by omega)).trans c_226
              have c_250 : E233 (20 + z46) (16 + 10 * z47) = .inl (kA 0, 6, .inl g3_142) := (p_236 (20 + z46) (16 + 10 * z47) (by omega)).trans c_227
              have c_251 : E233 (1 + d_142) 0 = .inr (7, [.int (nI d_142), .int fd_159, .int nm_159, .ref (ad (1 + d_142) 1), .ref (ad (1 + d_142) 9), .ref (ad (1 + d_142) 10), .ref (ad (1 + d_142) 2), .ref (ad (1 + d_142) 11), .ref (ad (1 + d_142) 12), .ref (ad (1 + d_142) 3), .ref (ad (1 + d_142) 4), .int sd_159]) := (p_236 (1 + d_142) 0 (fun q9 => nr_z q9.2 (by decide))).trans c_228
              have hP : va_P D xcl (rp ad E233 RL) H := hP
              have hD : va_D A (rp ad E233 RL) := hD
              have hCj : ∀ t, t < 72 → (BS w234 t ↔ ((BS gb1 t ∨ t = 12 * z46 + d_142) ∨ tc (pst g) (12 * z46 + d_142) t)) := fun t ht => by
                rw [BS_join ht hp237, hCm t]
                have q := hCB1 z46 (by omega) z47 (by have q9 := hkk9; have q8 := i20_136; omega) t ht
                rw [hdm_142, hoc9] at q
                rw [← q]
              refine lv_iinc (k := 1) (x := (nI i)) (v := (nI (i + 1))) hx hb xd_Me_takeFirstSteps_107 hl rfl (xb_inc i 1) (Nat.le_of_ble_eq_true rfl) rfl (fun ls hl => ?_)
              have hl : lv_has ls 3 [(1, .int (nI (i + 1))), (2, .ref (ad (20 + z46) (10 + 10 * z47))), (0, .ref (ad (20 + n) (10 + 10 * k)))] := hl
              refine lv_goto (tgt := 2) hx hb xd_Me_takeFirstSteps_110 (by decide) ?_
              exact ih1 (i + 1, E233, (va_up fr1 i (some (ad (20 + z46) (10 + 10 * z47)))), ga1, w234) _ _ _ (show rs - (i + 1) < rs - i by omega) (lv_sub hl [0, 2] rfl) hP hD hS ⟨(show (i + 1) ≤ rs from by first | assumption | omega), (show E233 (20 + n) (11 + 10 * k) = .inl (kA 6, rs, .inr (.inr (.inr (.inr (va_up fr1 i (some (ad (20 + z46) (10 + 10 * z47)))))))) from c_238), (show E233 (20 + n) (15 + 10 * k) = .inl (kA 0, 6, .inl ga1) from c_239), (show E233 (20 + n) (16 + 10 * k) = .inl (kA 0, 6, .inl w234) from p_235), (show ∀ b2 o2, ¬ (b2 = 20 + n ∧ o2 = 11 + 10 * k) → ¬ (b2 = 20 + n ∧ o2 = 15 + 10 * k) → ¬ (b2 = 20 + n ∧ o2 = 16 + 10 * k) → E233 b2 o2 = E b2 o2 from fun b2 o2 h09 h19 h29 => by rw [p_236 b2 o2 (by omega), p_213 b2 o2 (by omega), fE188 b2 o2 (by omega), hfr b2 o2 (by omega) (by omega) (by omega)]), (show RQX g kA ad E233 RL nd n d (i + 1) (va_up fr1 i (some (ad (20 + z46) (10 + 10 * z47)))) from RQX_RU (RU3 (b := 20 + n) (by omega) hcA1 hcA5 hcA6 c_238 c_239 p_235 (fun b2 o2 h19 h29 h39 => by rw [p_236 b2 o2 (by omega), p_213 b2 o2 (by omega), fE188 b2 o2 (by omega)])) (RQX_add (by omega) z49 z50 z51 hRQ)), (show ∀ t, t < 72 → (BS ga1 t ↔ (BS ga t ∨ LSp g n d (i + 1) t)) from fun t ht => by rw [hL t ht, LSp_n (Or.inl (by rw [← hti9.2.2]; exact hc205))]), (show ∀ t, t < 72 → (BS w234 t ↔ (BS gb t ∨ CSp g n d (i + 1) t)) from fun t ht => by
        rw [hCj t ht, hC t ht, CSp_y (by rw [← hti9.2.1]; exact hc206) hlk9]
        constructor
        · rintro ((q | q) | q)
          · exact q.elim Or.inl (fun z => Or.inr (Or.inl z))
          · exact Or.inr (Or.inr (Or.inl q))
          · exact Or.inr (Or.inr (Or.inr ⟨hxn, q⟩))
        · rintro (q | q | q | q)
          · exact Or.inl (Or.inl (Or.inl q))
          · exact Or.inl (Or.inl (Or.inr q))
          · exact Or.inl (Or.inr q)
          · exact Or.inr q.2)⟩
        · refine lv_aload_n hx hb xd_Me_takeFirstSteps_53 rfl (lv_at hl 2 rfl) ?_
          refine px_get (D := D) (ci := 6) (v := .ref (ad (20 + n) (12 + 10 * k))) (C := xR_Me) (T := xT_Me) (N := 6) hx hb hT xi_Me hown hK.1 hP ym0 c_192 rfl 3 (by decide) (hT _ k5s_22) (fun _ h9 => h9) rfl xd_Me_takeFirstSteps_54 ?_
          refine lv_aload_n hx hb xd_Me_takeFirstSteps_57 rfl (lv_at hl 0 rfl) ?_
          have hFc := px_free hD hS hA
          refine va_callv (va_runV (As := [.ref (ad (20 + z46) (10 + 10 * z47))]) (rest := []) ⟨hx, hb, hml, hown, hT⟩ (xc_Re_mark l D kA H.size ad E186 RL (20 + n) (12 + 10 * k) (15 + 10 * k) ga1 z46 z47 d_142 (lyv ad lq_136) op_136 fd_159 nm_159 sd_159 ym2 c_193 ym4 c_190 m_144 c_201 m_138 c_200 m_161 c_204 (by first | assumption | omega) (by first | assumption | omega) (by first | assumption | omega)) (cwV 1 hT (wT_V k5s_18 k5s_19 k5s_20 k5s_21 k5s_17) rfl rfl rfl (by decide +kernel) ⟨Nat.le_of_ble_eq_true rfl, Nat.le_of_ble_eq_true rfl⟩) (px_preV hK hP hD ym2 c_193 rfl) rfl rfl hl.1 rfl (lv_room (Nat.le_of_ble_eq_true rfl)) xd_Me_takeFirstSteps_58 ⟨(Nat.le_of_ble_eq_true rfl), (Nat.le_of_ble_eq_true rfl)⟩) hS (fun q _ h => hFc q h) hFc (fun u253 t H1 locs ht hvm hp254 hB hz1 hk1 hS => ?_)
          obtain ⟨hP1, hD1⟩ := hB
          rw [ht] at hP1
          have hD1 := hD1.weaken (fun _ _ _ h => hFc _ h)
          generalize H1 = H at hP1 hS ⊢
          have hP := hP1
          have hD := hD1
          obtain ⟨E255, rfl⟩ : ∃ z, z = u253 := ⟨_, rfl⟩
          obtain ⟨w256, hp259, p_257, p_258⟩ := hp254
          have p_257 : E255 (20 + n) (15 + 10 * k) = .inl (kA 0, 6, .inl w256) := p_257
          have p_258 : (∀ b2 o2, ¬ (b2 = (20 + n) ∧ o2 = (15 + 10 * k)) → E255 b2 o2 = E186 b2 o2) := p_258
          have c_260 : E255 (20 + n) (11 + 10 * k) = .inl (kA 6, rs, .inr (.inr (.inr (.inr (va_up fr1 i (some (ad (20 + z46) (10 + 10 * z47)))))))) := (p_258 (20 + n) (11 + 10 * k) (fun q9 => nr_k q9.2 (by decide))).trans c_189
          have c_261 : E255 (20 + n) (16 + 10 * k) = .inl (kA 0, 6, .inl gb1) := (p_258 (20 + n) (16 + 10 * k) (fun q9 => nr_k q9.2 (by decide))).trans c_191
          have c_262 : E255 (20 + n) (10 + 10 * k) = .inr (6, [.ref (ad (20 + n) 0), .ref (ad (1 + d) 0), .ref (ad (20 + n) (11 + 10 * k)), .ref (ad (20 + n) (12 + 10 * k)), .ref (ad (20 + n) (13 + 10 * k)), .ref (ad (20 + n) (14 + 10 * k))]) := (p_258 (20 + n) (10 + 10 * k) (fun q9 => nr_k q9.2 (by decide))).trans c_192
          have c_263 : E255 (20 + n) (12 + 10 * k) = .inr (10, [.ref (ad (20 + n) (15 + 10 * k))]) := (p_258 (20 + n) (12 + 10 * k) (fun q9 => nr_k q9.2 (by decide))).trans c_193
          have c_264 : E255 (20 + n) (13 + 10 * k) = .inr (10, [.ref (ad (20 + n) (16 + 10 * k))]) := (p_258 (20 + n) (13 + 10 * k) (fun q9 => nr_k q9.2 (by decide))).trans c_194
          have c_265 : E255 (1 + d) 0 = .inr (7, [.int (nI d), .int fd_6, .int nm_6, .ref (ad (1 + d) 1), .ref (ad (1 + d) 9), .ref (ad (1 + d) 10), .ref (ad (1 + d) 2), .ref (ad (1 + d) 11), .ref (ad (1 + d) 12), .ref (ad (1 + d) 3), .ref (ad (1 + d) 4), .int sd_6]) := (p_258 (1 + d) 0 (fun q9 => nr_z q9.2 (by decide))).trans c_195
          have c_266 : E255 (1 + d) 11 = .inl (kA 2, 5, .inl tr_6) := (p_258 (1 + d) 11 (fun q9 => nr_z q9.2 (by decide))).trans c_197
          have c_267 : E255 (1 + d) 12 = .inl (kA 2, 5, .inl op_6) := (p_258 (1 + d) 12 (fun q9 => nr_z q9.2 (by decide))).trans c_198
          have c_268 : E255 (20 + n) 0 = .inr (5, [.int (nI n), (lyv ad lq_36), .ref (ad (20 + n) 1), .int op_36]) := (p_258 (20 + n) 0 (fun q9 => nr_z q9.2 (by decide))).trans c_199
          have c_269 : E255 (20 + z46) 0 = .inr (5, [.int (nI z46), (lyv ad lq_136), .ref (ad (20 + z46) 1), .int op_136]) := (p_258 (20 + z46) 0 (fun q9 => nr_z q9.2 (by decide))).trans c_200
          have c_270 : E255 (20 + z46) (10 + 10 * z47) = .inr (6, [.ref (ad (20 + z46) 0), .ref (ad (1 + d_142) 0), .ref (ad (20 + z46) (11 + 10 * z47)), .ref (ad (20 + z46) (12 + 10 * z47)), .ref (ad (20 + z46) (13 + 10 * z47)), .ref (ad (20 + z46) (14 + 10 * z47))]) := (p_258 (20 + z46) (10 + 10 * z47) (by omega)).trans c_201
          have c_271 : E255 (20 + z46) (13 + 10 * z47) = .inr (10, [.ref (ad (20 + z46) (16 + 10 * z47))]) := (p_258 (20 + z46) (13 + 10 * z47) (by omega)).trans c_202
          have c_272 : E255 (20 + z46) (16 + 10 * z47) = .inl (kA 0, 6, .inl g3_142) := (p_258 (20 + z46) (16 + 10 * z47) (by omega)).trans c_203
          have c_273 : E255 (1 + d_142) 0 = .inr (7, [.int (nI d_142), .int fd_159, .int nm_159, .ref (ad (1 + d_142) 1), .ref (ad (1 + d_142) 9), .ref (ad (1 + d_142) 10), .ref (ad (1 + d_142) 2), .ref (ad (1 + d_142) 11), .ref (ad (1 + d_142) 12), .ref (ad (1 + d_142) 3), .ref (ad (1 + d_142) 4), .int sd_159]) := (p_258 (1 + d_142) 0 (fun q9 => nr_z q9.2 (by decide))).trans c_204
          have hP : va_P D xcl (rp ad E255 RL) H := hP
          have hD : va_D A (rp ad E255 RL) := hD
          have hLm : ∀ t, BS w256 t ↔ (BS ga1 t ∨ t = 12 * z46 + d_142) := fun t => by rw [hp259]; exact BS_mark (by omega)
          refine lv_aload_n hx hb xd_Me_takeFirstSteps_61 rfl (lv_at hl 0 rfl) ?_
          refine lv_ifnull hx hb xd_Me_takeFirstSteps_62 ?_
          refine lv_aload_n hx hb xd_Me_takeFirstSteps_65 rfl (lv_at hl 2 rfl) ?_
          refine px_get (D := D) (ci := 6) (v := .ref (ad (1 + d) 0)) (C := xR_Me) (T := xT_Me) (N := 6) hx hb hT xi_Me hown hK.1 hP ym0 c_262 rfl 1 (by decide) (hT _ k5s_2) (fun _ h9 => h9) rfl xd_Me_takeFirstSteps_66 ?_
          refine px_get (D := D) (ci := 7) (v := .ref (ad (1 + d) 11)) (C := xR_Ds) (T := xT_Ds) (N := 12) hx hb hT xi_Ds hown hK.1 hP m_8 c_265 rfl 7 (by decide) (hT _ k5s_15) (fun _ h9 => h9) rfl xd_Me_takeFirstSteps_69 ?_
          refine lv_iload_n hx hb xd_Me_takeFirstSteps_72 rfl (lv_at hl 1 rfl) ?_
          refine px_zald (i := i) hx hb hK.1 hP m_30 c_266 2 rfl (by omega) (by decide) xd_Me_takeFirstSteps_73 ?_
          refine lv_if_eq (tgt := 107) hx hb xd_Me_takeFirstSteps_74 (by decide) (fun hc274 => ?_) (fun hc274 => ?_)
          · refine lv_iinc (k := 1) (x := (nI i)) (v := (nI (i + 1))) hx hb xd_Me_takeFirstSteps_107 hl rfl (xb_inc i 1) (Nat.le_of_ble_eq_true rfl) rfl (fun ls hl => ?_)
            have hl : lv_has ls 3 [(1, .int (nI (i + 1))), (2, .ref (ad (20 + z46) (10 + 10 * z47))), (0, .ref (ad (20 + n) (10 + 10 * k)))] := hl
            refine lv_goto (tgt := 2) hx hb xd_Me_takeFirstSteps_110 (by decide) ?_
            exact ih1 (i + 1, E255, (va_up fr1 i (some (ad (20 + z46) (10 + 10 * z47)))), w256, gb1) _ _ _ (show rs - (i + 1) < rs - i by omega) (lv_sub hl [0, 2] rfl) hP hD hS ⟨(show (i + 1) ≤ rs from by first | assumption | omega), (show E255 (20 + n) (11 + 10 * k) = .inl (kA 6, rs, .inr (.inr (.inr (.inr (va_up fr1 i (some (ad (20 + z46) (10 + 10 * z47)))))))) from c_260), (show E255 (20 + n) (15 + 10 * k) = .inl (kA 0, 6, .inl w256) from p_257), (show E255 (20 + n) (16 + 10 * k) = .inl (kA 0, 6, .inl gb1) from c_261), (show ∀ b2 o2, ¬ (b2 = 20 + n ∧ o2 = 11 + 10 * k) → ¬ (b2 = 20 + n ∧ o2 = 15 + 10 * k) → ¬ (b2 = 20 + n ∧ o2 = 16 + 10 * k) → E255 b2 o2 = E b2 o2 from fun b2 o2 h09 h19 h29 => by rw [p_258 b2 o2 (by omega), fE188 b2 o2 (by omega), hfr b2 o2 (by omega) (by omega) (by omega)]), (show RQX g kA ad E255 RL nd n d (i + 1) (va_up fr1 i (some (ad (20 + z46) (10 + 10 * z47)))) from RQX_RU (RU3 (b := 20 + n) (by omega) hcA1 hcA5 hcA6 c_260 p_257 c_261 (fun b2 o2 h19 h29 h39 => by rw [p_258 b2 o2 (by omega), fE188 b2 o2 (by omega)])) (RQX_add (by omega) z49 z50 z51 hRQ)), (show ∀ t, t < 72 → (BS w256 t ↔ (BS ga t ∨ LSp g n d (i + 1) t)) from fun t ht => by rw [hLm t, hL t ht, LSp_y (by rw [← hti9.2.2]; exact hc205) hlk9, or_assoc]), (show ∀ t, t < 72 → (BS gb1 t ↔ (BS gb t ∨ CSp g n d (i + 1) t)) from fun t ht => by rw [hC t ht, CSp_n (Or.inl (by rw [← hti9.2.1]; exact hc274))])⟩
          · refine lv_aload_n hx hb xd_Me_takeFirstSteps_77 rfl (lv_at hl 2 rfl) ?_
            refine px_get (D := D) (ci := 6) (v := .ref (ad (20 + n) (13 + 10 * k))) (C := xR_Me) (T := xT_Me) (N := 6) hx hb hT xi_Me hown hK.1 hP ym0 c_262 rfl 4 (by decide) (hT _ k5s_16) (fun _ h9 => h9) rfl xd_Me_takeFirstSteps_78 ?_
            refine lv_aload_n hx hb xd_Me_takeFirstSteps_81 rfl (lv_at hl 0 rfl) ?_
            have hFc := px_free hD hS hA
            refine va_callv (va_runV (As := [.ref (ad (20 + z46) (10 + 10 * z47))]) (rest := []) ⟨hx, hb, hml, hown, hT⟩ (xc_Re_mark l D kA H.size ad E255 RL (20 + n) (13 + 10 * k) (16 + 10 * k) gb1 z46 z47 d_142 (lyv ad lq_136) op_136 fd_159 nm_159 sd_159 ym3 c_264 ym5 c_261 m_144 c_270 m_138 c_269 m_161 c_273 (by first | assumption | omega) (by first | assumption | omega) (by first | assumption | omega)) (cwV 1 hT (wT_V k5s_18 k5s_19 k5s_20 k5s_21 k5s_17) rfl rfl rfl (by decide +kernel) ⟨Nat.le_of_ble_eq_true rfl, Nat.le_of_ble_eq_true rfl⟩) (px_preV hK hP hD ym3 c_264 rfl) rfl rfl hl.1 rfl (lv_room (Nat.le_of_ble_eq_true rfl)) xd_Me_takeFirstSteps_82 ⟨(Nat.le_of_ble_eq_true rfl), (Nat.le_of_ble_eq_true rfl)⟩) hS (fun q _ h => hFc q h) hFc (fun u276 t H1 locs ht hvm hp277 hB hz1 hk1 hS => ?_)
            obtain ⟨hP1, hD1⟩ := hB
            rw [ht] at hP1
            have hD1 := hD1.weaken (fun _ _ _ h => hFc _ h)
            generalize H1 = H at hP1 hS ⊢
            have hP := hP1
            have hD := hD1
            obtain ⟨E278, rfl⟩ : ∃ z, z = u276 := ⟨_, rfl⟩
            obtain ⟨w279, hp282, p_280, p_281⟩ := hp277
            have p_280 : E278 (20 + n) (16 + 10 * k) = .inl (kA 0, 6, .inl w279) := p_280
            have p_281 : (∀ b2 o2, ¬ (b2 = (20 + n) ∧ o2 = (16 + 10 * k)) → E278 b2 o2 = E255 b2 o2) := p_281
            have c_283 : E278 (20 + n) (15 + 10 * k) = .inl (kA 0, 6, .inl w256) := (p_281 (20 + n) (15 + 10 * k) (fun q9 => nr_k q9.2 (by decide))).trans p_257
            have c_284 : E278 (20 + n) (11 + 10 * k) = .inl (kA 6, rs, .inr (.inr (.inr (.inr (va_up fr1 i (some (ad (20 + z46) (10 + 10 * z47)))))))) := (p_281 (20 + n) (11 + 10 * k) (fun q9 => nr_k q9.2 (by decide))).trans c_260
            have c_285 : E278 (20 + n) (10 + 10 * k) = .inr (6, [.ref (ad (20 + n) 0), .ref (ad (1 + d) 0), .ref (ad (20 + n) (11 + 10 * k)), .ref (ad (20 + n) (12 + 10 * k)), .ref (ad (20 + n) (13 + 10 * k)), .ref (ad (20 + n) (14 + 10 * k))]) := (p_281 (20 + n) (10 + 10 * k) (fun q9 => nr_k q9.2 (by decide))).trans c_262
            have c_286 : E278 (20 + n) (12 + 10 * k) = .inr (10, [.ref (ad (20 + n) (15 + 10 * k))]) := (p_281 (20 + n) (12 + 10 * k) (fun q9 => nr_k q9.2 (by decide))).trans c_263
            have c_287 : E278 (20 + n) (13 + 10 * k) = .inr (10, [.ref (ad (20 + n) (16 + 10 * k))]) := (p_281 (20 + n) (13 + 10 * k) (fun q9 => nr_k q9.2 (by decide))).trans c_264
            have c_288 : E278 (1 + d) 0 = .inr (7, [.int (nI d), .int fd_6, .int nm_6, .ref (ad (1 + d) 1), .ref (ad (1 + d) 9), .ref (ad (1 + d) 10), .ref (ad (1 + d) 2), .ref (ad (1 + d) 11), .ref (ad (1 + d) 12), .ref (ad (1 + d) 3), .ref (ad (1 + d) 4), .int sd_6]) := (p_281 (1 + d) 0 (fun q9 => nr_z q9.2 (by decide))).trans c_265
            have c_289 : E278 (1 + d) 11 = .inl (kA 2, 5, .inl tr_6) := (p_281 (1 + d) 11 (fun q9 => nr_z q9.2 (by decide))).trans c_266
            have c_290 : E278 (1 + d) 12 = .inl (kA 2, 5, .inl op_6) := (p_281 (1 + d) 12 (fun q9 => nr_z q9.2 (by decide))).trans c_267
            have c_291 : E278 (20 + n) 0 = .inr (5, [.int (nI n), (lyv ad lq_36), .ref (ad (20 + n) 1), .int op_36]) := (p_281 (20 + n) 0 (fun q9 => nr_z q9.2 (by decide))).trans c_268
            have c_292 : E278 (20 + z46) 0 = .inr (5, [.int (nI z46), (lyv ad lq_136), .ref (ad (20 + z46) 1), .int op_136]) := (p_281 (20 + z46) 0 (fun q9 => nr_z q9.2 (by decide))).trans c_269
            have c_293 : E278 (20 + z46) (10 + 10 * z47) = .inr (6, [.ref (ad (20 + z46) 0), .ref (ad (1 + d_142) 0), .ref (ad (20 + z46) (11 + 10 * z47)), .ref (ad (20 + z46) (12 + 10 * z47)), .ref (ad (20 + z46) (13 + 10 * z47)), .ref (ad (20 + z46) (14 + 10 * z47))]) := (p_281 (20 + z46) (10 + 10 * z47) (by omega)).trans c_270
            have c_294 : E278 (20 + z46) (13 + 10 * z47) = .inr (10, [.ref (ad (20 + z46) (16 + 10 * z47))]) := (p_281 (20 + z46) (13 + 10 * z47) (by omega)).trans c_271
            have c_295 : E278 (20 + z46) (16 + 10 * z47) = .inl (kA 0, 6, .inl g3_142) := (p_281 (20 + z46) (16 + 10 * z47) (by omega)).trans c_272
            have c_296 : E278 (1 + d_142) 0 = .inr (7, [.int (nI d_142), .int fd_159, .int nm_159, .ref (ad (1 + d_142) 1), .ref (ad (1 + d_142) 9), .ref (ad (1 + d_142) 10), .ref (ad (1 + d_142) 2), .ref (ad (1 + d_142) 11), .ref (ad (1 + d_142) 12), .ref (ad (1 + d_142) 3), .ref (ad (1 + d_142) 4), .int sd_159]) := (p_281 (1 + d_142) 0 (fun q9 => nr_z q9.2 (by decide))).trans c_273
            have hP : va_P D xcl (rp ad E278 RL) H := hP
            have hD : va_D A (rp ad E278 RL) := hD
            have hCm : ∀ t, BS w279 t ↔ (BS gb1 t ∨ t = 12 * z46 + d_142) := fun t => by rw [hp282]; exact BS_mark (by omega)
            refine lv_aload_n hx hb xd_Me_takeFirstSteps_85 rfl (lv_at hl 0 rfl) ?_
            refine px_get (D := D) (ci := 6) (v := .ref (ad (20 + z46) 0)) (C := xR_Me) (T := xT_Me) (N := 6) hx hb hT xi_Me hown hK.1 hP m_144 c_293 rfl 0 (by decide) (hT _ k5s_1) (fun _ h9 => h9) rfl xd_Me_takeFirstSteps_86 ?_
            refine lv_aload_n hx hb xd_Me_takeFirstSteps_89 rfl (lv_at hl 2 rfl) ?_
            refine px_get (D := D) (ci := 6) (v := .ref (ad (20 + n) 0)) (C := xR_Me) (T := xT_Me) (N := 6) hx hb hT xi_Me hown hK.1 hP ym0 c_285 rfl 0 (by decide) (hT _ k5s_1) (fun _ h9 => h9) rfl xd_Me_takeFirstSteps_90 ?_
            refine lv_acmp_eq (rx := (some (ad (20 + z46) 0))) (ry := (some (ad (20 + n) 0))) (tgt := 107) hx hb xd_Me_takeFirstSteps_93 (by decide) (fun hc297 => ?_) (fun hc297 => ?_)
            · refine lv_iinc (k := 1) (x := (nI i)) (v := (nI (i + 1))) hx hb xd_Me_takeFirstSteps_107 hl rfl (xb_inc i 1) (Nat.le_of_ble_eq_true rfl) rfl (fun ls hl => ?_)
              have hl : lv_has ls 3 [(1, .int (nI (i + 1))), (2, .ref (ad (20 + z46) (10 + 10 * z47))), (0, .ref (ad (20 + n) (10 + 10 * k)))] := hl
              refine lv_goto (tgt := 2) hx hb xd_Me_takeFirstSteps_110 (by decide) ?_
              exact ih1 (i + 1, E278, (va_up fr1 i (some (ad (20 + z46) (10 + 10 * z47)))), w256, w279) _ _ _ (show rs - (i + 1) < rs - i by omega) (lv_sub hl [0, 2] rfl) hP hD hS ⟨(show (i + 1) ≤ rs from by first | assumption | omega), (show E278 (20 + n) (11 + 10 * k) = .inl (kA 6, rs, .inr (.inr (.inr (.inr (va_up fr1 i (some (ad (20 + z46) (10 + 10 * z47)))))))) from c_284), (show E278 (20 + n) (15 + 10 * k) = .inl (kA 0, 6, .inl w256) from c_283), (show E278 (20 + n) (16 + 10 * k) = .inl (kA 0, 6, .inl w279) from p_280), (show ∀ b2 o2, ¬ (b2 = 20 + n ∧ o2 = 11 + 10 * k) → ¬ (b2 = 20 + n ∧ o2 = 15 + 10 * k) → ¬ (b2 = 20 + n ∧ o2 = 16 + 10 * k) → E278 b2 o2 = E b2 o2 from fun b2 o2 h09 h19 h29 => by rw [p_281 b2 o2 (by omega), p_258 b2 o2 (by omega), fE188 b2 o2 (by omega), hfr b2 o2 (by omega) (by omega) (by omega)]), (show RQX g kA ad E278 RL nd n d (i + 1) (va_up fr1 i (some (ad (20 + z46) (10 + 10 * z47)))) from RQX_RU (RU3 (b := 20 + n) (by omega) hcA1 hcA5 hcA6 c_284 c_283 p_280 (fun b2 o2 h19 h29 h39 => by rw [p_281 b2 o2 (by omega), p_258 b2 o2 (by omega), fE188 b2 o2 (by omega)])) (RQX_add (by omega) z49 z50 z51 hRQ)), (show ∀ t, t < 72 → (BS w256 t ↔ (BS ga t ∨ LSp g n d (i + 1) t)) from fun t ht => by rw [hLm t, hL t ht, LSp_y (by rw [← hti9.2.2]; exact hc205) hlk9, or_assoc]), (show ∀ t, t < 72 → (BS w279 t ↔ (BS gb t ∨ CSp g n d (i + 1) t)) from fun t ht => by
        rw [hCm t, hC t ht, CSp_y (by rw [← hti9.2.1]; exact hc274) hlk9]
        constructor
        · rintro ((q | q) | q)
          · exact Or.inl q
          · exact Or.inr (Or.inl q)
          · exact Or.inr (Or.inr (Or.inl q))
        · rintro (q | q | q | q)
          · exact Or.inl (Or.inl q)
          · exact Or.inl (Or.inr q)
          · exact Or.inr q
          · exact absurd (show z46 = n from (by have q := (rp_inj hD m_138 m_38 (Option.some.inj hc297)).1; omega)) q.1)⟩
            · have hxn : ¬ z46 = n := fun e9 => hc297 (by rw [e9])
              refine lv_aload_n hx hb xd_Me_takeFirstSteps_96 rfl (lv_at hl 2 rfl) ?_
              refine px_get (D := D) (ci := 6) (v := .ref (ad (20 + n) (13 + 10 * k))) (C := xR_Me) (T := xT_Me) (N := 6) hx hb hT xi_Me hown hK.1 hP ym0 c_285 rfl 4 (by decide) (hT _ k5s_16) (fun _ h9 => h9) rfl xd_Me_takeFirstSteps_97 ?_
              refine lv_aload_n hx hb xd_Me_takeFirstSteps_100 rfl (lv_at hl 0 rfl) ?_
              refine px_get (D := D) (ci := 6) (v := .ref (ad (20 + z46) (13 + 10 * z47))) (C := xR_Me) (T := xT_Me) (N := 6) hx hb hT xi_Me hown hK.1 hP m_144 c_293 rfl 4 (by decide) (hT _ k5s_16) (fun _ h9 => h9) rfl xd_Me_takeFirstSteps_101 ?_
              have hFc := px_free hD hS hA
              refine va_callv (va_runV (As := [.ref (ad (20 + z46) (13 + 10 * z47))]) (rest := []) ⟨hx, hb, hml, hown, hT⟩ (xc_Re_joinX l D kA H.size ad E278 RL (20 + n) (13 + 10 * k) (16 + 10 * k) w279 (20 + z46) (13 + 10 * z47) (16 + 10 * z47) g3_142 ym3 c_287 ym5 p_280 m_150 c_294 m_156 c_295 (by first | assumption | omega) (by first | assumption | omega)) (cwV 1 hT (wT_V k5s_24 k5s_25 k5s_26 k5s_21 k5s_23) rfl rfl rfl (by decide +kernel) ⟨Nat.le_of_ble_eq_true rfl, Nat.le_of_ble_eq_true rfl⟩) (px_preV hK hP hD ym3 c_287 rfl) rfl rfl hl.1 rfl (lv_room (Nat.le_of_ble_eq_true rfl)) xd_Me_takeFirstSteps_104 ⟨(Nat.le_of_ble_eq_true rfl), (Nat.le_of_ble_eq_true rfl)⟩) hS (fun q _ h => hFc q h) hFc (fun u299 t H1 locs ht hvm hp300 hB hz1 hk1 hS => ?_)
              obtain ⟨hP1, hD1⟩ := hB
              rw [ht] at hP1
              have hD1 := hD1.weaken (fun _ _ _ h => hFc _ h)
              generalize H1 = H at hP1 hS ⊢
              have hP := hP1
              have hD := hD1
              obtain ⟨E301, rfl⟩ : ∃ z, z = u299 := ⟨_, rfl⟩
              obtain ⟨w302, hp305, p_303, p_304⟩ := hp300
              have p_303 : E301 (20 + n) (16 + 10 * k) = .inl (kA 0, 6, .inl w302) := p_303
              have p_304 : (∀ b2 o2, ¬ (b2 = (20 + n) ∧ o2 = (16 + 10 * k)) → E301 b2 o2 = E278 b2 o2) := p_304
              have c_306 : E301 (20 + n) (15 + 10 * k) = .inl (kA 0, 6, .inl w256) := (p_304 (20 + n) (15 + 10 * k) (fun q9 => nr_k q9.2 (by decide))).trans c_283
              have c_307 : E301 (20 + n) (11 + 10 * k) = .inl (kA 6, rs, .inr (.inr (.inr (.inr (va_up fr1 i (some (ad (20 + z46) (10 + 10 * z47)))))))) := (p_304 (20 + n) (11 + 10 * k) (fun q9 => nr_k q9.2 (by decide))).trans c_284
              have c_308 : E301 (20 + n) (10 + 10 * k) = .inr (6, [.ref (ad (20 + n) 0), .ref (ad (1 + d) 0), .ref (ad (20 + n) (11 + 10 * k)), .ref (ad (20 + n) (12 + 10 * k)), .ref (ad (20 + n) (13 + 10 * k)), .ref (ad (20 + n) (14 + 10 * k))]) := (p_304 (20 + n) (10 + 10 * k) (fun q9 => nr_k q9.2 (by decide))).trans c_285
              have c_309 : E301 (20 + n) (12 + 10 * k) = .inr (10, [.ref (ad (20 + n) (15 + 10 * k))]) := (p_304 (20 + n) (12 + 10 * k) (fun q9 => nr_k q9.2 (by decide))).trans c_286
              have c_310 : E301 (20 + n) (13 + 10 * k) = .inr (10, [.ref (ad (20 + n) (16 + 10 * k))]) := (p_304 (20 + n) (13 + 10 * k) (fun q9 => nr_k q9.2 (by decide))).trans c_287
              have c_311 : E301 (1 + d) 0 = .inr (7, [.int (nI d), .int fd_6, .int nm_6, .ref (ad (1 + d) 1), .ref (ad (1 + d) 9), .ref (ad (1 + d) 10), .ref (ad (1 + d) 2), .ref (ad (1 + d) 11), .ref (ad (1 + d) 12), .ref (ad (1 + d) 3), .ref (ad (1 + d) 4), .int sd_6]) := (p_304 (1 + d) 0 (fun q9 => nr_z q9.2 (by decide))).trans c_288
              have c_312 : E301 (1 + d) 11 = .inl (kA 2, 5, .inl tr_6) := (p_304 (1 + d) 11 (fun q9 => nr_z q9.2 (by decide))).trans c_289
              have c_313 : E301 (1 + d) 12 = .inl (kA 2, 5, .inl op_6) := (p_304 (1 + d) 12 (fun q9 => nr_z q9.2 (by decide))).trans c_290
              have c_314 : E301 (20 + n) 0 = .inr (5, [.int (nI n), (lyv ad lq_36), .ref (ad (20 + n) 1), .int op_36]) := (p_304 (20 + n) 0 (fun q9 => nr_z q9.2 (by decide))).trans c_291
              have c_315 : E301 (20 + z46) 0 = .inr (5, [.int (nI z46), (lyv ad lq_136), .ref (ad (20 + z46) 1), .int op_136]) := (p_304 (20 + z46) 0 (fun q9 => nr_z q9.2 (by decide))).trans c_292
              have c_316 : E301 (20 + z46) (10 + 10 * z47) = .inr (6, [.ref (ad (20 + z46) 0), .ref (ad (1 + d_142) 0), .ref (ad (20 + z46) (11 + 10 * z47)), .ref (ad (20 + z46) (12 + 10 * z47)), .ref (ad (20 + z46) (13 + 10 * z47)), .ref (ad (20 + z46) (14 + 10 * z47))]) := (p_304 (20 + z46) (10 + 10 * z47) (by omega)).trans c_293
              have c_317 : E301 (20 + z46) (13 + 10 * z47) = .inr (10, [.ref (ad (20 + z46) (16 + 10 * z47))]) := (p_304 (20 + z46) (13 + 10 * z47) (by omega)).trans c_294
              have c_318 : E301 (20 + z46) (16 + 10 * z47) = .inl (kA 0, 6, .inl g3_142) := (p_304 (20 + z46) (16 + 10 * z47) (by omega)).trans c_295
              have c_319 : E301 (1 + d_142) 0 = .inr (7, [.int (nI d_142), .int fd_159, .int nm_159, .ref (ad (1 + d_142) 1), .ref (ad (1 + d_142) 9), .ref (ad (1 + d_142) 10), .ref (ad (1 + d_142) 2), .ref (ad (1 + d_142) 11), .ref (ad (1 + d_142) 12), .ref (ad (1 + d_142) 3), .ref (ad (1 + d_142) 4), .int sd_159]) := (p_304 (1 + d_142) 0 (fun q9 => nr_z q9.2 (by decide))).trans c_296
              have hP : va_P D xcl (rp ad E301 RL) H := hP
              have hD : va_D A (rp ad E301 RL) := hD
              have hCj : ∀ t, t < 72 → (BS w302 t ↔ ((BS gb1 t ∨ t = 12 * z46 + d_142) ∨ tc (pst g) (12 * z46 + d_142) t)) := fun t ht => by
                rw [BS_join ht hp305, hCm t]
                have q := hCB1 z46 (by omega) z47 (by have q9 := hkk9; have q8 := i20_136; omega) t ht
                rw [hdm_142, hoc9] at q
                rw [← q]
              refine lv_iinc (k := 1) (x := (nI i)) (v := (nI (i + 1))) hx hb xd_Me_takeFirstSteps_107 hl rfl (xb_inc i 1) (Nat.le_of_ble_eq_true rfl) rfl (fun ls hl => ?_)
              have hl : lv_has ls 3 [(1, .int (nI (i + 1))), (2, .ref (ad (20 + z46) (10 + 10 * z47))), (0, .ref (ad (20 + n) (10 + 10 * k)))] := hl
              refine lv_goto (tgt := 2) hx hb xd_Me_takeFirstSteps_110 (by decide) ?_
              exact ih1 (i + 1, E301, (va_up fr1 i (some (ad (20 + z46) (10 + 10 * z47)))), w256, w302) _ _ _ (show rs - (i + 1) < rs - i by omega) (lv_sub hl [0, 2] rfl) hP hD hS ⟨(show (i + 1) ≤ rs from by first | assumption | omega), (show E301 (20 + n) (11 + 10 * k) = .inl (kA 6, rs, .inr (.inr (.inr (.inr (va_up fr1 i (some (ad (20 + z46) (10 + 10 * z47)))))))) from c_307), (show E301 (20 + n) (15 + 10 * k) = .inl (kA 0, 6, .inl w256) from c_306), (show E301 (20 + n) (16 + 10 * k) = .inl (kA 0, 6, .inl w302) from p_303), (show ∀ b2 o2, ¬ (b2 = 20 + n ∧ o2 = 11 + 10 * k) → ¬ (b2 = 20 + n ∧ o2 = 15 + 10 * k) → ¬ (b2 = 20 + n ∧ o2 = 16 + 10 * k) → E301 b2 o2 = E b2 o2 from fun b2 o2 h09 h19 h29 => by rw [p_304 b2 o2 (by omega), p_281 b2 o2 (by omega), p_258 b2 o2 (by omega), fE188 b2 o2 (by omega), hfr b2 o2 (by omega) (by omega) (by omega)]), (show RQX g kA ad E301 RL nd n d (i + 1) (va_up fr1 i (some (ad (20 + z46) (10 + 10 * z47)))) from RQX_RU (RU3 (b := 20 + n) (by omega) hcA1 hcA5 hcA6 c_307 c_306 p_303 (fun b2 o2 h19 h29 h39 => by rw [p_304 b2 o2 (by omega), p_281 b2 o2 (by omega), p_258 b2 o2 (by omega), fE188 b2 o2 (by omega)])) (RQX_add (by omega) z49 z50 z51 hRQ)), (show ∀ t, t < 72 → (BS w256 t ↔ (BS ga t ∨ LSp g n d (i + 1) t)) from fun t ht => by rw [hLm t, hL t ht, LSp_y (by rw [← hti9.2.2]; exact hc205) hlk9, or_assoc]), (show ∀ t, t < 72 → (BS w302 t ↔ (BS gb t ∨ CSp g n d (i + 1) t)) from fun t ht => by
        rw [hCj t ht, hC t ht, CSp_y (by rw [← hti9.2.1]; exact hc274) hlk9]
        constructor
        · rintro ((q | q) | q)
          · exact q.elim Or.inl (fun z => Or.inr (Or.inl z))
          · exact Or.inr (Or.inr (Or.inl q))
          · exact Or.inr (Or.inr (Or.inr ⟨hxn, q⟩))
        · rintro (q | q | q | q)
          · exact Or.inl (Or.inl (Or.inl q))
          · exact Or.inl (Or.inl (Or.inr q))
          · exact Or.inl (Or.inr q)
          · exact Or.inr q.2)⟩
theorem PW_self {F : Nat → Nat → Prop} {nf : Nat → Nat} {v t : Nat} : PW F nf (v + 1) v t ↔ PW F nf v v t := ⟨fun h => h.elim id (fun q => q.2), Or.inl⟩
theorem PW_no {F : Nat → Nat → Prop} {nf : Nat → Nat} {v a t : Nat} (h : ¬ PW F nf v a (nf v)) : PW F nf (v + 1) a t ↔ PW F nf v a t := ⟨fun q => q.elim id (fun z => absurd z.1 h), Or.inl⟩
def PJ (F : Nat → Nat → Prop) (nf : Nat → Nat) (mk via k : Nat) (Rw : Nat → Nat → Int32) : Prop := ∀ j, j < mk → ∀ t, t < 72 → (BS (Rw j) t ↔ ((j < k ∧ PW F nf (via + 1) j t) ∨ (k ≤ j ∧ PW F nf via j t)))
theorem PJ_0 {F : Nat → Nat → Prop} {nf : Nat → Nat} {mk via : Nat} {Rw : Nat → Nat → Int32} (h : ∀ j, j < mk → ∀ t, t < 72 → (BS (Rw j) t ↔ PW F nf via j t)) : PJ F nf mk via 0 Rw := fun j hj t ht => by
  rw [h j hj t ht]
  exact ⟨fun q => Or.inr ⟨Nat.zero_le _, q⟩, fun q => q.elim (fun z => absurd z.1 (Nat.not_lt_zero _)) (fun z => z.2)⟩
theorem PJ_e {F : Nat → Nat → Prop} {nf : Nat → Nat} {mk via k : Nat} {Rw : Nat → Nat → Int32} (hk : mk ≤ k) (h : PJ F nf mk via k Rw) : ∀ j, j < mk → ∀ t, t < 72 → (BS (Rw j) t ↔ PW F nf (via + 1) j t) := fun j hj t ht => by
  rw [h j hj t ht]
  exact ⟨fun q => q.elim (fun z => z.2) (fun z => by omega), fun q => Or.inl ⟨by omega, q⟩⟩
theorem PJ_at {F : Nat → Nat → Prop} {nf : Nat → Nat} {mk via k : Nat} {Rw : Nat → Nat → Int32} (h : PJ F nf mk via k Rw) (hk : k < mk) {t : Nat} (ht : t < 72) : BS (Rw k) t ↔ PW F nf via k t := by
  rw [h k hk t ht]
  exact ⟨fun q => q.elim (fun z => by omega) (fun z => z.2), fun q => Or.inr ⟨Nat.le_refl _, q⟩⟩
theorem PJ_via {F : Nat → Nat → Prop} {nf : Nat → Nat} {mk via k : Nat} {Rw : Nat → Nat → Int32} (h : PJ F nf mk via k Rw) (hv : via < mk) {t : Nat} (ht : t < 72) : BS (Rw via) t ↔ PW F nf via via t := by
  rw [h via hv t ht, PW_self]
  exact ⟨fun q => q.elim (fun z => z.2) (fun z => z.2), fun q => by
    rcases Nat.lt_or_ge via k with z | z
    · exact Or.inl ⟨z, q⟩
    · exact Or.inr ⟨z, q⟩⟩
theorem PJ_n {F : Nat → Nat → Prop} {nf : Nat → Nat} {mk via k : Nat} {Rw : Nat → Nat → Int32} (hn : ¬ PW F nf via k (nf via)) (h : PJ F nf mk via k Rw) : PJ F nf mk via (k + 1) Rw := fun j hj t ht => by
  rw [h j hj t ht]
  by_cases e : j = k
  · subst e
    rw [PW_no hn]
    exact ⟨fun q => Or.inl ⟨by omega, q.elim (fun z => z.2) (fun z => z.2)⟩, fun q => Or.inr ⟨Nat.le_refl _, q.elim (fun z => z.2) (fun z => z.2)⟩⟩
  · constructor
    · rintro (⟨q1, q2⟩ | ⟨q1, q2⟩)
      · exact Or.inl ⟨by omega, q2⟩
      · exact Or.inr ⟨by omega, q2⟩
    · rintro (⟨q1, q2⟩ | ⟨q1, q2⟩)
      · exact Or.inl ⟨by omega, q2⟩
      · exact Or.inr ⟨by omega, q2⟩
theorem PJ_y {F : Nat → Nat → Prop} {nf : Nat → Nat} {mk via k : Nat} {Rw Rw2 : Nat → Nat → Int32} (hv : via < mk) (hk : k < mk) (hy : PW F nf via k (nf via)) (h : PJ F nf mk via k Rw) (ho : ∀ j, j < mk → ¬ j = k → Rw2 j = Rw j) (hn : ∀ t, t < 72 → (BS (Rw2 k) t ↔ (BS (Rw k) t ∨ BS (Rw via) t))) : PJ F nf mk via (k + 1) Rw2 := fun j hj t ht => by
  by_cases e : j = k
  · subst e
    rw [hn t ht, PJ_at h hk ht, PJ_via h hv ht]
    constructor
    · intro q
      exact Or.inl ⟨by omega, q.elim Or.inl (fun z => Or.inr ⟨hy, z⟩)⟩
    · rintro (⟨_, q⟩ | ⟨q, _⟩)
      · exact q.elim Or.inl (fun z => Or.inr z.2)
      · omega
  · rw [ho j hj e, h j hj t ht]
    constructor
    · rintro (⟨q1, q2⟩ | ⟨q1, q2⟩)
      · exact Or.inl ⟨by omega, q2⟩
      · exact Or.inr ⟨by omega, q2⟩
    · rintro (⟨q1, q2⟩ | ⟨q1, q2⟩)
      · exact Or.inl ⟨by omega, q2⟩
      · exact Or.inr ⟨by omega, q2⟩
theorem k5t_0 : (Cond.fieldLink "LayerDesk$Layer" 19 "LayerDesk$Layer" "members" "[LLayerDesk$Member;") ∈ wT := wT_t (List.mem_append_right _ (List.mem_append_right _ (List.mem_append_left _ (List.mem_of_getElem? (i := 147) rfl)))) rfl
theorem k5t_1 : (Cond.code xy_Re_marks xb_Re_marks 2 (some .boolean)) ∈ wT := wT_t (List.mem_append_left _ (List.mem_of_getElem? (i := 177) rfl)) rfl
theorem k5t_2 : (Cond.methodLink "LayerDesk$Layer" 66 xy_Re_marks) ∈ wT := wT_t (List.mem_append_right _ (List.mem_append_right _ (List.mem_append_left _ (List.mem_of_getElem? (i := 230) rfl)))) rfl
theorem k5t_3 : (Cond.instanceMethod xy_Re_marks) ∈ wT := wT_t (List.mem_append_left _ (List.mem_of_getElem? (i := 175) rfl)) rfl
theorem k5t_4 : (Cond.selects "LayerDesk$Reach" xy_Re_marks xy_Re_marks) ∈ wT := wT_t (List.mem_append_left _ (List.mem_of_getElem? (i := 176) rfl)) rfl
theorem k5t_5 : (Cond.initialized "LayerDesk$Reach") ∈ wT := wT_t (List.mem_append_left _ (List.mem_of_getElem? (i := 21) rfl)) rfl
theorem k5t_6 : (Cond.code xy_Re_join xb_Re_join 3 none) ∈ wT := wT_t (List.mem_append_right _ (List.mem_append_right _ (List.mem_append_left _ (List.mem_of_getElem? (i := 225) rfl)))) rfl
theorem k5t_7 : (Cond.methodLink "LayerDesk$Layer" 73 xy_Re_join) ∈ wT := wT_t (List.mem_append_right _ (List.mem_append_right _ (List.mem_append_left _ (List.mem_of_getElem? (i := 231) rfl)))) rfl
theorem k5t_8 : (Cond.instanceMethod xy_Re_join) ∈ wT := wT_t (List.mem_append_right _ (List.mem_append_right _ (List.mem_append_left _ (List.mem_of_getElem? (i := 223) rfl)))) rfl
theorem k5t_9 : (Cond.selects "LayerDesk$Reach" xy_Re_join xy_Re_join) ∈ wT := wT_t (List.mem_append_right _ (List.mem_append_right _ (List.mem_append_left _ (List.mem_of_getElem? (i := 224) rfl)))) rfl
set_option maxHeartbeats 4000000 in
set_option maxRecDepth 100000 in
theorem xc_Ly_followLX (l : Launch) (D : va_G) (kA : Nat → ClassId) (sz : Nat) (ad : Nat → Nat → Nat) (E : Nat → Nat → va_E) (RL : List (Nat × Nat)) (g : Nat → Nat → Int32) (nd : Nat) (nL : Nat) (n : Nat) (pv : Value) (lo : Int32) (mk : Nat) (fm : Nat → Option Nat) (fs : Nat → Option Nat) (ym0 : (20 + n, 0) ∈ RL) (yc0 : E (20 + n) 0 = .inr (5, [.int (nI n), pv, .ref (ad (20 + n) 1), .int lo])) (ym1 : (20 + n, 1) ∈ RL) (yc1 : E (20 + n) 1 = .inl (kA 6, mk, .inr (.inr (.inr (.inr fm))))) (ym2 : (20 + n, 2) ∈ RL) (yc2 : E (20 + n) 2 = .inl (kA 7, mk, .inr (.inr (.inr (.inr fs))))) (hDIs : DIs kA ad E RL nd) (hLIs : LIs kA ad E RL nd nL) (hnd12 : nd ≤ 12) (hnL : nL ≤ 6) (hn : n < nL) (hmk : mk ≤ 12) (hfm : ∀ k, k < mk → fm k = some (ad (20 + n) (10 + 10 * k)) ∧ MEI kA ad E RL nd n k) (hfs : ∀ k, k < mk → fs k = some (ad (20 + n) (12 + 10 * k))) (hTL : TLas g ad E nd nL) : Met l xy_Ly_follow (.code xy_Ly_follow xb_Ly_follow 4 none :: wT) { frames := 1, cells := 0, slots := 0, locals := 22 } (va_Pc [.ref (ad (20 + n) 0), .ref (ad (20 + n) 2)] (xPre D kA sz (rp ad E RL))) (va_Qv (fun (u : Nat → Nat → va_E) => RI kA (20 + n) E u ∧ (∀ k, k < mk → ∀ t, t < 72 → (BS (eA (u (20 + n) (15 + 10 * k))) t ↔ PW (fun a t => BS (eA (E (20 + n) (15 + 10 * a))) t) (fun b => 12 * n + mdv g n b) mk k t)) ∧ (∀ o8, (∀ j8, j8 < mk → ¬ o8 = 15 + 10 * j8) → u (20 + n) o8 = E (20 + n) o8)) (fun (u : Nat → Nat → va_E) t => va_P D xcl (rp ad u RL) t.heap ∧ va_D (va_A (rp ad E RL) sz) (rp ad u RL)) (va_A (rp ad E RL) sz)) 0 0 (va_A (rp ad E RL) sz) := by
  refine Met.ofW (cc := xb_Ly_follow) (maxL := 4) (ret := none) (by decide) rfl ?_
  intro p e s m args below meth c s₁ B hml hv
  obtain ⟨rfl, hsz, hP, hK, hD0⟩ := hv
  have hx := B.exec
  have hb := B.bytes
  have hr := B.returns
  have hT := x_hT B.pre
  have hown : s.vm.findClass xR_Ly = some m.cls := findClass_of_methodNamed B.named
  have hlocks := B.notSynchronized
  subst hsz
  have hD := hD0.self (sz := s.heap.size)
  generalize hAe : va_A (rp ad E RL) s.heap.size = A at hD ⊢
  have hA : ∀ q : Nat, s.heap.size ≤ q → A q := fun q h => by rw [← hAe]; exact Or.inr h
  have hS : va_S A s.heap s.heap [] := va_S.rf
  have hl := lv_entry ([.ref (ad (20 + n) 0), .ref (ad (20 + n) 2)]) (n := 4) (Nat.le_of_ble_eq_true rfl)
  rw [lg_entry_eq]
  generalize (lg_sl ([.ref (ad (20 + n) 0), .ref (ad (20 + n) 2)]) ++ List.replicate (4 - (lg_sl ([.ref (ad (20 + n) 0), .ref (ad (20 + n) 2)])).length) Slot.unset).toArray = ls at hl ⊢
  have hl : lv_has ls 4 [(0, .ref (ad (20 + n) 0)), (1, .ref (ad (20 + n) 2))] := hl
  have hP : va_P D xcl (rp ad E RL) s.heap := hP
  have hDIs0 := hDIs
  have hLIs0 := hLIs
  refine lv_iconst (v := 0) hx hb xd_Ly_follow_0 (by decide) ?_
  refine lv_istore_n hx hb xd_Ly_follow_1 rfl hl (Nat.le_of_ble_eq_true rfl) rfl (fun ls hl => ?_)
  have hl : lv_has ls 4 [(2, .int 0), (0, .ref (ad (20 + n) 0)), (1, .ref (ad (20 + n) 2))] := hl
  refine xlab (σ := Nat × (Nat → Nat → va_E)) (ml := 4) 2 (fun (via, E1) => [(2, .int (nI via)), (1, .ref (ad (20 + n) 2)), (0, .ref (ad (20 + n) 0))]) (fun (via, E1) => []) (fun (via, E1) => rp ad E1 RL) (fun (via, E1) => (via ≤ mk) ∧ (RI kA (20 + n) E E1) ∧ (∀ k, k < mk → ∀ t, t < 72 → (BS (eA (E1 (20 + n) (15 + 10 * k))) t ↔ PW (fun a t => BS (eA (E (20 + n) (15 + 10 * a))) t) (fun b => 12 * n + mdv g n b) via k t)) ∧ (∀ o8, (∀ j8, j8 < mk → ¬ o8 = 15 + 10 * j8) → E1 (20 + n) o8 = E (20 + n) o8)) (fun (via, E1) => mk - via) ?_ (0, E) _ _ _ (lv_sub hl [0, 2, 1] rfl) hP hD hS ⟨(show 0 ≤ mk from by first | assumption | omega), (show RI kA (20 + n) E E from RI.rfl'), (show ∀ k, k < mk → ∀ t, t < 72 → (BS (eA (E (20 + n) (15 + 10 * k))) t ↔ PW (fun a t => BS (eA (E (20 + n) (15 + 10 * a))) t) (fun b => 12 * n + mdv g n b) 0 k t) from fun j hj t ht => Iff.rfl), (show ∀ o8, (∀ j8, j8 < mk → ¬ o8 = 15 + 10 * j8) → E (20 + n) o8 = E (20 + n) o8 from fun o _ => rfl)⟩
  intro n9 ih1 a9 ls H locs hμ hl hP hD hS hI
  subst hμ
  obtain ⟨via, E1⟩ := a9
  obtain ⟨hi, hRI, hPW, hot⟩ := hI
  have hi : via ≤ mk := hi
  have hRI : RI kA (20 + n) E E1 := hRI
  have hPW : ∀ k, k < mk → ∀ t, t < 72 → (BS (eA (E1 (20 + n) (15 + 10 * k))) t ↔ PW (fun a t => BS (eA (E (20 + n) (15 + 10 * a))) t) (fun b => 12 * n + mdv g n b) via k t) := hPW
  have hot : ∀ o8, (∀ j8, j8 < mk → ¬ o8 = 15 + 10 * j8) → E1 (20 + n) o8 = E (20 + n) o8 := hot
  have hl : lv_has ls 4 [(2, .int (nI via)), (1, .ref (ad (20 + n) 2)), (0, .ref (ad (20 + n) 0))] := hl
  have hP : va_P D xcl (rp ad E1 RL) H := hP
  have hD : va_D A (rp ad E1 RL) := hD
  have hDIs := DIs_RU hRI.ru hnd12 hDIs0
  have hLIs := LIs_RU hRI.ru hLIs0
  have hTL1 : TLas g ad E1 nd nL := TLas_ro (fun n9 o9 hn9 ho9 => by
    by_cases q : n9 = n
    · rw [q]; exact hot o9 (fun k9 _ e9 => by rcases ho9 with z | z | ⟨z, z2⟩ <;> omega)
    · exact hRI.out (by omega)) hTL
  have hk9 : ∀ k, k < mk → fm k = some (ad (20 + n) (10 + 10 * k)) ∧ MEI kA ad E1 RL nd n k := fun k h => ⟨(hfm k h).1, MEI_RU hRI.ru (hfm k h).2⟩
  have c_2 : E1 (20 + n) 0 = .inr (5, [.int (nI n), pv, .ref (ad (20 + n) 1), .int lo]) := hRI.obj yc0
  have c_3 : E1 (20 + n) 1 = .inl (kA 6, mk, .inr (.inr (.inr (.inr fm)))) := hRI.arr yc1
  have c_4 : E1 (20 + n) 2 = .inl (kA 7, mk, .inr (.inr (.inr (.inr fs)))) := hRI.arr yc2
  refine lv_iload_n hx hb xd_Ly_follow_2 rfl (lv_at hl 0 rfl) ?_
  refine lv_aload_n hx hb xd_Ly_follow_3 rfl (lv_at hl 2 rfl) ?_
  refine px_get (D := D) (ci := 5) (v := .ref (ad (20 + n) 1)) (C := xR_Ly) (T := xT_Ly) (N := 4) hx hb hT xi_Ly hown hK.1 hP ym0 c_2 rfl 2 (by decide) (hT _ k5t_0) (fun _ h9 => h9) rfl xd_Ly_follow_4 ?_
  refine px_alen hx hb hK.1 hP ym1 c_3 6 rfl xd_Ly_follow_7 ?_
  refine W.eq (g2 := F0 m 8 ls [.int (nI mk), .int (nI via)]) rfl ?_
  refine xn_ge (a := via) (b := mk) (tgt := 58) hx hb xd_Ly_follow_8 (by decide) (by omega) (by omega) (fun hc5 => ?_) (fun hc5 => ?_)
  · exact W.vret hx hb hr (fun t ht hW => ⟨⟨E1, rfl, ⟨hRI, (by have q := hPW; rw [show via = mk by omega] at q; exact q), hot⟩, by rw [ht]; exact hP, hD⟩, hS.F ht⟩) hS.2.2 xd_Ly_follow_58
  · refine lv_iconst (v := 0) hx hb xd_Ly_follow_11 (by decide) ?_
    refine lv_istore_n hx hb xd_Ly_follow_12 rfl hl (Nat.le_of_ble_eq_true rfl) rfl (fun ls hl => ?_)
    have hl : lv_has ls 4 [(3, .int 0), (2, .int (nI via)), (1, .ref (ad (20 + n) 2)), (0, .ref (ad (20 + n) 0))] := hl
    refine xlab (σ := Nat × (Nat → Nat → va_E)) (ml := 4) 13 (fun (k, E3) => [(3, .int (nI k)), (2, .int (nI via)), (1, .ref (ad (20 + n) 2)), (0, .ref (ad (20 + n) 0))]) (fun (k, E3) => []) (fun (k, E3) => rp ad E3 RL) (fun (k, E3) => (k ≤ mk) ∧ (RI kA (20 + n) E E3) ∧ (PJ (fun a t => BS (eA (E (20 + n) (15 + 10 * a))) t) (fun b => 12 * n + mdv g n b) mk via k (fun j => eA (E3 (20 + n) (15 + 10 * j)))) ∧ (∀ o8, (∀ j8, j8 < mk → ¬ o8 = 15 + 10 * j8) → E3 (20 + n) o8 = E (20 + n) o8)) (fun (k, E3) => mk - k) ?_ (0, E1) _ _ _ (lv_sub hl [0, 1, 2, 3] rfl) hP hD hS ⟨(show 0 ≤ mk from by first | assumption | omega), (show RI kA (20 + n) E E1 from hRI), (show PJ (fun a t => BS (eA (E (20 + n) (15 + 10 * a))) t) (fun b => 12 * n + mdv g n b) mk via 0 (fun j => eA (E1 (20 + n) (15 + 10 * j))) from PJ_0 hPW), (show ∀ o8, (∀ j8, j8 < mk → ¬ o8 = 15 + 10 * j8) → E1 (20 + n) o8 = E (20 + n) o8 from hot)⟩
    intro n9 ih6 a9 ls H locs hμ hl hP hD hS hI
    subst hμ
    obtain ⟨k, E3⟩ := a9
    obtain ⟨hk0, hRI, hPJ, hot⟩ := hI
    have hk0 : k ≤ mk := hk0
    have hRI : RI kA (20 + n) E E3 := hRI
    have hPJ : PJ (fun a t => BS (eA (E (20 + n) (15 + 10 * a))) t) (fun b => 12 * n + mdv g n b) mk via k (fun j => eA (E3 (20 + n) (15 + 10 * j))) := hPJ
    have hot : ∀ o8, (∀ j8, j8 < mk → ¬ o8 = 15 + 10 * j8) → E3 (20 + n) o8 = E (20 + n) o8 := hot
    have hl : lv_has ls 4 [(3, .int (nI k)), (2, .int (nI via)), (1, .ref (ad (20 + n) 2)), (0, .ref (ad (20 + n) 0))] := hl
    have hP : va_P D xcl (rp ad E3 RL) H := hP
    have hD : va_D A (rp ad E3 RL) := hD
    have hDIs := DIs_RU hRI.ru hnd12 hDIs0
    have hLIs := LIs_RU hRI.ru hLIs0
    have hTL1 : TLas g ad E3 nd nL := TLas_ro (fun n9 o9 hn9 ho9 => by
      by_cases q : n9 = n
      · rw [q]; exact hot o9 (fun k9 _ e9 => by rcases ho9 with z | z | ⟨z, z2⟩ <;> omega)
      · exact hRI.out (by omega)) hTL
    have hk9 : ∀ k, k < mk → fm k = some (ad (20 + n) (10 + 10 * k)) ∧ MEI kA ad E3 RL nd n k := fun k h => ⟨(hfm k h).1, MEI_RU hRI.ru (hfm k h).2⟩
    have c_7 : E3 (20 + n) 0 = .inr (5, [.int (nI n), pv, .ref (ad (20 + n) 1), .int lo]) := hRI.obj yc0
    have c_8 : E3 (20 + n) 1 = .inl (kA 6, mk, .inr (.inr (.inr (.inr fm)))) := hRI.arr yc1
    have c_9 : E3 (20 + n) 2 = .inl (kA 7, mk, .inr (.inr (.inr (.inr fs)))) := hRI.arr yc2
    refine lv_iload_n hx hb xd_Ly_follow_13 rfl (lv_at hl 0 rfl) ?_
    refine lv_aload_n hx hb xd_Ly_follow_14 rfl (lv_at hl 3 rfl) ?_
    refine px_get (D := D) (ci := 5) (v := .ref (ad (20 + n) 1)) (C := xR_Ly) (T := xT_Ly) (N := 4) hx hb hT xi_Ly hown hK.1 hP ym0 c_7 rfl 2 (by decide) (hT _ k5t_0) (fun _ h9 => h9) rfl xd_Ly_follow_15 ?_
    refine px_alen hx hb hK.1 hP ym1 c_8 6 rfl xd_Ly_follow_18 ?_
    refine W.eq (g2 := F0 m 19 ls [.int (nI mk), .int (nI k)]) rfl ?_
    refine xn_ge (a := k) (b := mk) (tgt := 52) hx hb xd_Ly_follow_19 (by decide) (by omega) (by omega) (fun hc10 => ?_) (fun hc10 => ?_)
    · refine lv_iinc (k := 1) (x := (nI via)) (v := (nI (via + 1))) hx hb xd_Ly_follow_52 hl rfl (xb_inc via 1) (Nat.le_of_ble_eq_true rfl) rfl (fun ls hl => ?_)
      have hl : lv_has ls 4 [(2, .int (nI (via + 1))), (3, .int (nI k)), (1, .ref (ad (20 + n) 2)), (0, .ref (ad (20 + n) 0))] := hl
      refine lv_goto (tgt := 2) hx hb xd_Ly_follow_55 (by decide) ?_
      exact ih1 (via + 1, E3) _ _ _ (show mk - (via + 1) < mk - via by omega) (lv_sub hl [0, 2, 3] rfl) hP hD hS ⟨(show (via + 1) ≤ mk from by first | assumption | omega), (show RI kA (20 + n) E E3 from hRI), (show ∀ k, k < mk → ∀ t, t < 72 → (BS (eA (E3 (20 + n) (15 + 10 * k))) t ↔ PW (fun a t => BS (eA (E (20 + n) (15 + 10 * a))) t) (fun b => 12 * n + mdv g n b) (via + 1) k t) from PJ_e (by omega) hPJ), (show ∀ o8, (∀ j8, j8 < mk → ¬ o8 = 15 + 10 * j8) → E3 (20 + n) o8 = E (20 + n) o8 from hot)⟩
    · have hM11 := (hk9 k (by omega)).2
      obtain ⟨hm_12, d_12, rs_12, fr_12, g2_12, g3_12, g4_12, hd_12, hrs_12, q0_12, q1_12, q2_12, q3_12, q4_12, q5_12, q6_12, q7_12⟩ := id hM11
      have c_13 : E3 (20 + n) (10 + 10 * k) = .inr (6, [.ref (ad (20 + n) 0), .ref (ad (1 + d_12) 0), .ref (ad (20 + n) (11 + 10 * k)), .ref (ad (20 + n) (12 + 10 * k)), .ref (ad (20 + n) (13 + 10 * k)), .ref (ad (20 + n) (14 + 10 * k))]) := q0_12
      have m_14 : (20 + n, 10 + 10 * k) ∈ RL := hm_12 0 (by decide)
      have c_15 : E3 (20 + n) (11 + 10 * k) = .inl (kA 6, rs_12, .inr (.inr (.inr (.inr fr_12)))) := q1_12
      have m_16 : (20 + n, 11 + 10 * k) ∈ RL := hm_12 1 (by decide)
      have c_17 : E3 (20 + n) (12 + 10 * k) = .inr (10, [.ref (ad (20 + n) (15 + 10 * k))]) := q2_12
      have m_18 : (20 + n, 12 + 10 * k) ∈ RL := hm_12 2 (by decide)
      have c_19 : E3 (20 + n) (13 + 10 * k) = .inr (10, [.ref (ad (20 + n) (16 + 10 * k))]) := q3_12
      have m_20 : (20 + n, 13 + 10 * k) ∈ RL := hm_12 3 (by decide)
      have c_21 : E3 (20 + n) (14 + 10 * k) = .inr (10, [.ref (ad (20 + n) (17 + 10 * k))]) := q4_12
      have m_22 : (20 + n, 14 + 10 * k) ∈ RL := hm_12 4 (by decide)
      have c_23 : E3 (20 + n) (15 + 10 * k) = .inl (kA 0, 6, .inl g2_12) := q5_12
      have m_24 : (20 + n, 15 + 10 * k) ∈ RL := hm_12 5 (by decide)
      have c_25 : E3 (20 + n) (16 + 10 * k) = .inl (kA 0, 6, .inl g3_12) := q6_12
      have m_26 : (20 + n, 16 + 10 * k) ∈ RL := hm_12 6 (by decide)
      have c_27 : E3 (20 + n) (17 + 10 * k) = .inl (kA 0, 6, .inl g4_12) := q7_12
      have m_28 : (20 + n, 17 + 10 * k) ∈ RL := hm_12 7 (by decide)
      have hrwk : eA (E3 (20 + n) (15 + 10 * k)) = g2_12 := by rw [c_23]; rfl
      have hM29 := (hk9 via (by omega)).2
      obtain ⟨hm_30, d_30, rs_30, fr_30, g2_30, g3_30, g4_30, hd_30, hrs_30, q0_30, q1_30, q2_30, q3_30, q4_30, q5_30, q6_30, q7_30⟩ := id hM29
      have c_31 : E3 (20 + n) (10 + 10 * via) = .inr (6, [.ref (ad (20 + n) 0), .ref (ad (1 + d_30) 0), .ref (ad (20 + n) (11 + 10 * via)), .ref (ad (20 + n) (12 + 10 * via)), .ref (ad (20 + n) (13 + 10 * via)), .ref (ad (20 + n) (14 + 10 * via))]) := q0_30
      have m_32 : (20 + n, 10 + 10 * via) ∈ RL := hm_30 0 (by decide)
      have c_33 : E3 (20 + n) (11 + 10 * via) = .inl (kA 6, rs_30, .inr (.inr (.inr (.inr fr_30)))) := q1_30
      have m_34 : (20 + n, 11 + 10 * via) ∈ RL := hm_30 1 (by decide)
      have c_35 : E3 (20 + n) (12 + 10 * via) = .inr (10, [.ref (ad (20 + n) (15 + 10 * via))]) := q2_30
      have m_36 : (20 + n, 12 + 10 * via) ∈ RL := hm_30 2 (by decide)
      have c_37 : E3 (20 + n) (13 + 10 * via) = .inr (10, [.ref (ad (20 + n) (16 + 10 * via))]) := q3_30
      have m_38 : (20 + n, 13 + 10 * via) ∈ RL := hm_30 3 (by decide)
      have c_39 : E3 (20 + n) (14 + 10 * via) = .inr (10, [.ref (ad (20 + n) (17 + 10 * via))]) := q4_30
      have m_40 : (20 + n, 14 + 10 * via) ∈ RL := hm_30 4 (by decide)
      have c_41 : E3 (20 + n) (15 + 10 * via) = .inl (kA 0, 6, .inl g2_30) := q5_30
      have m_42 : (20 + n, 15 + 10 * via) ∈ RL := hm_30 5 (by decide)
      have c_43 : E3 (20 + n) (16 + 10 * via) = .inl (kA 0, 6, .inl g3_30) := q6_30
      have m_44 : (20 + n, 16 + 10 * via) ∈ RL := hm_30 6 (by decide)
      have c_45 : E3 (20 + n) (17 + 10 * via) = .inl (kA 0, 6, .inl g4_30) := q7_30
      have m_46 : (20 + n, 17 + 10 * via) ∈ RL := hm_30 7 (by decide)
      have hrwvia : eA (E3 (20 + n) (15 + 10 * via)) = g2_30 := by rw [c_41]; rfl
      have hdmv : mdv g n via = d_30 := by
        obtain ⟨_, _, h20z, hmz⟩ := hTL1 n hn
        rw [show eL (E3 (20 + n) 1) = mk from by rw [c_8]; rfl] at h20z hmz
        obtain ⟨dz, hdz, h21z, hvz⟩ := hmz via (by omega)
        rw [c_31] at hvz
        have ez := (rp_inj hD ((hDIs d_30 hd_30).1 0 (by omega)) ((hDIs dz hdz).1 0 (by omega)) (Value.ref.inj hvz)).1
        unfold mdv
        rw [h21z, iN_nI (by omega)]; omega
      refine lv_aload_n hx hb xd_Ly_follow_22 rfl (lv_at hl 2 rfl) ?_
      refine lv_iload_n hx hb xd_Ly_follow_23 rfl (lv_at hl 0 rfl) ?_
      refine px_aald (i := k) (x := (some (ad (20 + n) (12 + 10 * k)))) hx hb hK.1 hP ym2 c_9 7 rfl (hfs k (by omega)) (by omega) (by omega) xd_Ly_follow_24 ?_
      refine lv_aload_n hx hb xd_Ly_follow_25 rfl (lv_at hl 3 rfl) ?_
      refine px_get (D := D) (ci := 5) (v := .ref (ad (20 + n) 1)) (C := xR_Ly) (T := xT_Ly) (N := 4) hx hb hT xi_Ly hown hK.1 hP ym0 c_7 rfl 2 (by decide) (hT _ k5t_0) (fun _ h9 => h9) rfl xd_Ly_follow_26 ?_
      refine lv_iload_n hx hb xd_Ly_follow_29 rfl (lv_at hl 1 rfl) ?_
      refine px_aald (i := via) (x := (some (ad (20 + n) (10 + 10 * via)))) hx hb hK.1 hP ym1 c_8 6 rfl ((hk9 via (by omega)).1) (by omega) (by omega) xd_Ly_follow_30 ?_
      obtain ⟨hm_47, fd_47, nm_47, sd_47, k0_47, k1_47, k2_47, k3_47, f0_47, f1_47, f2_47, f3_47, fe_47, fo_47, tr_47, op_47, hk0_47, hk1_47, hk2_47, hk3_47, q0_47, q1_47, q2_47, q3_47, q4_47, q5_47, q6_47, q7_47, q8_47, q9_47, q10_47, q11_47, q12_47, hg_47⟩ := id (hDIs d_30 (by omega))
      have c_48 : E3 (1 + d_30) 0 = .inr (7, [.int (nI d_30), .int fd_47, .int nm_47, .ref (ad (1 + d_30) 1), .ref (ad (1 + d_30) 9), .ref (ad (1 + d_30) 10), .ref (ad (1 + d_30) 2), .ref (ad (1 + d_30) 11), .ref (ad (1 + d_30) 12), .ref (ad (1 + d_30) 3), .ref (ad (1 + d_30) 4), .int sd_47]) := q0_47
      have m_49 : (1 + d_30, 0) ∈ RL := hm_47 0 (by decide)
      have c_50 : E3 (1 + d_30) 1 = .inr (8, [.ref (ad (1 + d_30) 5), .int (nI k0_47)]) := q1_47
      have m_51 : (1 + d_30, 1) ∈ RL := hm_47 1 (by decide)
      have c_52 : E3 (1 + d_30) 2 = .inr (8, [.ref (ad (1 + d_30) 6), .int (nI k1_47)]) := q2_47
      have m_53 : (1 + d_30, 2) ∈ RL := hm_47 2 (by decide)
      have c_54 : E3 (1 + d_30) 3 = .inr (8, [.ref (ad (1 + d_30) 7), .int (nI k2_47)]) := q3_47
      have m_55 : (1 + d_30, 3) ∈ RL := hm_47 3 (by decide)
      have c_56 : E3 (1 + d_30) 4 = .inr (8, [.ref (ad (1 + d_30) 8), .int (nI k3_47)]) := q4_47
      have m_57 : (1 + d_30, 4) ∈ RL := hm_47 4 (by decide)
      have c_58 : E3 (1 + d_30) 5 = .inl (kA 0, 6, .inl f0_47) := q5_47
      have m_59 : (1 + d_30, 5) ∈ RL := hm_47 5 (by decide)
      have c_60 : E3 (1 + d_30) 6 = .inl (kA 0, 5, .inl f1_47) := q6_47
      have m_61 : (1 + d_30, 6) ∈ RL := hm_47 6 (by decide)
      have c_62 : E3 (1 + d_30) 7 = .inl (kA 0, 3, .inl f2_47) := q7_47
      have m_63 : (1 + d_30, 7) ∈ RL := hm_47 7 (by decide)
      have c_64 : E3 (1 + d_30) 8 = .inl (kA 0, 3, .inl f3_47) := q8_47
      have m_65 : (1 + d_30, 8) ∈ RL := hm_47 8 (by decide)
      have c_66 : E3 (1 + d_30) 9 = .inl (kA 8, 6, .inr (.inr (.inr (.inr fe_47)))) := q9_47
      have m_67 : (1 + d_30, 9) ∈ RL := hm_47 9 (by decide)
      have c_68 : E3 (1 + d_30) 10 = .inl (kA 8, 6, .inr (.inr (.inr (.inr fo_47)))) := q10_47
      have m_69 : (1 + d_30, 10) ∈ RL := hm_47 10 (by decide)
      have c_70 : E3 (1 + d_30) 11 = .inl (kA 2, 5, .inl tr_47) := q11_47
      have m_71 : (1 + d_30, 11) ∈ RL := hm_47 11 (by decide)
      have c_72 : E3 (1 + d_30) 12 = .inl (kA 2, 5, .inl op_47) := q12_47
      have m_73 : (1 + d_30, 12) ∈ RL := hm_47 12 (by decide)
      have hg_47 : ∀ w9, w9 < k0_47 → fe_47 w9 = some (ad (1 + d_30) (20 + 3 * w9)) ∧ fo_47 w9 = some (ad (1 + d_30) (38 + 3 * w9)) ∧ GI kA (ad (1 + d_30)) (E3 (1 + d_30)) (fun o => (1 + d_30, o) ∈ RL) (20 + 3 * w9) (21 + 3 * w9) (22 + 3 * w9) ∧ GI kA (ad (1 + d_30)) (E3 (1 + d_30)) (fun o => (1 + d_30, o) ∈ RL) (38 + 3 * w9) (39 + 3 * w9) (40 + 3 * w9) := hg_47
      have hFc := px_free hD hS hA
      refine va_calli (va_runV (As := [.ref (ad (20 + n) (10 + 10 * via))]) (rest := []) ⟨hx, hb, hml, hown, hT⟩ (xc_Re_marks l D kA H.size ad E3 RL (20 + n) (12 + 10 * k) (15 + 10 * k) g2_12 n via d_30 pv lo fd_47 nm_47 sd_47 m_18 c_17 m_24 c_23 m_32 c_31 ym0 c_7 m_49 c_48 (by first | assumption | omega)) (cwV 1 hT (wT_V k5t_2 k5t_3 k5t_4 k5t_5 k5t_1) rfl rfl rfl (by decide +kernel) ⟨Nat.le_of_ble_eq_true rfl, Nat.le_of_ble_eq_true rfl⟩) (px_preV hK hP hD m_18 c_17 rfl) rfl rfl hl.1 rfl (lv_room (Nat.le_of_ble_eq_true rfl)) xd_Ly_follow_31 ⟨(Nat.le_of_ble_eq_true rfl), (Nat.le_of_ble_eq_true rfl)⟩) hS (fun q _ h => hFc q h) hFc (fun r74 u75 t H1 locs ht hvm hp76 hB hz1 hk1 hS => ?_)
      obtain ⟨hP1, hD1⟩ := hB
      rw [ht] at hP1
      have hD1 := hD1.weaken (fun _ _ _ h => hFc _ h)
      generalize H1 = H at hP1 hS ⊢
      have hP := hP1
      have hD := hD1
      have hP : va_P D xcl (rp ad E3 RL) H := hP
      have hD : va_D A (rp ad E3 RL) := hD
      rcases hp76 with ⟨rfl, z77⟩ | ⟨rfl, z78⟩
      · have hmk9 : PW (fun a t => BS (eA (E (20 + n) (15 + 10 * a))) t) (fun b => 12 * n + mdv g n b) via k ((fun b => 12 * n + mdv g n b) via) := ((BS_marks (f := g2_12) (n := n) (d := d_30) (by omega)).trans (by rw [← hrwk, ← hdmv]; exact PJ_at hPJ (by omega) (by have q := hdmv; omega))).mp z77
        refine W.eq (g2 := F0 m 34 ls [.int 1]) rfl ?_
        refine lv_if_eq (tgt := 46) hx hb xd_Ly_follow_34 (by decide) (fun hc79 => absurd hc79 (by decide)) (fun _ => ?_)
        by_cases hkv : k = via
        · rw [hkv] at hl
          have hl : lv_has ls 4 [(3, .int (nI via)), (2, .int (nI via)), (1, .ref (ad (20 + n) 2)), (0, .ref (ad (20 + n) 0))] := hl
          refine lv_aload_n hx hb xd_Ly_follow_37 rfl (lv_at hl 2 rfl) ?_
          refine lv_iload_n hx hb xd_Ly_follow_38 rfl (lv_at hl 0 rfl) ?_
          refine px_aald (i := via) (x := (some (ad (20 + n) (12 + 10 * via)))) hx hb hK.1 hP ym2 c_9 7 rfl (hfs via (by omega)) (by omega) (by omega) xd_Ly_follow_39 ?_
          refine lv_aload_n hx hb xd_Ly_follow_40 rfl (lv_at hl 2 rfl) ?_
          refine lv_iload_n hx hb xd_Ly_follow_41 rfl (lv_at hl 1 rfl) ?_
          refine px_aald (i := via) (x := (some (ad (20 + n) (12 + 10 * via)))) hx hb hK.1 hP ym2 c_9 7 rfl (hfs via (by omega)) (by omega) (by omega) xd_Ly_follow_42 ?_
          have hFc := px_free hD hS hA
          refine va_callv (va_runV (As := [.ref (ad (20 + n) (12 + 10 * via))]) (rest := []) ⟨hx, hb, hml, hown, hT⟩ (xc_Re_joinSX l D kA H.size ad E3 RL (20 + n) (12 + 10 * via) (15 + 10 * via) g2_30 m_36 c_35 m_42 c_41 (by first | assumption | omega)) (cwV 1 hT (wT_V k5t_7 k5t_8 k5t_9 k5t_5 k5t_6) rfl rfl rfl (by decide +kernel) ⟨Nat.le_of_ble_eq_true rfl, Nat.le_of_ble_eq_true rfl⟩) (px_preV hK hP hD m_36 c_35 rfl) rfl rfl hl.1 rfl (lv_room (Nat.le_of_ble_eq_true rfl)) xd_Ly_follow_43 ⟨(Nat.le_of_ble_eq_true rfl), (Nat.le_of_ble_eq_true rfl)⟩) hS (fun q _ h => hFc q h) hFc (fun u81 t H1 locs ht hvm hp82 hB hz1 hk1 hS => ?_)
          obtain ⟨hP1, hD1⟩ := hB
          rw [ht] at hP1
          have hD1 := hD1.weaken (fun _ _ _ h => hFc _ h)
          generalize H1 = H at hP1 hS ⊢
          have hP := hP1
          have hD := hD1
          obtain ⟨E83, rfl⟩ : ∃ z, z = u81 := ⟨_, rfl⟩
          obtain ⟨w84, hp87, p_85, p_86⟩ := hp82
          have p_85 : E83 (20 + n) (15 + 10 * via) = .inl (kA 0, 6, .inl w84) := p_85
          have p_86 : (∀ b2 o2, ¬ (b2 = (20 + n) ∧ o2 = (15 + 10 * via)) → E83 b2 o2 = E3 b2 o2) := p_86
          have c_88 : E83 (20 + n) (12 + 10 * via) = .inr (10, [.ref (ad (20 + n) (15 + 10 * via))]) := (p_86 (20 + n) (12 + 10 * via) (fun q9 => nr_k q9.2 (by decide))).trans c_35
          have hP : va_P D xcl (rp ad E83 RL) H := hP
          have hD : va_D A (rp ad E83 RL) := hD
          have hPJn : PJ (fun a t => BS (eA (E (20 + n) (15 + 10 * a))) t) (fun b => 12 * n + mdv g n b) mk via (k + 1) (fun j => eA (E83 (20 + n) (15 + 10 * j))) := PJ_y (Rw := (fun j => eA (E3 (20 + n) (15 + 10 * j)))) (by omega) (by omega) hmk9 hPJ (fun j hj hne => by
            show eA (E83 (20 + n) (15 + 10 * j)) = eA (E3 (20 + n) (15 + 10 * j))
            rw [p_86 (20 + n) (15 + 10 * j) (by omega)]) (fun t ht => by
            show BS (eA (E83 (20 + n) (15 + 10 * k))) t ↔ (BS (eA (E3 (20 + n) (15 + 10 * k))) t ∨ BS (eA (E3 (20 + n) (15 + 10 * via))) t)
            rw [hkv, hrwvia, show eA (E83 (20 + n) (15 + 10 * via)) = w84 from by rw [p_85]; rfl]
            exact BS_join ht hp87)
          refine lv_iinc (k := 0) (x := (nI via)) (v := (nI (via + 1))) hx hb xd_Ly_follow_46 hl rfl (xb_inc via 1) (Nat.le_of_ble_eq_true rfl) rfl (fun ls hl => ?_)
          have hl : lv_has ls 4 [(3, .int (nI (via + 1))), (2, .int (nI via)), (1, .ref (ad (20 + n) 2)), (0, .ref (ad (20 + n) 0))] := hl
          refine lv_goto (tgt := 13) hx hb xd_Ly_follow_49 (by decide) ?_
          exact ih6 (via + 1, E83) _ _ _ (show mk - (via + 1) < mk - k by omega) (lv_sub hl [0, 1, 2, 3] rfl) hP hD hS ⟨(show (via + 1) ≤ mk from by first | assumption | omega), (show RI kA (20 + n) E E83 from RI.trans' hRI (RI.row c_41 p_85 p_86)), (show PJ (fun a t => BS (eA (E (20 + n) (15 + 10 * a))) t) (fun b => 12 * n + mdv g n b) mk via (via + 1) (fun j => eA (E83 (20 + n) (15 + 10 * j))) from (by have q := hPJn; rw [hkv] at q; exact q)), (show ∀ o8, (∀ j8, j8 < mk → ¬ o8 = 15 + 10 * j8) → E83 (20 + n) o8 = E (20 + n) o8 from fun o9 h9 => (p_86 (20 + n) o9 (by
        have q := h9 via (by omega)
        omega)).trans (hot o9 h9))⟩
        · have hkv := hkv
          refine lv_aload_n hx hb xd_Ly_follow_37 rfl (lv_at hl 2 rfl) ?_
          refine lv_iload_n hx hb xd_Ly_follow_38 rfl (lv_at hl 0 rfl) ?_
          refine px_aald (i := k) (x := (some (ad (20 + n) (12 + 10 * k)))) hx hb hK.1 hP ym2 c_9 7 rfl (hfs k (by omega)) (by omega) (by omega) xd_Ly_follow_39 ?_
          refine lv_aload_n hx hb xd_Ly_follow_40 rfl (lv_at hl 2 rfl) ?_
          refine lv_iload_n hx hb xd_Ly_follow_41 rfl (lv_at hl 1 rfl) ?_
          refine px_aald (i := via) (x := (some (ad (20 + n) (12 + 10 * via)))) hx hb hK.1 hP ym2 c_9 7 rfl (hfs via (by omega)) (by omega) (by omega) xd_Ly_follow_42 ?_
          have hFc := px_free hD hS hA
          refine va_callv (va_runV (As := [.ref (ad (20 + n) (12 + 10 * via))]) (rest := []) ⟨hx, hb, hml, hown, hT⟩ (xc_Re_joinX l D kA H.size ad E3 RL (20 + n) (12 + 10 * k) (15 + 10 * k) g2_12 (20 + n) (12 + 10 * via) (15 + 10 * via) g2_30 m_18 c_17 m_24 c_23 m_36 c_35 m_42 c_41 (by first | assumption | omega) (by first | assumption | omega)) (cwV 1 hT (wT_V k5t_7 k5t_8 k5t_9 k5t_5 k5t_6) rfl rfl rfl (by decide +kernel) ⟨Nat.le_of_ble_eq_true rfl, Nat.le_of_ble_eq_true rfl⟩) (px_preV hK hP hD m_18 c_17 rfl) rfl rfl hl.1 rfl (lv_room (Nat.le_of_ble_eq_true rfl)) xd_Ly_follow_43 ⟨(Nat.le_of_ble_eq_true rfl), (Nat.le_of_ble_eq_true rfl)⟩) hS (fun q _ h => hFc q h) hFc (fun u90 t H1 locs ht hvm hp91 hB hz1 hk1 hS => ?_)
          obtain ⟨hP1, hD1⟩ := hB
          rw [ht] at hP1
          have hD1 := hD1.weaken (fun _ _ _ h => hFc _ h)
          generalize H1 = H at hP1 hS ⊢
          have hP := hP1
          have hD := hD1
          obtain ⟨E92, rfl⟩ : ∃ z, z = u90 := ⟨_, rfl⟩
          obtain ⟨w93, hp96, p_94, p_95⟩ := hp91
          have p_94 : E92 (20 + n) (15 + 10 * k) = .inl (kA 0, 6, .inl w93) := p_94
          have p_95 : (∀ b2 o2, ¬ (b2 = (20 + n) ∧ o2 = (15 + 10 * k)) → E92 b2 o2 = E3 b2 o2) := p_95
          have c_97 : E92 (20 + n) (12 + 10 * k) = .inr (10, [.ref (ad (20 + n) (15 + 10 * k))]) := (p_95 (20 + n) (12 + 10 * k) (fun q9 => nr_k q9.2 (by decide))).trans c_17
          have c_98 : E92 (20 + n) (12 + 10 * via) = .inr (10, [.ref (ad (20 + n) (15 + 10 * via))]) := (p_95 (20 + n) (12 + 10 * via) (by omega)).trans c_35
          have c_99 : E92 (20 + n) (15 + 10 * via) = .inl (kA 0, 6, .inl g2_30) := (p_95 (20 + n) (15 + 10 * via) (by omega)).trans c_41
          have hP : va_P D xcl (rp ad E92 RL) H := hP
          have hD : va_D A (rp ad E92 RL) := hD
          have hPJn : PJ (fun a t => BS (eA (E (20 + n) (15 + 10 * a))) t) (fun b => 12 * n + mdv g n b) mk via (k + 1) (fun j => eA (E92 (20 + n) (15 + 10 * j))) := PJ_y (Rw := (fun j => eA (E3 (20 + n) (15 + 10 * j)))) (by omega) (by omega) hmk9 hPJ (fun j hj hne => by
            show eA (E92 (20 + n) (15 + 10 * j)) = eA (E3 (20 + n) (15 + 10 * j))
            rw [p_95 (20 + n) (15 + 10 * j) (by omega)]) (fun t ht => by
            show BS (eA (E92 (20 + n) (15 + 10 * k))) t ↔ (BS (eA (E3 (20 + n) (15 + 10 * k))) t ∨ BS (eA (E3 (20 + n) (15 + 10 * via))) t)
            rw [hrwk, hrwvia, show eA (E92 (20 + n) (15 + 10 * k)) = w93 from by rw [p_94]; rfl]
            exact BS_join ht hp96)
          refine lv_iinc (k := 0) (x := (nI k)) (v := (nI (k + 1))) hx hb xd_Ly_follow_46 hl rfl (xb_inc k 1) (Nat.le_of_ble_eq_true rfl) rfl (fun ls hl => ?_)
          have hl : lv_has ls 4 [(3, .int (nI (k + 1))), (2, .int (nI via)), (1, .ref (ad (20 + n) 2)), (0, .ref (ad (20 + n) 0))] := hl
          refine lv_goto (tgt := 13) hx hb xd_Ly_follow_49 (by decide) ?_
          exact ih6 (k + 1, E92) _ _ _ (show mk - (k + 1) < mk - k by omega) (lv_sub hl [0, 1, 2, 3] rfl) hP hD hS ⟨(show (k + 1) ≤ mk from by first | assumption | omega), (show RI kA (20 + n) E E92 from RI.trans' hRI (RI.row c_23 p_94 p_95)), (show PJ (fun a t => BS (eA (E (20 + n) (15 + 10 * a))) t) (fun b => 12 * n + mdv g n b) mk via (k + 1) (fun j => eA (E92 (20 + n) (15 + 10 * j))) from hPJn), (show ∀ o8, (∀ j8, j8 < mk → ¬ o8 = 15 + 10 * j8) → E92 (20 + n) o8 = E (20 + n) o8 from fun o9 h9 => (p_95 (20 + n) o9 (by
        have q := h9 k (by omega)
        omega)).trans (hot o9 h9))⟩
      · have hmk9 : ¬ PW (fun a t => BS (eA (E (20 + n) (15 + 10 * a))) t) (fun b => 12 * n + mdv g n b) via k ((fun b => 12 * n + mdv g n b) via) := fun q => absurd z78 (((BS_marks (f := g2_12) (n := n) (d := d_30) (by omega)).trans (by rw [← hrwk, ← hdmv]; exact PJ_at hPJ (by omega) (by have q := hdmv; omega))).mpr q)
        refine W.eq (g2 := F0 m 34 ls [.int 0]) rfl ?_
        refine lv_if_eq (tgt := 46) hx hb xd_Ly_follow_34 (by decide) (fun _ => ?_) (fun hc100 => absurd (by decide) hc100)
        refine lv_iinc (k := 0) (x := (nI k)) (v := (nI (k + 1))) hx hb xd_Ly_follow_46 hl rfl (xb_inc k 1) (Nat.le_of_ble_eq_true rfl) rfl (fun ls hl => ?_)
        have hl : lv_has ls 4 [(3, .int (nI (k + 1))), (2, .int (nI via)), (1, .ref (ad (20 + n) 2)), (0, .ref (ad (20 + n) 0))] := hl
        refine lv_goto (tgt := 13) hx hb xd_Ly_follow_49 (by decide) ?_
        exact ih6 (k + 1, E3) _ _ _ (show mk - (k + 1) < mk - k by omega) (lv_sub hl [0, 1, 2, 3] rfl) hP hD hS ⟨(show (k + 1) ≤ mk from by first | assumption | omega), (show RI kA (20 + n) E E3 from hRI), (show PJ (fun a t => BS (eA (E (20 + n) (15 + 10 * a))) t) (fun b => 12 * n + mdv g n b) mk via (k + 1) (fun j => eA (E3 (20 + n) (15 + 10 * j))) from PJ_n hmk9 hPJ), (show ∀ o8, (∀ j8, j8 < mk → ¬ o8 = 15 + 10 * j8) → E3 (20 + n) o8 = E (20 + n) o8 from hot)⟩
set_option maxHeartbeats 4000000 in
set_option maxRecDepth 100000 in
theorem xc_Ly_followCX (l : Launch) (D : va_G) (kA : Nat → ClassId) (sz : Nat) (ad : Nat → Nat → Nat) (E : Nat → Nat → va_E) (RL : List (Nat × Nat)) (g : Nat → Nat → Int32) (nd : Nat) (nL : Nat) (n : Nat) (pv : Value) (lo : Int32) (mk : Nat) (fm : Nat → Option Nat) (fs : Nat → Option Nat) (ym0 : (20 + n, 0) ∈ RL) (yc0 : E (20 + n) 0 = .inr (5, [.int (nI n), pv, .ref (ad (20 + n) 1), .int lo])) (ym1 : (20 + n, 1) ∈ RL) (yc1 : E (20 + n) 1 = .inl (kA 6, mk, .inr (.inr (.inr (.inr fm))))) (ym2 : (20 + n, 3) ∈ RL) (yc2 : E (20 + n) 3 = .inl (kA 7, mk, .inr (.inr (.inr (.inr fs))))) (hDIs : DIs kA ad E RL nd) (hLIs : LIs kA ad E RL nd nL) (hnd12 : nd ≤ 12) (hnL : nL ≤ 6) (hn : n < nL) (hmk : mk ≤ 12) (hfm : ∀ k, k < mk → fm k = some (ad (20 + n) (10 + 10 * k)) ∧ MEI kA ad E RL nd n k) (hfs : ∀ k, k < mk → fs k = some (ad (20 + n) (13 + 10 * k))) (hTL : TLas g ad E nd nL) : Met l xy_Ly_follow (.code xy_Ly_follow xb_Ly_follow 4 none :: wT) { frames := 1, cells := 0, slots := 0, locals := 22 } (va_Pc [.ref (ad (20 + n) 0), .ref (ad (20 + n) 3)] (xPre D kA sz (rp ad E RL))) (va_Qv (fun (u : Nat → Nat → va_E) => RI kA (20 + n) E u ∧ (∀ k, k < mk → ∀ t, t < 72 → (BS (eA (u (20 + n) (16 + 10 * k))) t ↔ PW (fun a t => BS (eA (E (20 + n) (16 + 10 * a))) t) (fun b => 12 * n + mdv g n b) mk k t)) ∧ (∀ o8, (∀ j8, j8 < mk → ¬ o8 = 16 + 10 * j8) → u (20 + n) o8 = E (20 + n) o8)) (fun (u : Nat → Nat → va_E) t => va_P D xcl (rp ad u RL) t.heap ∧ va_D (va_A (rp ad E RL) sz) (rp ad u RL)) (va_A (rp ad E RL) sz)) 0 0 (va_A (rp ad E RL) sz) := by
  refine Met.ofW (cc := xb_Ly_follow) (maxL := 4) (ret := none) (by decide) rfl ?_
  intro p e s m args below meth c s₁ B hml hv
  obtain ⟨rfl, hsz, hP, hK, hD0⟩ := hv
  have hx := B.exec
  have hb := B.bytes
  have hr := B.returns
  have hT := x_hT B.pre
  have hown : s.vm.findClass xR_Ly = some m.cls := findClass_of_methodNamed B.named
  have hlocks := B.notSynchronized
  subst hsz
  have hD := hD0.self (sz := s.heap.size)
  generalize hAe : va_A (rp ad E RL) s.heap.size = A at hD ⊢
  have hA : ∀ q : Nat, s.heap.size ≤ q → A q := fun q h => by rw [← hAe]; exact Or.inr h
  have hS : va_S A s.heap s.heap [] := va_S.rf
  have hl := lv_entry ([.ref (ad (20 + n) 0), .ref (ad (20 + n) 3)]) (n := 4) (Nat.le_of_ble_eq_true rfl)
  rw [lg_entry_eq]
  generalize (lg_sl ([.ref (ad (20 + n) 0), .ref (ad (20 + n) 3)]) ++ List.replicate (4 - (lg_sl ([.ref (ad (20 + n) 0), .ref (ad (20 + n) 3)])).length) Slot.unset).toArray = ls at hl ⊢
  have hl : lv_has ls 4 [(0, .ref (ad (20 + n) 0)), (1, .ref (ad (20 + n) 3))] := hl
  have hP : va_P D xcl (rp ad E RL) s.heap := hP
  have hDIs0 := hDIs
  have hLIs0 := hLIs
  refine lv_iconst (v := 0) hx hb xd_Ly_follow_0 (by decide) ?_
  refine lv_istore_n hx hb xd_Ly_follow_1 rfl hl (Nat.le_of_ble_eq_true rfl) rfl (fun ls hl => ?_)
  have hl : lv_has ls 4 [(2, .int 0), (0, .ref (ad (20 + n) 0)), (1, .ref (ad (20 + n) 3))] := hl
  refine xlab (σ := Nat × (Nat → Nat → va_E)) (ml := 4) 2 (fun (via, E1) => [(2, .int (nI via)), (1, .ref (ad (20 + n) 3)), (0, .ref (ad (20 + n) 0))]) (fun (via, E1) => []) (fun (via, E1) => rp ad E1 RL) (fun (via, E1) => (via ≤ mk) ∧ (RI kA (20 + n) E E1) ∧ (∀ k, k < mk → ∀ t, t < 72 → (BS (eA (E1 (20 + n) (16 + 10 * k))) t ↔ PW (fun a t => BS (eA (E (20 + n) (16 + 10 * a))) t) (fun b => 12 * n + mdv g n b) via k t)) ∧ (∀ o8, (∀ j8, j8 < mk → ¬ o8 = 16 + 10 * j8) → E1 (20 + n) o8 = E (20 + n) o8)) (fun (via, E1) => mk - via) ?_ (0, E) _ _ _ (lv_sub hl [0, 2, 1] rfl) hP hD hS ⟨(show 0 ≤ mk from by first | assumption | omega), (show RI kA (20 + n) E E from RI.rfl'), (show ∀ k, k < mk → ∀ t, t < 72 → (BS (eA (E (20 + n) (16 + 10 * k))) t ↔ PW (fun a t => BS (eA (E (20 + n) (16 + 10 * a))) t) (fun b => 12 * n + mdv g n b) 0 k t) from fun j hj t ht => Iff.rfl), (show ∀ o8, (∀ j8, j8 < mk → ¬ o8 = 16 + 10 * j8) → E (20 + n) o8 = E (20 + n) o8 from fun o _ => rfl)⟩
  intro n9 ih1 a9 ls H locs hμ hl hP hD hS hI
  subst hμ
  obtain ⟨via, E1⟩ := a9
  obtain ⟨hi, hRI, hPW, hot⟩ := hI
  have hi : via ≤ mk := hi
  have hRI : RI kA (20 + n) E E1 := hRI
  have hPW : ∀ k, k < mk → ∀ t, t < 72 → (BS (eA (E1 (20 + n) (16 + 10 * k))) t ↔ PW (fun a t => BS (eA (E (20 + n) (16 + 10 * a))) t) (fun b => 12 * n + mdv g n b) via k t) := hPW
  have hot : ∀ o8, (∀ j8, j8 < mk → ¬ o8 = 16 + 10 * j8) → E1 (20 + n) o8 = E (20 + n) o8 := hot
  have hl : lv_has ls 4 [(2, .int (nI via)), (1, .ref (ad (20 + n) 3)), (0, .ref (ad (20 + n) 0))] := hl
  have hP : va_P D xcl (rp ad E1 RL) H := hP
  have hD : va_D A (rp ad E1 RL) := hD
  have hDIs := DIs_RU hRI.ru hnd12 hDIs0
  have hLIs := LIs_RU hRI.ru hLIs0
  have hTL1 : TLas g ad E1 nd nL := TLas_ro (fun n9 o9 hn9 ho9 => by
    by_cases q : n9 = n
    · rw [q]; exact hot o9 (fun k9 _ e9 => by rcases ho9 with z | z | ⟨z, z2⟩ <;> omega)
    · exact hRI.out (by omega)) hTL
  have hk9 : ∀ k, k < mk → fm k = some (ad (20 + n) (10 + 10 * k)) ∧ MEI kA ad E1 RL nd n k := fun k h => ⟨(hfm k h).1, MEI_RU hRI.ru (hfm k h).2⟩
  have c_2 : E1 (20 + n) 0 = .inr (5, [.int (nI n), pv, .ref (ad (20 + n) 1), .int lo]) := hRI.obj yc0
  have c_3 : E1 (20 + n) 1 = .inl (kA 6, mk, .inr (.inr (.inr (.inr fm)))) := hRI.arr yc1
  have c_4 : E1 (20 + n) 3 = .inl (kA 7, mk, .inr (.inr (.inr (.inr fs)))) := hRI.arr yc2
  refine lv_iload_n hx hb xd_Ly_follow_2 rfl (lv_at hl 0 rfl) ?_
  refine lv_aload_n hx hb xd_Ly_follow_3 rfl (lv_at hl 2 rfl) ?_
  refine px_get (D := D) (ci := 5) (v := .ref (ad (20 + n) 1)) (C := xR_Ly) (T := xT_Ly) (N := 4) hx hb hT xi_Ly hown hK.1 hP ym0 c_2 rfl 2 (by decide) (hT _ k5t_0) (fun _ h9 => h9) rfl xd_Ly_follow_4 ?_
  refine px_alen hx hb hK.1 hP ym1 c_3 6 rfl xd_Ly_follow_7 ?_
  refine W.eq (g2 := F0 m 8 ls [.int (nI mk), .int (nI via)]) rfl ?_
  refine xn_ge (a := via) (b := mk) (tgt := 58) hx hb xd_Ly_follow_8 (by decide) (by omega) (by omega) (fun hc5 => ?_) (fun hc5 => ?_)
  · exact W.vret hx hb hr (fun t ht hW => ⟨⟨E1, rfl, ⟨hRI, (by have q := hPW; rw [show via = mk by omega] at q; exact q), hot⟩, by rw [ht]; exact hP, hD⟩, hS.F ht⟩) hS.2.2 xd_Ly_follow_58
  · refine lv_iconst (v := 0) hx hb xd_Ly_follow_11 (by decide) ?_
    refine lv_istore_n hx hb xd_Ly_follow_12 rfl hl (Nat.le_of_ble_eq_true rfl) rfl (fun ls hl => ?_)
    have hl : lv_has ls 4 [(3, .int 0), (2, .int (nI via)), (1, .ref (ad (20 + n) 3)), (0, .ref (ad (20 + n) 0))] := hl
    refine xlab (σ := Nat × (Nat → Nat → va_E)) (ml := 4) 13 (fun (k, E3) => [(3, .int (nI k)), (2, .int (nI via)), (1, .ref (ad (20 + n) 3)), (0, .ref (ad (20 + n) 0))]) (fun (k, E3) => []) (fun (k, E3) => rp ad E3 RL) (fun (k, E3) => (k ≤ mk) ∧ (RI kA (20 + n) E E3) ∧ (PJ (fun a t => BS (eA (E (20 + n) (16 + 10 * a))) t) (fun b => 12 * n + mdv g n b) mk via k (fun j => eA (E3 (20 + n) (16 + 10 * j)))) ∧ (∀ o8, (∀ j8, j8 < mk → ¬ o8 = 16 + 10 * j8) → E3 (20 + n) o8 = E (20 + n) o8)) (fun (k, E3) => mk - k) ?_ (0, E1) _ _ _ (lv_sub hl [0, 1, 2, 3] rfl) hP hD hS ⟨(show 0 ≤ mk from by first | assumption | omega), (show RI kA (20 + n) E E1 from hRI), (show PJ (fun a t => BS (eA (E (20 + n) (16 + 10 * a))) t) (fun b => 12 * n + mdv g n b) mk via 0 (fun j => eA (E1 (20 + n) (16 + 10 * j))) from PJ_0 hPW), (show ∀ o8, (∀ j8, j8 < mk → ¬ o8 = 16 + 10 * j8) → E1 (20 + n) o8 = E (20 + n) o8 from hot)⟩
    intro n9 ih6 a9 ls H locs hμ hl hP hD hS hI
    subst hμ
    obtain ⟨k, E3⟩ := a9
    obtain ⟨hk0, hRI, hPJ, hot⟩ := hI
    have hk0 : k ≤ mk := hk0
    have hRI : RI kA (20 + n) E E3 := hRI
    have hPJ : PJ (fun a t => BS (eA (E (20 + n) (16 + 10 * a))) t) (fun b => 12 * n + mdv g n b) mk via k (fun j => eA (E3 (20 + n) (16 + 10 * j))) := hPJ
    have hot : ∀ o8, (∀ j8, j8 < mk → ¬ o8 = 16 + 10 * j8) → E3 (20 + n) o8 = E (20 + n) o8 := hot
    have hl : lv_has ls 4 [(3, .int (nI k)), (2, .int (nI via)), (1, .ref (ad (20 + n) 3)), (0, .ref (ad (20 + n) 0))] := hl
    have hP : va_P D xcl (rp ad E3 RL) H := hP
    have hD : va_D A (rp ad E3 RL) := hD
    have hDIs := DIs_RU hRI.ru hnd12 hDIs0
    have hLIs := LIs_RU hRI.ru hLIs0
    have hTL1 : TLas g ad E3 nd nL := TLas_ro (fun n9 o9 hn9 ho9 => by
      by_cases q : n9 = n
      · rw [q]; exact hot o9 (fun k9 _ e9 => by rcases ho9 with z | z | ⟨z, z2⟩ <;> omega)
      · exact hRI.out (by omega)) hTL
    have hk9 : ∀ k, k < mk → fm k = some (ad (20 + n) (10 + 10 * k)) ∧ MEI kA ad E3 RL nd n k := fun k h => ⟨(hfm k h).1, MEI_RU hRI.ru (hfm k h).2⟩
    have c_7 : E3 (20 + n) 0 = .inr (5, [.int (nI n), pv, .ref (ad (20 + n) 1), .int lo]) := hRI.obj yc0
    have c_8 : E3 (20 + n) 1 = .inl (kA 6, mk, .inr (.inr (.inr (.inr fm)))) := hRI.arr yc1
    have c_9 : E3 (20 + n) 3 = .inl (kA 7, mk, .inr (.inr (.inr (.inr fs)))) := hRI.arr yc2
    refine lv_iload_n hx hb xd_Ly_follow_13 rfl (lv_at hl 0 rfl) ?_
    refine lv_aload_n hx hb xd_Ly_follow_14 rfl (lv_at hl 3 rfl) ?_
    refine px_get (D := D) (ci := 5) (v := .ref (ad (20 + n) 1)) (C := xR_Ly) (T := xT_Ly) (N := 4) hx hb hT xi_Ly hown hK.1 hP ym0 c_7 rfl 2 (by decide) (hT _ k5t_0) (fun _ h9 => h9) rfl xd_Ly_follow_15 ?_
    refine px_alen hx hb hK.1 hP ym1 c_8 6 rfl xd_Ly_follow_18 ?_
    refine W.eq (g2 := F0 m 19 ls [.int (nI mk), .int (nI k)]) rfl ?_
    refine xn_ge (a := k) (b := mk) (tgt := 52) hx hb xd_Ly_follow_19 (by decide) (by omega) (by omega) (fun hc10 => ?_) (fun hc10 => ?_)
    · refine lv_iinc (k := 1) (x := (nI via)) (v := (nI (via + 1))) hx hb xd_Ly_follow_52 hl rfl (xb_inc via 1) (Nat.le_of_ble_eq_true rfl) rfl (fun ls hl => ?_)
      have hl : lv_has ls 4 [(2, .int (nI (via + 1))), (3, .int (nI k)), (1, .ref (ad (20 + n) 3)), (0, .ref (ad (20 + n) 0))] := hl
      refine lv_goto (tgt := 2) hx hb xd_Ly_follow_55 (by decide) ?_
      exact ih1 (via + 1, E3) _ _ _ (show mk - (via + 1) < mk - via by omega) (lv_sub hl [0, 2, 3] rfl) hP hD hS ⟨(show (via + 1) ≤ mk from by first | assumption | omega), (show RI kA (20 + n) E E3 from hRI), (show ∀ k, k < mk → ∀ t, t < 72 → (BS (eA (E3 (20 + n) (16 + 10 * k))) t ↔ PW (fun a t => BS (eA (E (20 + n) (16 + 10 * a))) t) (fun b => 12 * n + mdv g n b) (via + 1) k t) from PJ_e (by omega) hPJ), (show ∀ o8, (∀ j8, j8 < mk → ¬ o8 = 16 + 10 * j8) → E3 (20 + n) o8 = E (20 + n) o8 from hot)⟩
    · have hM11 := (hk9 k (by omega)).2
      obtain ⟨hm_12, d_12, rs_12, fr_12, g2_12, g3_12, g4_12, hd_12, hrs_12, q0_12, q1_12, q2_12, q3_12, q4_12, q5_12, q6_12, q7_12⟩ := id hM11
      have c_13 : E3 (20 + n) (10 + 10 * k) = .inr (6, [.ref (ad (20 + n) 0), .ref (ad (1 + d_12) 0), .ref (ad (20 + n) (11 + 10 * k)), .ref (ad (20 + n) (12 + 10 * k)), .ref (ad (20 + n) (13 + 10 * k)), .ref (ad (20 + n) (14 + 10 * k))]) := q0_12
      have m_14 : (20 + n, 10 + 10 * k) ∈ RL := hm_12 0 (by decide)
      have c_15 : E3 (20 + n) (11 + 10 * k) = .inl (kA 6, rs_12, .inr (.inr (.inr (.inr fr_12)))) := q1_12
      have m_16 : (20 + n, 11 + 10 * k) ∈ RL := hm_12 1 (by decide)
      have c_17 : E3 (20 + n) (12 + 10 * k) = .inr (10, [.ref (ad (20 + n) (15 + 10 * k))]) := q2_12
      have m_18 : (20 + n, 12 + 10 * k) ∈ RL := hm_12 2 (by decide)
      have c_19 : E3 (20 + n) (13 + 10 * k) = .inr (10, [.ref (ad (20 + n) (16 + 10 * k))]) := q3_12
      have m_20 : (20 + n, 13 + 10 * k) ∈ RL := hm_12 3 (by decide)
      have c_21 : E3 (20 + n) (14 + 10 * k) = .inr (10, [.ref (ad (20 + n) (17 + 10 * k))]) := q4_12
      have m_22 : (20 + n, 14 + 10 * k) ∈ RL := hm_12 4 (by decide)
      have c_23 : E3 (20 + n) (15 + 10 * k) = .inl (kA 0, 6, .inl g2_12) := q5_12
      have m_24 : (20 + n, 15 + 10 * k) ∈ RL := hm_12 5 (by decide)
      have c_25 : E3 (20 + n) (16 + 10 * k) = .inl (kA 0, 6, .inl g3_12) := q6_12
      have m_26 : (20 + n, 16 + 10 * k) ∈ RL := hm_12 6 (by decide)
      have c_27 : E3 (20 + n) (17 + 10 * k) = .inl (kA 0, 6, .inl g4_12) := q7_12
      have m_28 : (20 + n, 17 + 10 * k) ∈ RL := hm_12 7 (by decide)
      have hrwk : eA (E3 (20 + n) (16 + 10 * k)) = g3_12 := by rw [c_25]; rfl
      have hM29 := (hk9 via (by omega)).2
      obtain ⟨hm_30, d_30, rs_30, fr_30, g2_30, g3_30, g4_30, hd_30, hrs_30, q0_30, q1_30, q2_30, q3_30, q4_30, q5_30, q6_30, q7_30⟩ := id hM29
      have c_31 : E3 (20 + n) (10 + 10 * via) = .inr (6, [.ref (ad (20 + n) 0), .ref (ad (1 + d_30) 0), .ref (ad (20 + n) (11 + 10 * via)), .ref (ad (20 + n) (12 + 10 * via)), .ref (ad (20 + n) (13 + 10 * via)), .ref (ad (20 + n) (14 + 10 * via))]) := q0_30
      have m_32 : (20 + n, 10 + 10 * via) ∈ RL := hm_30 0 (by decide)
      have c_33 : E3 (20 + n) (11 + 10 * via) = .inl (kA 6, rs_30, .inr (.inr (.inr (.inr fr_30)))) := q1_30
      have m_34 : (20 + n, 11 + 10 * via) ∈ RL := hm_30 1 (by decide)
      have c_35 : E3 (20 + n) (12 + 10 * via) = .inr (10, [.ref (ad (20 + n) (15 + 10 * via))]) := q2_30
      have m_36 : (20 + n, 12 + 10 * via) ∈ RL := hm_30 2 (by decide)
      have c_37 : E3 (20 + n) (13 + 10 * via) = .inr (10, [.ref (ad (20 + n) (16 + 10 * via))]) := q3_30
      have m_38 : (20 + n, 13 + 10 * via) ∈ RL := hm_30 3 (by decide)
      have c_39 : E3 (20 + n) (14 + 10 * via) = .inr (10, [.ref (ad (20 + n) (17 + 10 * via))]) := q4_30
      have m_40 : (20 + n, 14 + 10 * via) ∈ RL := hm_30 4 (by decide)
      have c_41 : E3 (20 + n) (15 + 10 * via) = .inl (kA 0, 6, .inl g2_30) := q5_30
      have m_42 : (20 + n, 15 + 10 * via) ∈ RL := hm_30 5 (by decide)
      have c_43 : E3 (20 + n) (16 + 10 * via) = .inl (kA 0, 6, .inl g3_30) := q6_30
      have m_44 : (20 + n, 16 + 10 * via) ∈ RL := hm_30 6 (by decide)
      have c_45 : E3 (20 + n) (17 + 10 * via) = .inl (kA 0, 6, .inl g4_30) := q7_30
      have m_46 : (20 + n, 17 + 10 * via) ∈ RL := hm_30 7 (by decide)
      have hrwvia : eA (E3 (20 + n) (16 + 10 * via)) = g3_30 := by rw [c_43]; rfl
      have hdmv : mdv g n via = d_30 := by
        obtain ⟨_, _, h20z, hmz⟩ := hTL1 n hn
        rw [show eL (E3 (20 + n) 1) = mk from by rw [c_8]; rfl] at h20z hmz
        obtain ⟨dz, hdz, h21z, hvz⟩ := hmz via (by omega)
        rw [c_31] at hvz
        have ez := (rp_inj hD ((hDIs d_30 hd_30).1 0 (by omega)) ((hDIs dz hdz).1 0 (by omega)) (Value.ref.inj hvz)).1
        unfold mdv
        rw [h21z, iN_nI (by omega)]; omega
      refine lv_aload_n hx hb xd_Ly_follow_22 rfl (lv_at hl 2 rfl) ?_
      refine lv_iload_n hx hb xd_Ly_follow_23 rfl (lv_at hl 0 rfl) ?_
      refine px_aald (i := k) (x := (some (ad (20 + n) (13 + 10 * k)))) hx hb hK.1 hP ym2 c_9 7 rfl (hfs k (by omega)) (by omega) (by omega) xd_Ly_follow_24 ?_
      refine lv_aload_n hx hb xd_Ly_follow_25 rfl (lv_at hl 3 rfl) ?_
      refine px_get (D := D) (ci := 5) (v := .ref (ad (20 + n) 1)) (C := xR_Ly) (T := xT_Ly) (N := 4) hx hb hT xi_Ly hown hK.1 hP ym0 c_7 rfl 2 (by decide) (hT _ k5t_0) (fun _ h9 => h9) rfl xd_Ly_follow_26 ?_
      refine lv_iload_n hx hb xd_Ly_follow_29 rfl (lv_at hl 1 rfl) ?_
      refine px_aald (i := via) (x := (some (ad (20 + n) (10 + 10 * via)))) hx hb hK.1 hP ym1 c_8 6 rfl ((hk9 via (by omega)).1) (by omega) (by omega) xd_Ly_follow_30 ?_
      obtain ⟨hm_47, fd_47, nm_47, sd_47, k0_47, k1_47, k2_47, k3_47, f0_47, f1_47, f2_47, f3_47, fe_47, fo_47, tr_47, op_47, hk0_47, hk1_47, hk2_47, hk3_47, q0_47, q1_47, q2_47, q3_47, q4_47, q5_47, q6_47, q7_47, q8_47, q9_47, q10_47, q11_47, q12_47, hg_47⟩ := id (hDIs d_30 (by omega))
      have c_48 : E3 (1 + d_30) 0 = .inr (7, [.int (nI d_30), .int fd_47, .int nm_47, .ref (ad (1 + d_30) 1), .ref (ad (1 + d_30) 9), .ref (ad (1 + d_30) 10), .ref (ad (1 + d_30) 2), .ref (ad (1 + d_30) 11), .ref (ad (1 + d_30) 12), .ref (ad (1 + d_30) 3), .ref (ad (1 + d_30) 4), .int sd_47]) := q0_47
      have m_49 : (1 + d_30, 0) ∈ RL := hm_47 0 (by decide)
      have c_50 : E3 (1 + d_30) 1 = .inr (8, [.ref (ad (1 + d_30) 5), .int (nI k0_47)]) := q1_47
      have m_51 : (1 + d_30, 1) ∈ RL := hm_47 1 (by decide)
      have c_52 : E3 (1 + d_30) 2 = .inr (8, [.ref (ad (1 + d_30) 6), .int (nI k1_47)]) := q2_47
      have m_53 : (1 + d_30, 2) ∈ RL := hm_47 2 (by decide)
      have c_54 : E3 (1 + d_30) 3 = .inr (8, [.ref (ad (1 + d_30) 7), .int (nI k2_47)]) := q3_47
      have m_55 : (1 + d_30, 3) ∈ RL := hm_47 3 (by decide)
      have c_56 : E3 (1 + d_30) 4 = .inr (8, [.ref (ad (1 + d_30) 8), .int (nI k3_47)]) := q4_47
      have m_57 : (1 + d_30, 4) ∈ RL := hm_47 4 (by decide)
      have c_58 : E3 (1 + d_30) 5 = .inl (kA 0, 6, .inl f0_47) := q5_47
      have m_59 : (1 + d_30, 5) ∈ RL := hm_47 5 (by decide)
      have c_60 : E3 (1 + d_30) 6 = .inl (kA 0, 5, .inl f1_47) := q6_47
      have m_61 : (1 + d_30, 6) ∈ RL := hm_47 6 (by decide)
      have c_62 : E3 (1 + d_30) 7 = .inl (kA 0, 3, .inl f2_47) := q7_47
      have m_63 : (1 + d_30, 7) ∈ RL := hm_47 7 (by decide)
      have c_64 : E3 (1 + d_30) 8 = .inl (kA 0, 3, .inl f3_47) := q8_47
      have m_65 : (1 + d_30, 8) ∈ RL := hm_47 8 (by decide)
      have c_66 : E3 (1 + d_30) 9 = .inl (kA 8, 6, .inr (.inr (.inr (.inr fe_47)))) := q9_47
      have m_67 : (1 + d_30, 9) ∈ RL := hm_47 9 (by decide)
      have c_68 : E3 (1 + d_30) 10 = .inl (kA 8, 6, .inr (.inr (.inr (.inr fo_47)))) := q10_47
      have m_69 : (1 + d_30, 10) ∈ RL := hm_47 10 (by decide)
      have c_70 : E3 (1 + d_30) 11 = .inl (kA 2, 5, .inl tr_47) := q11_47
      have m_71 : (1 + d_30, 11) ∈ RL := hm_47 11 (by decide)
      have c_72 : E3 (1 + d_30) 12 = .inl (kA 2, 5, .inl op_47) := q12_47
      have m_73 : (1 + d_30, 12) ∈ RL := hm_47 12 (by decide)
      have hg_47 : ∀ w9, w9 < k0_47 → fe_47 w9 = some (ad (1 + d_30) (20 + 3 * w9)) ∧ fo_47 w9 = some (ad (1 + d_30) (38 + 3 * w9)) ∧ GI kA (ad (1 + d_30)) (E3 (1 + d_30)) (fun o => (1 + d_30, o) ∈ RL) (20 + 3 * w9) (21 + 3 * w9) (22 + 3 * w9) ∧ GI kA (ad (1 + d_30)) (E3 (1 + d_30)) (fun o => (1 + d_30, o) ∈ RL) (38 + 3 * w9) (39 + 3 * w9) (40 + 3 * w9) := hg_47
      have hFc := px_free hD hS hA
      refine va_calli (va_runV (As := [.ref (ad (20 + n) (10 + 10 * via))]) (rest := []) ⟨hx, hb, hml, hown, hT⟩ (xc_Re_marks l D kA H.size ad E3 RL (20 + n) (13 + 10 * k) (16 + 10 * k) g3_12 n via d_30 pv lo fd_47 nm_47 sd_47 m_20 c_19 m_26 c_25 m_32 c_31 ym0 c_7 m_49 c_48 (by first | assumption | omega)) (cwV 1 hT (wT_V k5t_2 k5t_3 k5t_4 k5t_5 k5t_1) rfl rfl rfl (by decide +kernel) ⟨Nat.le_of_ble_eq_true rfl, Nat.le_of_ble_eq_true rfl⟩) (px_preV hK hP hD m_20 c_19 rfl) rfl rfl hl.1 rfl (lv_room (Nat.le_of_ble_eq_true rfl)) xd_Ly_follow_31 ⟨(Nat.le_of_ble_eq_true rfl), (Nat.le_of_ble_eq_true rfl)⟩) hS (fun q _ h => hFc q h) hFc (fun r74 u75 t H1 locs ht hvm hp76 hB hz1 hk1 hS => ?_)
      obtain ⟨hP1, hD1⟩ := hB
      rw [ht] at hP1
      have hD1 := hD1.weaken (fun _ _ _ h => hFc _ h)
      generalize H1 = H at hP1 hS ⊢
      have hP := hP1
      have hD := hD1
      have hP : va_P D xcl (rp ad E3 RL) H := hP
      have hD : va_D A (rp ad E3 RL) := hD
      rcases hp76 with ⟨rfl, z77⟩ | ⟨rfl, z78⟩
      · have hmk9 : PW (fun a t => BS (eA (E (20 + n) (16 + 10 * a))) t) (fun b => 12 * n + mdv g n b) via k ((fun b => 12 * n + mdv g n b) via) := ((BS_marks (f := g3_12) (n := n) (d := d_30) (by omega)).trans (by rw [← hrwk, ← hdmv]; exact PJ_at hPJ (by omega) (by have q := hdmv; omega))).mp z77
        refine W.eq (g2 := F0 m 34 ls [.int 1]) rfl ?_
        refine lv_if_eq (tgt := 46) hx hb xd_Ly_follow_34 (by decide) (fun hc79 => absurd hc79 (by decide)) (fun _ => ?_)
        by_cases hkv : k = via
        · rw [hkv] at hl
          have hl : lv_has ls 4 [(3, .int (nI via)), (2, .int (nI via)), (1, .ref (ad (20 + n) 3)), (0, .ref (ad (20 + n) 0))] := hl
          refine lv_aload_n hx hb xd_Ly_follow_37 rfl (lv_at hl 2 rfl) ?_
          refine lv_iload_n hx hb xd_Ly_follow_38 rfl (lv_at hl 0 rfl) ?_
          refine px_aald (i := via) (x := (some (ad (20 + n) (13 + 10 * via)))) hx hb hK.1 hP ym2 c_9 7 rfl (hfs via (by omega)) (by omega) (by omega) xd_Ly_follow_39 ?_
          refine lv_aload_n hx hb xd_Ly_follow_40 rfl (lv_at hl 2 rfl) ?_
          refine lv_iload_n hx hb xd_Ly_follow_41 rfl (lv_at hl 1 rfl) ?_
          refine px_aald (i := via) (x := (some (ad (20 + n) (13 + 10 * via)))) hx hb hK.1 hP ym2 c_9 7 rfl (hfs via (by omega)) (by omega) (by omega) xd_Ly_follow_42 ?_
          have hFc := px_free hD hS hA
          refine va_callv (va_runV (As := [.ref (ad (20 + n) (13 + 10 * via))]) (rest := []) ⟨hx, hb, hml, hown, hT⟩ (xc_Re_joinSX l D kA H.size ad E3 RL (20 + n) (13 + 10 * via) (16 + 10 * via) g3_30 m_38 c_37 m_44 c_43 (by first | assumption | omega)) (cwV 1 hT (wT_V k5t_7 k5t_8 k5t_9 k5t_5 k5t_6) rfl rfl rfl (by decide +kernel) ⟨Nat.le_of_ble_eq_true rfl, Nat.le_of_ble_eq_true rfl⟩) (px_preV hK hP hD m_38 c_37 rfl) rfl rfl hl.1 rfl (lv_room (Nat.le_of_ble_eq_true rfl)) xd_Ly_follow_43 ⟨(Nat.le_of_ble_eq_true rfl), (Nat.le_of_ble_eq_true rfl)⟩) hS (fun q _ h => hFc q h) hFc (fun u81 t H1 locs ht hvm hp82 hB hz1 hk1 hS => ?_)
          obtain ⟨hP1, hD1⟩ := hB
          rw [ht] at hP1
          have hD1 := hD1.weaken (fun _ _ _ h => hFc _ h)
          generalize H1 = H at hP1 hS ⊢
          have hP := hP1
          have hD := hD1
          obtain ⟨E83, rfl⟩ : ∃ z, z = u81 := ⟨_, rfl⟩
          obtain ⟨w84, hp87, p_85, p_86⟩ := hp82
          have p_85 : E83 (20 + n) (16 + 10 * via) = .inl (kA 0, 6, .inl w84) := p_85
          have p_86 : (∀ b2 o2, ¬ (b2 = (20 + n) ∧ o2 = (16 + 10 * via)) → E83 b2 o2 = E3 b2 o2) := p_86
          have c_88 : E83 (20 + n) (13 + 10 * via) = .inr (10, [.ref (ad (20 + n) (16 + 10 * via))]) := (p_86 (20 + n) (13 + 10 * via) (fun q9 => nr_k q9.2 (by decide))).trans c_37
          have hP : va_P D xcl (rp ad E83 RL) H := hP
          have hD : va_D A (rp ad E83 RL) := hD
          have hPJn : PJ (fun a t => BS (eA (E (20 + n) (16 + 10 * a))) t) (fun b => 12 * n + mdv g n b) mk via (k + 1) (fun j => eA (E83 (20 + n) (16 + 10 * j))) := PJ_y (Rw := (fun j => eA (E3 (20 + n) (16 + 10 * j)))) (by omega) (by omega) hmk9 hPJ (fun j hj hne => by
            show eA (E83 (20 + n) (16 + 10 * j)) = eA (E3 (20 + n) (16 + 10 * j))
            rw [p_86 (20 + n) (16 + 10 * j) (by omega)]) (fun t ht => by
            show BS (eA (E83 (20 + n) (16 + 10 * k))) t ↔ (BS (eA (E3 (20 + n) (16 + 10 * k))) t ∨ BS (eA (E3 (20 + n) (16 + 10 * via))) t)
            rw [hkv, hrwvia, show eA (E83 (20 + n) (16 + 10 * via)) = w84 from by rw [p_85]; rfl]
            exact BS_join ht hp87)
          refine lv_iinc (k := 0) (x := (nI via)) (v := (nI (via + 1))) hx hb xd_Ly_follow_46 hl rfl (xb_inc via 1) (Nat.le_of_ble_eq_true rfl) rfl (fun ls hl => ?_)
          have hl : lv_has ls 4 [(3, .int (nI (via + 1))), (2, .int (nI via)), (1, .ref (ad (20 + n) 3)), (0, .ref (ad (20 + n) 0))] := hl
          refine lv_goto (tgt := 13) hx hb xd_Ly_follow_49 (by decide) ?_
          exact ih6 (via + 1, E83) _ _ _ (show mk - (via + 1) < mk - k by omega) (lv_sub hl [0, 1, 2, 3] rfl) hP hD hS ⟨(show (via + 1) ≤ mk from by first | assumption | omega), (show RI kA (20 + n) E E83 from RI.trans' hRI (RI.row c_43 p_85 p_86)), (show PJ (fun a t => BS (eA (E (20 + n) (16 + 10 * a))) t) (fun b => 12 * n + mdv g n b) mk via (via + 1) (fun j => eA (E83 (20 + n) (16 + 10 * j))) from (by have q := hPJn; rw [hkv] at q; exact q)), (show ∀ o8, (∀ j8, j8 < mk → ¬ o8 = 16 + 10 * j8) → E83 (20 + n) o8 = E (20 + n) o8 from fun o9 h9 => (p_86 (20 + n) o9 (by
        have q := h9 via (by omega)
        omega)).trans (hot o9 h9))⟩
        · have hkv := hkv
          refine lv_aload_n hx hb xd_Ly_follow_37 rfl (lv_at hl 2 rfl) ?_
          refine lv_iload_n hx hb xd_Ly_follow_38 rfl (lv_at hl 0 rfl) ?_
          refine px_aald (i := k) (x := (some (ad (20 + n) (13 + 10 * k)))) hx hb hK.1 hP ym2 c_9 7 rfl (hfs k (by omega)) (by omega) (by omega) xd_Ly_follow_39 ?_
          refine lv_aload_n hx hb xd_Ly_follow_40 rfl (lv_at hl 2 rfl) ?_
          refine lv_iload_n hx hb xd_Ly_follow_41 rfl (lv_at hl 1 rfl) ?_
          refine px_aald (i := via) (x := (some (ad (20 + n) (13 + 10 * via)))) hx hb hK.1 hP ym2 c_9 7 rfl (hfs via (by omega)) (by omega) (by omega) xd_Ly_follow_42 ?_
          have hFc := px_free hD hS hA
          refine va_callv (va_runV (As := [.ref (ad (20 + n) (13 + 10 * via))]) (rest := []) ⟨hx, hb, hml, hown, hT⟩ (xc_Re_joinX l D kA H.size ad E3 RL (20 + n) (13 + 10 * k) (16 + 10 * k) g3_12 (20 + n) (13 + 10 * via) (16 + 10 * via) g3_30 m_20 c_19 m_26 c_25 m_38 c_37 m_44 c_43 (by first | assumption | omega) (by first | assumption | omega)) (cwV 1 hT (wT_V k5t_7 k5t_8 k5t_9 k5t_5 k5t_6) rfl rfl rfl (by decide +kernel) ⟨Nat.le_of_ble_eq_true rfl, Nat.le_of_ble_eq_true rfl⟩) (px_preV hK hP hD m_20 c_19 rfl) rfl rfl hl.1 rfl (lv_room (Nat.le_of_ble_eq_true rfl)) xd_Ly_follow_43 ⟨(Nat.le_of_ble_eq_true rfl), (Nat.le_of_ble_eq_true rfl)⟩) hS (fun q _ h => hFc q h) hFc (fun u90 t H1 locs ht hvm hp91 hB hz1 hk1 hS => ?_)
          obtain ⟨hP1, hD1⟩ := hB
          rw [ht] at hP1
          have hD1 := hD1.weaken (fun _ _ _ h => hFc _ h)
          generalize H1 = H at hP1 hS ⊢
          have hP := hP1
          have hD := hD1
          obtain ⟨E92, rfl⟩ : ∃ z, z = u90 := ⟨_, rfl⟩
          obtain ⟨w93, hp96, p_94, p_95⟩ := hp91
          have p_94 : E92 (20 + n) (16 + 10 * k) = .inl (kA 0, 6, .inl w93) := p_94
          have p_95 : (∀ b2 o2, ¬ (b2 = (20 + n) ∧ o2 = (16 + 10 * k)) → E92 b2 o2 = E3 b2 o2) := p_95
          have c_97 : E92 (20 + n) (13 + 10 * k) = .inr (10, [.ref (ad (20 + n) (16 + 10 * k))]) := (p_95 (20 + n) (13 + 10 * k) (fun q9 => nr_k q9.2 (by decide))).trans c_19
          have c_98 : E92 (20 + n) (13 + 10 * via) = .inr (10, [.ref (ad (20 + n) (16 + 10 * via))]) := (p_95 (20 + n) (13 + 10 * via) (by omega)).trans c_37
          have c_99 : E92 (20 + n) (16 + 10 * via) = .inl (kA 0, 6, .inl g3_30) := (p_95 (20 + n) (16 + 10 * via) (by omega)).trans c_43
          have hP : va_P D xcl (rp ad E92 RL) H := hP
          have hD : va_D A (rp ad E92 RL) := hD
          have hPJn : PJ (fun a t => BS (eA (E (20 + n) (16 + 10 * a))) t) (fun b => 12 * n + mdv g n b) mk via (k + 1) (fun j => eA (E92 (20 + n) (16 + 10 * j))) := PJ_y (Rw := (fun j => eA (E3 (20 + n) (16 + 10 * j)))) (by omega) (by omega) hmk9 hPJ (fun j hj hne => by
            show eA (E92 (20 + n) (16 + 10 * j)) = eA (E3 (20 + n) (16 + 10 * j))
            rw [p_95 (20 + n) (16 + 10 * j) (by omega)]) (fun t ht => by
            show BS (eA (E92 (20 + n) (16 + 10 * k))) t ↔ (BS (eA (E3 (20 + n) (16 + 10 * k))) t ∨ BS (eA (E3 (20 + n) (16 + 10 * via))) t)
            rw [hrwk, hrwvia, show eA (E92 (20 + n) (16 + 10 * k)) = w93 from by rw [p_94]; rfl]
            exact BS_join ht hp96)
          refine lv_iinc (k := 0) (x := (nI k)) (v := (nI (k + 1))) hx hb xd_Ly_follow_46 hl rfl (xb_inc k 1) (Nat.le_of_ble_eq_true rfl) rfl (fun ls hl => ?_)
          have hl : lv_has ls 4 [(3, .int (nI (k + 1))), (2, .int (nI via)), (1, .ref (ad (20 + n) 3)), (0, .ref (ad (20 + n) 0))] := hl
          refine lv_goto (tgt := 13) hx hb xd_Ly_follow_49 (by decide) ?_
          exact ih6 (k + 1, E92) _ _ _ (show mk - (k + 1) < mk - k by omega) (lv_sub hl [0, 1, 2, 3] rfl) hP hD hS ⟨(show (k + 1) ≤ mk from by first | assumption | omega), (show RI kA (20 + n) E E92 from RI.trans' hRI (RI.row c_25 p_94 p_95)), (show PJ (fun a t => BS (eA (E (20 + n) (16 + 10 * a))) t) (fun b => 12 * n + mdv g n b) mk via (k + 1) (fun j => eA (E92 (20 + n) (16 + 10 * j))) from hPJn), (show ∀ o8, (∀ j8, j8 < mk → ¬ o8 = 16 + 10 * j8) → E92 (20 + n) o8 = E (20 + n) o8 from fun o9 h9 => (p_95 (20 + n) o9 (by
        have q := h9 k (by omega)
        omega)).trans (hot o9 h9))⟩
      · have hmk9 : ¬ PW (fun a t => BS (eA (E (20 + n) (16 + 10 * a))) t) (fun b => 12 * n + mdv g n b) via k ((fun b => 12 * n + mdv g n b) via) := fun q => absurd z78 (((BS_marks (f := g3_12) (n := n) (d := d_30) (by omega)).trans (by rw [← hrwk, ← hdmv]; exact PJ_at hPJ (by omega) (by have q := hdmv; omega))).mpr q)
        refine W.eq (g2 := F0 m 34 ls [.int 0]) rfl ?_
        refine lv_if_eq (tgt := 46) hx hb xd_Ly_follow_34 (by decide) (fun _ => ?_) (fun hc100 => absurd (by decide) hc100)
        refine lv_iinc (k := 0) (x := (nI k)) (v := (nI (k + 1))) hx hb xd_Ly_follow_46 hl rfl (xb_inc k 1) (Nat.le_of_ble_eq_true rfl) rfl (fun ls hl => ?_)
        have hl : lv_has ls 4 [(3, .int (nI (k + 1))), (2, .int (nI via)), (1, .ref (ad (20 + n) 3)), (0, .ref (ad (20 + n) 0))] := hl
        refine lv_goto (tgt := 13) hx hb xd_Ly_follow_49 (by decide) ?_
        exact ih6 (k + 1, E3) _ _ _ (show mk - (k + 1) < mk - k by omega) (lv_sub hl [0, 1, 2, 3] rfl) hP hD hS ⟨(show (k + 1) ≤ mk from by first | assumption | omega), (show RI kA (20 + n) E E3 from hRI), (show PJ (fun a t => BS (eA (E (20 + n) (16 + 10 * a))) t) (fun b => 12 * n + mdv g n b) mk via (k + 1) (fun j => eA (E3 (20 + n) (16 + 10 * j))) from PJ_n hmk9 hPJ), (show ∀ o8, (∀ j8, j8 < mk → ¬ o8 = 16 + 10 * j8) → E3 (20 + n) o8 = E (20 + n) o8 from hot)⟩
def RDp (g : gT) (n d k t : Nat) : Prop := ∃ i, i < k ∧ ∃ la e, lkG g (n + 1) (g 13 (5 * d + i)) = some (la, e) ∧ (t = 12 * la + e ∨ tc (pst g) (12 * la + e) t)
theorem RDp_0 {g : gT} {n d t : Nat} : ¬ RDp g n d 0 t := fun ⟨j, h, _⟩ => by omega
theorem RDp_y {g : gT} {n d i t la e : Nat} (hl : lkG g (n + 1) (g 13 (5 * d + i)) = some (la, e)) : RDp g n d (i + 1) t ↔ (RDp g n d i t ∨ (t = 12 * la + e ∨ tc (pst g) (12 * la + e) t)) := by
  constructor
  · intro ⟨j, h1, la2, e2, h3, h4⟩
    rcases Nat.lt_or_ge j i with q | q
    · exact Or.inl ⟨j, q, la2, e2, h3, h4⟩
    · rw [show j = i by omega, hl] at h3
      have q1 := congrArg Prod.fst (Option.some.inj h3)
      have q2 := congrArg Prod.snd (Option.some.inj h3)
      simp only at q1 q2
      subst q1
      subst q2
      exact Or.inr h4
  · rintro (⟨j, h1, h2⟩ | q)
    · exact ⟨j, by omega, h2⟩
    · exact ⟨i, by omega, la, e, hl, q⟩
theorem RDp_n {g : gT} {n d i t : Nat} (h : lkG g (n + 1) (g 13 (5 * d + i)) = none) : RDp g n d (i + 1) t ↔ RDp g n d i t := by
  constructor
  · intro ⟨j, h1, la2, e2, h3, h4⟩
    rcases Nat.lt_or_ge j i with q | q
    · exact ⟨j, q, la2, e2, h3, h4⟩
    · rw [show j = i by omega] at h3
      rw [h] at h3; cases h3
  · intro ⟨j, h1, h2⟩
    exact ⟨j, by omega, h2⟩
theorem RDp_rd {g : gT} {n d t : Nat} : RDp g n d (iN (g 12 d)) t ↔ rdP g n d t := by
  constructor
  · intro ⟨i, h1, la, e, h2, h3⟩
    have hr : rd0 g n d (5 * d + iN (g 12 d)) (12 * la + e) := ⟨5 * d + i, by omega, by omega, la, e, h2, rfl⟩
    rcases h3 with q | q
    · rw [q]; exact Or.inl hr
    · exact Or.inr ⟨_, hr, q⟩
  · rintro (⟨i, h0, h1, la, e, h2, h3⟩ | ⟨c, ⟨i, h0, h1, la, e, h2, h3⟩, h4⟩)
    · refine ⟨i - 5 * d, by omega, la, e, ?_, Or.inl h3⟩
      rw [show 5 * d + (i - 5 * d) = i by omega]; exact h2
    · refine ⟨i - 5 * d, by omega, la, e, ?_, Or.inr (by rw [← h3]; exact h4)⟩
      rw [show 5 * d + (i - 5 * d) = i by omega]; exact h2
def LKH (g : gT) (n : Nat) : Prop := (∀ x, x < n + 1 → prv g x ≤ x) ∧ ∀ la, la < n + 1 → ∀ k, k < mcv g la → mdv g la k < 12
theorem LKH_T {g : gT} {ad : Nat → Nat → Nat} {E : Nat → Nat → va_E} {nd nL n : Nat} (hL : nL ≤ 6) (hnd : nd ≤ 12) (hm : ∀ la, la < nL → eL (E (20 + la) 1) ≤ 12) (hn : n < nL) (h : TLas g ad E nd nL) : LKH g n := by
  refine ⟨fun x hx => prv_T hL h x (by omega), fun la hl k hk => ?_⟩
  obtain ⟨_, _, h3, h4⟩ := h la (by omega)
  unfold mcv at hk
  rw [h3, iN_nI (by have q := hm la (by omega); omega)] at hk
  obtain ⟨d, q1, q2, _⟩ := h4 k hk
  unfold mdv
  rw [q2, iN_nI (by omega)]; omega
theorem lkG_ltP {g : gT} {n lq la b : Nat} {nm : Int32} (hk : LKH g n) (hl : lq ≤ n + 1) (h : lkG g lq nm = some (la, b)) : la < lq ∧ b < 12 ∧ ∃ k, k < mcv g la ∧ mdv g la k = b := by
  obtain ⟨q1, k, q2, q3, _⟩ := lkf_lt lq lq (fun x hx => hk.1 x (by omega)) h
  exact ⟨q1, by rw [← q3]; exact hk.2 la (by omega) k q2, k, q2, q3⟩
theorem tc_last {R : Nat → Nat → Prop} {a b : Nat} (h : tc R a b) : R a b ∨ ∃ x, tc R a x ∧ R x b := by
  obtain ⟨k, hk⟩ := h
  cases k with
  | zero => exact Or.inl hk
  | succ j => obtain ⟨c, h1, h2⟩ := hk; exact Or.inr ⟨c, ⟨j, h1⟩, h2⟩
theorem PW_congr {F F2 : Nat → Nat → Prop} {nf : Nat → Nat} {mk : Nat} (hn : ∀ a, a < mk → nf a < 72) (h : ∀ a, a < mk → ∀ t, t < 72 → (F a t ↔ F2 a t)) : ∀ v, v ≤ mk → ∀ a, a < mk → ∀ t, t < 72 → (PW F nf v a t ↔ PW F2 nf v a t)
  | 0, _, a, ha, t, ht => h a ha t ht
  | v + 1, hv, a, ha, t, ht => by
    have i1 := PW_congr hn h v (by omega) a ha t ht
    have i2 := PW_congr hn h v (by omega) a ha (nf v) (hn v (by omega))
    have i3 := PW_congr hn h v (by omega) v (by omega) t ht
    constructor
    · rintro (q | ⟨q1, q2⟩)
      · exact Or.inl (i1.mp q)
      · exact Or.inr ⟨i2.mp q1, i3.mp q2⟩
    · rintro (q | ⟨q1, q2⟩)
      · exact Or.inl (i1.mpr q)
      · exact Or.inr ⟨i2.mpr q1, i3.mpr q2⟩
def LSr (g : gT) (n a t : Nat) : Prop := LSp g n (mdv g n a) (iN (g 12 (mdv g n a))) t
def CSr (g : gT) (n a t : Nat) : Prop := CSp g n (mdv g n a) (iN (g 12 (mdv g n a))) t
theorem LS_tc {g : gT} {n mk a e : Nat} (hk : LKH g n) (hm : mcv g n = mk) (ha : a < mk) (he : e < 12) : tc (RN (LSr g n) (fun b => 12 * n + mdv g n b) mk) (12 * n + mdv g n a) (12 * n + e) ↔ tc (stp g n) (mdv g n a) e := by
  have hst : ∀ b t, b < mk → LSr g n b t → ∀ e2, e2 < 12 → t = 12 * n + e2 → stp g n (mdv g n b) e2 := fun b t hb ⟨i, h1, h2, la, e3, h3, h4⟩ e2 he2 ht => by
    obtain ⟨_, q2, _⟩ := lkG_ltP hk (Nat.le_refl _) h3
    have ela : la = n := by omega
    have ee : e3 = e2 := by omega
    rw [ela, ee] at h3
    exact ⟨5 * mdv g n b + i, by omega, by omega, h2, h3⟩
  constructor
  · intro h
    refine tc_min (S := fun t => ∀ e2, e2 < 12 → t = 12 * n + e2 → tc (stp g n) (mdv g n a) e2) ?_ ?_ h e he rfl
    · intro t ⟨b, hb, hx, hF⟩ e2 he2 ht
      have hx : 12 * n + mdv g n a = 12 * n + mdv g n b := hx
      rw [show mdv g n a = mdv g n b by omega]
      exact tc_1 (hst b t hb hF e2 he2 ht)
    · intro x t hS ⟨b, hb, hx, hF⟩ e2 he2 ht
      exact tc_s (hS (mdv g n b) (hk.2 n (by omega) b (by omega)) hx) (hst b t hb hF e2 he2 ht)
  · intro h
    have hR : ∀ b c, b < mk → stp g n (mdv g n b) c → RN (LSr g n) (fun b => 12 * n + mdv g n b) mk (12 * n + mdv g n b) (12 * n + c) := fun b c hb ⟨i, h1, h2, h3, h4⟩ => ⟨b, hb, rfl, i - 5 * mdv g n b, by omega, by rw [show 5 * mdv g n b + (i - 5 * mdv g n b) = i by omega]; exact h3, n, c, by rw [show 5 * mdv g n b + (i - 5 * mdv g n b) = i by omega]; exact h4, rfl⟩
    have hMB : ∀ b c, stp g n b c → ∃ k, k < mk ∧ mdv g n k = c := fun b c ⟨i, _, _, _, h4⟩ => by
      obtain ⟨_, _, k, q1, q2⟩ := lkG_ltP hk (Nat.le_refl _) h4
      exact ⟨k, by omega, q2⟩
    refine (tc_min (S := fun x => tc (RN (LSr g n) (fun b => 12 * n + mdv g n b) mk) (12 * n + mdv g n a) (12 * n + x) ∧ ∃ k, k < mk ∧ mdv g n k = x) ?_ ?_ h).1
    · intro c hs
      exact ⟨tc_1 (hR a c ha hs), hMB _ c hs⟩
    · intro b c ⟨h1, k, hk9, hb⟩ hs
      subst hb
      exact ⟨tc_s h1 (hR k c hk9 hs), hMB _ c hs⟩
theorem pst_at {g : gT} {n d t : Nat} (hd : d < 12) : pst g (12 * n + d) t ↔ ∃ i, i < iN (g 12 d) ∧ ¬ g 16 (5 * d + i) = 0 ∧ ∃ la e, lkG g (n + 1) (g 13 (5 * d + i)) = some (la, e) ∧ t = 12 * la + e := by
  unfold pst
  rw [show (12 * n + d) % 12 = d by omega, show (12 * n + d) / 12 = n by omega]
  constructor
  · intro ⟨i, h1, h2, h3, la, e, h4, h5⟩
    exact ⟨i - 5 * d, by omega, by rw [show 5 * d + (i - 5 * d) = i by omega]; exact h3, la, e, by rw [show 5 * d + (i - 5 * d) = i by omega]; exact h4, h5⟩
  · intro ⟨i, h1, h3, la, e, h4, h5⟩
    exact ⟨5 * d + i, by omega, by omega, h3, la, e, h4, h5⟩
theorem CS_tc {g : gT} {n mk a t : Nat} (hk : LKH g n) (hm : mcv g n = mk) (ha : a < mk) : tc (RN (CSr g n) (fun b => 12 * n + mdv g n b) mk) (12 * n + mdv g n a) t ↔ tc (pst g) (12 * n + mdv g n a) t := by
  have hR : ∀ x t, RN (CSr g n) (fun b => 12 * n + mdv g n b) mk x t → tc (pst g) x t := fun x t ⟨b, hb, hx, i, h1, h2, la, e, h3, h4⟩ => by
    have hx : x = 12 * n + mdv g n b := hx
    have hp : pst g x (12 * la + e) := by rw [hx]; exact (pst_at (hk.2 n (by omega) b (by omega))).mpr ⟨i, h1, h2, la, e, h3, rfl⟩
    rcases h4 with q | ⟨_, q⟩
    · rw [q]; exact tc_1 hp
    · exact tc_tr (tc_1 hp) q
  constructor
  · intro h
    exact tc_min (S := fun x => tc (pst g) (12 * n + mdv g n a) x) (fun b hb => hR _ b hb) (fun b c h1 h2 => tc_tr h1 (hR b c h2)) h
  · intro h
    have hM : ∀ b c, b < mk → pst g (12 * n + mdv g n b) c → RN (CSr g n) (fun b => 12 * n + mdv g n b) mk (12 * n + mdv g n b) c := fun b c hb hp => by
      obtain ⟨i, h1, h2, la, e, h3, h4⟩ := (pst_at (hk.2 n (by omega) b (by omega))).mp hp
      exact ⟨b, hb, rfl, i, h1, h2, la, e, h3, Or.inl h4⟩
    have hL : ∀ b c, b < 12 * (n + 1) → pst g b c → c / 12 < b / 12 + 1 ∧ (c / 12 = n → ∃ k, k < mk ∧ c = 12 * n + mdv g n k) := fun b c hb hp => by
      obtain ⟨i, _, _, _, la, e, h4, h5⟩ := hp
      obtain ⟨q1, q2, k, q3, q4⟩ := lkG_ltP hk (by omega) h4
      refine ⟨by omega, fun hc => ⟨k, ?_, ?_⟩⟩
      · have : la = n := by omega
        rw [this] at q3; omega
      · have : la = n := by omega
        rw [this] at q4; omega
    have hlast : ∀ x b c, RN (CSr g n) (fun b => 12 * n + mdv g n b) mk x b → ¬ b / 12 = n → pst g b c → RN (CSr g n) (fun b => 12 * n + mdv g n b) mk x c := fun x b c ⟨y, hy, hx, i, h1, h2, la, e, h3, h4⟩ hbn hp => by
      refine ⟨y, hy, hx, i, h1, h2, la, e, h3, Or.inr ?_⟩
      obtain ⟨_, q2, _⟩ := lkG_ltP hk (Nat.le_refl _) h3
      rcases h4 with q | ⟨q, q9⟩
      · refine ⟨by omega, tc_1 ?_⟩
        rw [← q]; exact hp
      · exact ⟨q, tc_s q9 hp⟩
    refine (tc_min (S := fun x => tc (RN (CSr g n) (fun b => 12 * n + mdv g n b) mk) (12 * n + mdv g n a) x ∧ x < 12 * (n + 1) ∧ (x / 12 = n → ∃ k, k < mk ∧ x = 12 * n + mdv g n k)) ?_ ?_ h).1
    · intro c hp
      have q0 := hk.2 n (by omega) a (by omega)
      obtain ⟨q1, q2⟩ := hL _ c (by omega) hp
      exact ⟨tc_1 (hM a c ha hp), by omega, q2⟩
    · intro b c ⟨h1, h2, h3⟩ hp
      obtain ⟨q1, q2⟩ := hL b c h2 hp
      refine ⟨?_, by omega, q2⟩
      by_cases hbn : b / 12 = n
      · obtain ⟨k, hk9, hb⟩ := h3 hbn
        subst hb
        exact tc_s h1 (hM k c hk9 hp)
      · rcases tc_last h1 with q | ⟨x, q3, q4⟩
        · exact tc_1 (hlast _ b c q hbn hp)
        · exact tc_s q3 (hlast x b c q4 hbn hp)
theorem k5u_0 : (Cond.fieldLink "LayerDesk$Member" 44 "LayerDesk$Member" "required" "[LLayerDesk$Member;") ∈ wT := wT_t (List.mem_append_right _ (List.mem_append_right _ (List.mem_append_left _ (List.mem_of_getElem? (i := 186) rfl)))) rfl
theorem k5u_1 : (Cond.fieldLink "LayerDesk$Member" 21 "LayerDesk$Member" "reading" "LLayerDesk$Reach;") ∈ wT := wT_t (List.mem_append_right _ (List.mem_append_right _ (List.mem_append_left _ (List.mem_of_getElem? (i := 191) rfl)))) rfl
theorem k5u_2 : (Cond.code xy_Re_unmark xb_Re_unmark 2 none) ∈ wT := wT_t (List.mem_append_right _ (List.mem_append_right _ (List.mem_append_left _ (List.mem_of_getElem? (i := 239) rfl)))) rfl
theorem k5u_3 : (Cond.methodLink "LayerDesk$Member" 72 xy_Re_unmark) ∈ wT := wT_t (List.mem_append_right _ (List.mem_append_right _ (List.mem_append_left _ (List.mem_of_getElem? (i := 236) rfl)))) rfl
theorem k5u_4 : (Cond.instanceMethod xy_Re_unmark) ∈ wT := wT_t (List.mem_append_right _ (List.mem_append_right _ (List.mem_append_left _ (List.mem_of_getElem? (i := 237) rfl)))) rfl
theorem k5u_5 : (Cond.selects "LayerDesk$Reach" xy_Re_unmark xy_Re_unmark) ∈ wT := wT_t (List.mem_append_right _ (List.mem_append_right _ (List.mem_append_left _ (List.mem_of_getElem? (i := 238) rfl)))) rfl
theorem k5u_6 : (Cond.initialized "LayerDesk$Reach") ∈ wT := wT_t (List.mem_append_left _ (List.mem_of_getElem? (i := 21) rfl)) rfl
theorem k5u_7 : (Cond.code xy_Re_mark xb_Re_mark 2 none) ∈ wT := wT_t (List.mem_append_right _ (List.mem_append_right _ (List.mem_append_left _ (List.mem_of_getElem? (i := 221) rfl)))) rfl
theorem k5u_8 : (Cond.methodLink "LayerDesk$Member" 61 xy_Re_mark) ∈ wT := wT_t (List.mem_append_right _ (List.mem_append_right _ (List.mem_append_left _ (List.mem_of_getElem? (i := 218) rfl)))) rfl
theorem k5u_9 : (Cond.instanceMethod xy_Re_mark) ∈ wT := wT_t (List.mem_append_right _ (List.mem_append_right _ (List.mem_append_left _ (List.mem_of_getElem? (i := 219) rfl)))) rfl
theorem k5u_10 : (Cond.selects "LayerDesk$Reach" xy_Re_mark xy_Re_mark) ∈ wT := wT_t (List.mem_append_right _ (List.mem_append_right _ (List.mem_append_left _ (List.mem_of_getElem? (i := 220) rfl)))) rfl
theorem k5u_11 : (Cond.fieldLink "LayerDesk$Member" 18 "LayerDesk$Member" "carried" "LLayerDesk$Reach;") ∈ wT := wT_t (List.mem_append_right _ (List.mem_append_right _ (List.mem_append_left _ (List.mem_of_getElem? (i := 189) rfl)))) rfl
theorem k5u_12 : (Cond.code xy_Re_join xb_Re_join 3 none) ∈ wT := wT_t (List.mem_append_right _ (List.mem_append_right _ (List.mem_append_left _ (List.mem_of_getElem? (i := 225) rfl)))) rfl
theorem k5u_13 : (Cond.methodLink "LayerDesk$Member" 68 xy_Re_join) ∈ wT := wT_t (List.mem_append_right _ (List.mem_append_right _ (List.mem_append_left _ (List.mem_of_getElem? (i := 222) rfl)))) rfl
theorem k5u_14 : (Cond.instanceMethod xy_Re_join) ∈ wT := wT_t (List.mem_append_right _ (List.mem_append_right _ (List.mem_append_left _ (List.mem_of_getElem? (i := 223) rfl)))) rfl
theorem k5u_15 : (Cond.selects "LayerDesk$Reach" xy_Re_join xy_Re_join) ∈ wT := wT_t (List.mem_append_right _ (List.mem_append_right _ (List.mem_append_left _ (List.mem_of_getElem? (i := 224) rfl)))) rfl
set_option maxHeartbeats 4000000 in
set_option maxRecDepth 100000 in
theorem xc_Me_settleReadingX (l : Launch) (D : va_G) (kA : Nat → ClassId) (sz : Nat) (ad : Nat → Nat → Nat) (E : Nat → Nat → va_E) (RL : List (Nat × Nat)) (g : Nat → Nat → Int32) (nd : Nat) (nL : Nat) (n : Nat) (k : Nat) (d : Nat) (rs : Nat) (fr : Nat → Option Nat) (gc : Nat → Int32) (gb : Nat → Int32) (ym0 : (20 + n, 10 + 10 * k) ∈ RL) (yc0 : E (20 + n) (10 + 10 * k) = .inr (6, [.ref (ad (20 + n) 0), .ref (ad (1 + d) 0), .ref (ad (20 + n) (11 + 10 * k)), .ref (ad (20 + n) (12 + 10 * k)), .ref (ad (20 + n) (13 + 10 * k)), .ref (ad (20 + n) (14 + 10 * k))])) (ym1 : (20 + n, 11 + 10 * k) ∈ RL) (yc1 : E (20 + n) (11 + 10 * k) = .inl (kA 6, rs, .inr (.inr (.inr (.inr fr))))) (ym2 : (20 + n, 13 + 10 * k) ∈ RL) (yc2 : E (20 + n) (13 + 10 * k) = .inr (10, [.ref (ad (20 + n) (16 + 10 * k))])) (ym3 : (20 + n, 14 + 10 * k) ∈ RL) (yc3 : E (20 + n) (14 + 10 * k) = .inr (10, [.ref (ad (20 + n) (17 + 10 * k))])) (ym4 : (20 + n, 17 + 10 * k) ∈ RL) (yc4 : E (20 + n) (17 + 10 * k) = .inl (kA 0, 6, .inl gc)) (ym5 : (20 + n, 16 + 10 * k) ∈ RL) (yc5 : E (20 + n) (16 + 10 * k) = .inl (kA 0, 6, .inl gb)) (hDIs : DIs kA ad E RL nd) (hLIs : LIs kA ad E RL nd nL) (hnd12 : nd ≤ 12) (hnL : nL ≤ 6) (hn : n < nL) (hd : d < nd) (hrs : rs ≤ 5) (hRQ : RQX g kA ad E RL nd n d rs fr) (hTD : TDs g E nd) (hTL : TLas g ad E nd nL) (hdk : mdv g n k = d) (hCB : CBs g E (n + 1)) (hkm : k < iN (g 20 n)) : Met l xy_Me_settleReading (.code xy_Me_settleReading xb_Me_settleReading 2 none :: wT) { frames := 1, cells := 0, slots := 0, locals := 22 } (va_Pc [.ref (ad (20 + n) (10 + 10 * k))] (xPre D kA sz (rp ad E RL))) (va_Qv (fun (u : Nat → Nat → va_E) => ∃ gc2 : Nat → Int32, (∀ t, t < 72 → (BS gc2 t ↔ ((BS gc t ∨ RDp g n d rs t) ∧ t ≠ 12 * n + d))) ∧ (u (20 + n) (17 + 10 * k) = .inl (kA 0, 6, .inl gc2)) ∧ ((∀ b2 o2, ¬ (b2 = 20 + n ∧ o2 = 17 + 10 * k) → u b2 o2 = E b2 o2))) (fun (u : Nat → Nat → va_E) t => va_P D xcl (rp ad u RL) t.heap ∧ va_D (va_A (rp ad E RL) sz) (rp ad u RL)) (va_A (rp ad E RL) sz)) 0 0 (va_A (rp ad E RL) sz) := by
  refine Met.ofW (cc := xb_Me_settleReading) (maxL := 2) (ret := none) (by decide) rfl ?_
  intro p e s m args below meth c s₁ B hml hv
  obtain ⟨rfl, hsz, hP, hK, hD0⟩ := hv
  have hx := B.exec
  have hb := B.bytes
  have hr := B.returns
  have hT := x_hT B.pre
  have hown : s.vm.findClass xR_Me = some m.cls := findClass_of_methodNamed B.named
  have hlocks := B.notSynchronized
  subst hsz
  have hD := hD0.self (sz := s.heap.size)
  generalize hAe : va_A (rp ad E RL) s.heap.size = A at hD ⊢
  have hA : ∀ q : Nat, s.heap.size ≤ q → A q := fun q h => by rw [← hAe]; exact Or.inr h
  have hS : va_S A s.heap s.heap [] := va_S.rf
  have hl := lv_entry ([.ref (ad (20 + n) (10 + 10 * k))]) (n := 2) (Nat.le_of_ble_eq_true rfl)
  rw [lg_entry_eq]
  generalize (lg_sl ([.ref (ad (20 + n) (10 + 10 * k))]) ++ List.replicate (2 - (lg_sl ([.ref (ad (20 + n) (10 + 10 * k))])).length) Slot.unset).toArray = ls at hl ⊢
  have hl : lv_has ls 2 [(0, .ref (ad (20 + n) (10 + 10 * k)))] := hl
  have hP : va_P D xcl (rp ad E RL) s.heap := hP
  have hDIs0 := hDIs
  have hLIs0 := hLIs
  refine lv_iconst (v := 0) hx hb xd_Me_settleReading_0 (by decide) ?_
  refine lv_istore_n hx hb xd_Me_settleReading_1 rfl hl (Nat.le_of_ble_eq_true rfl) rfl (fun ls hl => ?_)
  have hl : lv_has ls 2 [(1, .int 0), (0, .ref (ad (20 + n) (10 + 10 * k)))] := hl
  refine xlab (σ := Nat × (Nat → Nat → va_E) × (Nat → Int32)) (ml := 2) 2 (fun (i, E1, gc1) => [(1, .int (nI i)), (0, .ref (ad (20 + n) (10 + 10 * k)))]) (fun (i, E1, gc1) => []) (fun (i, E1, gc1) => rp ad E1 RL) (fun (i, E1, gc1) => (i ≤ rs) ∧ (E1 (20 + n) (17 + 10 * k) = .inl (kA 0, 6, .inl gc1)) ∧ (∀ b2 o2, ¬ (b2 = 20 + n ∧ o2 = 17 + 10 * k) → E1 b2 o2 = E b2 o2) ∧ (∀ t, t < 72 → (BS gc1 t ↔ (BS gc t ∨ RDp g n d i t)))) (fun (i, E1, gc1) => rs - i) ?_ (0, E, gc) _ _ _ (lv_sub hl [0, 1] rfl) hP hD hS ⟨(show 0 ≤ rs from by first | assumption | omega), (show E (20 + n) (17 + 10 * k) = .inl (kA 0, 6, .inl gc) from yc4), (show ∀ b2 o2, ¬ (b2 = 20 + n ∧ o2 = 17 + 10 * k) → E b2 o2 = E b2 o2 from fun b2 o2 h09 => rfl), (show ∀ t, t < 72 → (BS gc t ↔ (BS gc t ∨ RDp g n d 0 t)) from fun t _ => ⟨Or.inl, fun q => q.elim id (fun z => absurd z RDp_0)⟩)⟩
  intro n9 ih1 a9 ls H locs hμ hl hP hD hS hI
  subst hμ
  obtain ⟨i, E1, gc1⟩ := a9
  obtain ⟨hi, hcA7, hfr, hR9⟩ := hI
  have hi : i ≤ rs := hi
  have hcA7 : E1 (20 + n) (17 + 10 * k) = .inl (kA 0, 6, .inl gc1) := hcA7
  have hfr : ∀ b2 o2, ¬ (b2 = 20 + n ∧ o2 = 17 + 10 * k) → E1 b2 o2 = E b2 o2 := hfr
  have hR9 : ∀ t, t < 72 → (BS gc1 t ↔ (BS gc t ∨ RDp g n d i t)) := hR9
  have hl : lv_has ls 2 [(1, .int (nI i)), (0, .ref (ad (20 + n) (10 + 10 * k)))] := hl
  have hP : va_P D xcl (rp ad E1 RL) H := hP
  have hD : va_D A (rp ad E1 RL) := hD
  have hTD1 : TDs g E1 nd := TDs_same (fun d9 hd9 => fun2 fun o9 => hfr (1 + d9) o9 (by omega)) hTD
  have hTL1 : TLas g ad E1 nd nL := TLas_ro (fun n9 o9 hn9 ho9 => hfr (20 + n9) o9 (by omega)) hTL
  have hRU : RU kA E E1 := (RI.row yc4 hcA7 hfr).ru
  have hDIs := DIs_RU hRU hnd12 hDIs0
  have hLIs := LIs_RU hRU hLIs0
  have c_2 : E1 (20 + n) (10 + 10 * k) = .inr (6, [.ref (ad (20 + n) 0), .ref (ad (1 + d) 0), .ref (ad (20 + n) (11 + 10 * k)), .ref (ad (20 + n) (12 + 10 * k)), .ref (ad (20 + n) (13 + 10 * k)), .ref (ad (20 + n) (14 + 10 * k))]) := (hfr (20 + n) (10 + 10 * k) (by omega)).trans yc0
  have c_3 : E1 (20 + n) (11 + 10 * k) = .inl (kA 6, rs, .inr (.inr (.inr (.inr fr)))) := (hfr (20 + n) (11 + 10 * k) (by omega)).trans yc1
  have c_4 : E1 (20 + n) (13 + 10 * k) = .inr (10, [.ref (ad (20 + n) (16 + 10 * k))]) := (hfr (20 + n) (13 + 10 * k) (by omega)).trans yc2
  have c_5 : E1 (20 + n) (14 + 10 * k) = .inr (10, [.ref (ad (20 + n) (17 + 10 * k))]) := (hfr (20 + n) (14 + 10 * k) (by omega)).trans yc3
  have c_6 : E1 (20 + n) (16 + 10 * k) = .inl (kA 0, 6, .inl gb) := (hfr (20 + n) (16 + 10 * k) (by omega)).trans yc5
  refine lv_iload_n hx hb xd_Me_settleReading_2 rfl (lv_at hl 0 rfl) ?_
  refine lv_aload_n hx hb xd_Me_settleReading_3 rfl (lv_at hl 1 rfl) ?_
  refine px_get (D := D) (ci := 6) (v := .ref (ad (20 + n) (11 + 10 * k))) (C := xR_Me) (T := xT_Me) (N := 6) hx hb hT xi_Me hown hK.1 hP ym0 c_2 rfl 2 (by decide) (hT _ k5u_0) (fun _ h9 => h9) rfl xd_Me_settleReading_4 ?_
  refine px_alen hx hb hK.1 hP ym1 c_3 6 rfl xd_Me_settleReading_7 ?_
  refine W.eq (g2 := F0 m 8 ls [.int (nI rs), .int (nI i)]) rfl ?_
  refine xn_ge (a := i) (b := rs) (tgt := 55) hx hb xd_Me_settleReading_8 (by decide) (by omega) (by omega) (fun hc7 => ?_) (fun hc7 => ?_)
  · obtain ⟨m0_8, m1_8, pv_8, op_8, mk_8, fm_8, hmk_8, hpv_8, q0_8, q1_8, hk_8⟩ := id (hLIs n (by omega))
    have c_9 : E1 (20 + n) 0 = .inr (5, [.int (nI n), pv_8, .ref (ad (20 + n) 1), .int op_8]) := q0_8
    have m_10 : (20 + n, 0) ∈ RL := m0_8
    have c_11 : E1 (20 + n) 1 = .inl (kA 6, mk_8, .inr (.inr (.inr (.inr fm_8)))) := q1_8
    have m_12 : (20 + n, 1) ∈ RL := m1_8
    obtain ⟨top_8, ⟨lq_8, hlq_8, h19_8, hpv2_8⟩, h20_8, tmd_8⟩ := TLa_get c_9 c_11 (hTL1 n (by omega))
    have c_13 : E1 (20 + n) 0 = .inr (5, [.int (nI n), (lyv ad lq_8), .ref (ad (20 + n) 1), .int op_8]) := by rw [← hpv2_8]; exact c_9
    have i20_8 : iN (g 20 n) = mk_8 := by rw [h20_8, iN_nI (by omega)]
    obtain ⟨hm_14, fd_14, nm_14, sd_14, k0_14, k1_14, k2_14, k3_14, f0_14, f1_14, f2_14, f3_14, fe_14, fo_14, tr_14, op_14, hk0_14, hk1_14, hk2_14, hk3_14, q0_14, q1_14, q2_14, q3_14, q4_14, q5_14, q6_14, q7_14, q8_14, q9_14, q10_14, q11_14, q12_14, hg_14⟩ := id (hDIs d (by omega))
    have c_15 : E1 (1 + d) 0 = .inr (7, [.int (nI d), .int fd_14, .int nm_14, .ref (ad (1 + d) 1), .ref (ad (1 + d) 9), .ref (ad (1 + d) 10), .ref (ad (1 + d) 2), .ref (ad (1 + d) 11), .ref (ad (1 + d) 12), .ref (ad (1 + d) 3), .ref (ad (1 + d) 4), .int sd_14]) := q0_14
    have m_16 : (1 + d, 0) ∈ RL := hm_14 0 (by decide)
    have c_17 : E1 (1 + d) 1 = .inr (8, [.ref (ad (1 + d) 5), .int (nI k0_14)]) := q1_14
    have m_18 : (1 + d, 1) ∈ RL := hm_14 1 (by decide)
    have c_19 : E1 (1 + d) 2 = .inr (8, [.ref (ad (1 + d) 6), .int (nI k1_14)]) := q2_14
    have m_20 : (1 + d, 2) ∈ RL := hm_14 2 (by decide)
    have c_21 : E1 (1 + d) 3 = .inr (8, [.ref (ad (1 + d) 7), .int (nI k2_14)]) := q3_14
    have m_22 : (1 + d, 3) ∈ RL := hm_14 3 (by decide)
    have c_23 : E1 (1 + d) 4 = .inr (8, [.ref (ad (1 + d) 8), .int (nI k3_14)]) := q4_14
    have m_24 : (1 + d, 4) ∈ RL := hm_14 4 (by decide)
    have c_25 : E1 (1 + d) 5 = .inl (kA 0, 6, .inl f0_14) := q5_14
    have m_26 : (1 + d, 5) ∈ RL := hm_14 5 (by decide)
    have c_27 : E1 (1 + d) 6 = .inl (kA 0, 5, .inl f1_14) := q6_14
    have m_28 : (1 + d, 6) ∈ RL := hm_14 6 (by decide)
    have c_29 : E1 (1 + d) 7 = .inl (kA 0, 3, .inl f2_14) := q7_14
    have m_30 : (1 + d, 7) ∈ RL := hm_14 7 (by decide)
    have c_31 : E1 (1 + d) 8 = .inl (kA 0, 3, .inl f3_14) := q8_14
    have m_32 : (1 + d, 8) ∈ RL := hm_14 8 (by decide)
    have c_33 : E1 (1 + d) 9 = .inl (kA 8, 6, .inr (.inr (.inr (.inr fe_14)))) := q9_14
    have m_34 : (1 + d, 9) ∈ RL := hm_14 9 (by decide)
    have c_35 : E1 (1 + d) 10 = .inl (kA 8, 6, .inr (.inr (.inr (.inr fo_14)))) := q10_14
    have m_36 : (1 + d, 10) ∈ RL := hm_14 10 (by decide)
    have c_37 : E1 (1 + d) 11 = .inl (kA 2, 5, .inl tr_14) := q11_14
    have m_38 : (1 + d, 11) ∈ RL := hm_14 11 (by decide)
    have c_39 : E1 (1 + d) 12 = .inl (kA 2, 5, .inl op_14) := q12_14
    have m_40 : (1 + d, 12) ∈ RL := hm_14 12 (by decide)
    have hg_14 : ∀ w9, w9 < k0_14 → fe_14 w9 = some (ad (1 + d) (20 + 3 * w9)) ∧ fo_14 w9 = some (ad (1 + d) (38 + 3 * w9)) ∧ GI kA (ad (1 + d)) (E1 (1 + d)) (fun o => (1 + d, o) ∈ RL) (20 + 3 * w9) (21 + 3 * w9) (22 + 3 * w9) ∧ GI kA (ad (1 + d)) (E1 (1 + d)) (fun o => (1 + d, o) ∈ RL) (38 + 3 * w9) (39 + 3 * w9) (40 + 3 * w9) := hg_14
    obtain ⟨hTT_14, tgr_14⟩ := TD_get hk0_14 hk1_14 hk2_14 hk3_14 c_15 c_17 c_19 c_21 c_23 c_25 c_27 c_29 c_31 c_37 c_39 (hTD1 d (by omega))
    obtain ⟨tfd_14, tnm_14, tsd_14, tk0_14, tf0_14, tk1_14, tf1_14, tk2_14, tk3_14⟩ := id hTT_14
    have ik0_14 : iN (g 5 d) = k0_14 := by rw [← tk0_14, iN_nI (by omega)]
    have ik1_14 : iN (g 12 d) = k1_14 := by rw [← tk1_14, iN_nI (by omega)]
    refine lv_aload_n hx hb xd_Me_settleReading_55 rfl (lv_at hl 1 rfl) ?_
    refine px_get (D := D) (ci := 6) (v := .ref (ad (20 + n) (14 + 10 * k))) (C := xR_Me) (T := xT_Me) (N := 6) hx hb hT xi_Me hown hK.1 hP ym0 c_2 rfl 5 (by decide) (hT _ k5u_1) (fun _ h9 => h9) rfl xd_Me_settleReading_56 ?_
    refine lv_aload_n hx hb xd_Me_settleReading_59 rfl (lv_at hl 1 rfl) ?_
    have hFc := px_free hD hS hA
    refine va_callv (va_runV (As := [.ref (ad (20 + n) (10 + 10 * k))]) (rest := []) ⟨hx, hb, hml, hown, hT⟩ (xc_Re_unmark l D kA H.size ad E1 RL (20 + n) (14 + 10 * k) (17 + 10 * k) gc1 n k d (lyv ad lq_8) op_8 fd_14 nm_14 sd_14 ym3 c_5 ym4 hcA7 ym0 c_2 m_10 c_13 m_16 c_15 (by first | assumption | omega) (by first | assumption | omega) (by first | assumption | omega)) (cwV 1 hT (wT_V k5u_3 k5u_4 k5u_5 k5u_6 k5u_2) rfl rfl rfl (by decide +kernel) ⟨Nat.le_of_ble_eq_true rfl, Nat.le_of_ble_eq_true rfl⟩) (px_preV hK hP hD ym3 c_5 rfl) rfl rfl hl.1 rfl (lv_room (Nat.le_of_ble_eq_true rfl)) xd_Me_settleReading_60 ⟨(Nat.le_of_ble_eq_true rfl), (Nat.le_of_ble_eq_true rfl)⟩) hS (fun q _ h => hFc q h) hFc (fun u42 t H1 locs ht hvm hp43 hB hz1 hk1 hS => ?_)
    obtain ⟨hP1, hD1⟩ := hB
    rw [ht] at hP1
    have hD1 := hD1.weaken (fun _ _ _ h => hFc _ h)
    generalize H1 = H at hP1 hS ⊢
    have hP := hP1
    have hD := hD1
    obtain ⟨E44, rfl⟩ : ∃ z, z = u42 := ⟨_, rfl⟩
    obtain ⟨w45, hp48, p_46, p_47⟩ := hp43
    have p_46 : E44 (20 + n) (17 + 10 * k) = .inl (kA 0, 6, .inl w45) := p_46
    have p_47 : (∀ b2 o2, ¬ (b2 = (20 + n) ∧ o2 = (17 + 10 * k)) → E44 b2 o2 = E1 b2 o2) := p_47
    have c_49 : E44 (20 + n) (10 + 10 * k) = .inr (6, [.ref (ad (20 + n) 0), .ref (ad (1 + d) 0), .ref (ad (20 + n) (11 + 10 * k)), .ref (ad (20 + n) (12 + 10 * k)), .ref (ad (20 + n) (13 + 10 * k)), .ref (ad (20 + n) (14 + 10 * k))]) := (p_47 (20 + n) (10 + 10 * k) (fun q9 => nr_k q9.2 (by decide))).trans c_2
    have c_50 : E44 (20 + n) (11 + 10 * k) = .inl (kA 6, rs, .inr (.inr (.inr (.inr fr)))) := (p_47 (20 + n) (11 + 10 * k) (fun q9 => nr_k q9.2 (by decide))).trans c_3
    have c_51 : E44 (20 + n) (13 + 10 * k) = .inr (10, [.ref (ad (20 + n) (16 + 10 * k))]) := (p_47 (20 + n) (13 + 10 * k) (fun q9 => nr_k q9.2 (by decide))).trans c_4
    have c_52 : E44 (20 + n) (14 + 10 * k) = .inr (10, [.ref (ad (20 + n) (17 + 10 * k))]) := (p_47 (20 + n) (14 + 10 * k) (fun q9 => nr_k q9.2 (by decide))).trans c_5
    have c_53 : E44 (20 + n) (16 + 10 * k) = .inl (kA 0, 6, .inl gb) := (p_47 (20 + n) (16 + 10 * k) (fun q9 => nr_k q9.2 (by decide))).trans c_6
    have c_54 : E44 (20 + n) 0 = .inr (5, [.int (nI n), (lyv ad lq_8), .ref (ad (20 + n) 1), .int op_8]) := (p_47 (20 + n) 0 (fun q9 => nr_z q9.2 (by decide))).trans c_13
    have c_55 : E44 (20 + n) 1 = .inl (kA 6, mk_8, .inr (.inr (.inr (.inr fm_8)))) := (p_47 (20 + n) 1 (fun q9 => nr_z q9.2 (by decide))).trans c_11
    have c_56 : E44 (1 + d) 0 = .inr (7, [.int (nI d), .int fd_14, .int nm_14, .ref (ad (1 + d) 1), .ref (ad (1 + d) 9), .ref (ad (1 + d) 10), .ref (ad (1 + d) 2), .ref (ad (1 + d) 11), .ref (ad (1 + d) 12), .ref (ad (1 + d) 3), .ref (ad (1 + d) 4), .int sd_14]) := (p_47 (1 + d) 0 (fun q9 => nr_z q9.2 (by decide))).trans c_15
    have c_57 : E44 (1 + d) 1 = .inr (8, [.ref (ad (1 + d) 5), .int (nI k0_14)]) := (p_47 (1 + d) 1 (fun q9 => nr_z q9.2 (by decide))).trans c_17
    have c_58 : E44 (1 + d) 2 = .inr (8, [.ref (ad (1 + d) 6), .int (nI k1_14)]) := (p_47 (1 + d) 2 (fun q9 => nr_z q9.2 (by decide))).trans c_19
    have c_59 : E44 (1 + d) 3 = .inr (8, [.ref (ad (1 + d) 7), .int (nI k2_14)]) := (p_47 (1 + d) 3 (fun q9 => nr_z q9.2 (by decide))).trans c_21
    have c_60 : E44 (1 + d) 4 = .inr (8, [.ref (ad (1 + d) 8), .int (nI k3_14)]) := (p_47 (1 + d) 4 (fun q9 => nr_z q9.2 (by decide))).trans c_23
    have c_61 : E44 (1 + d) 5 = .inl (kA 0, 6, .inl f0_14) := (p_47 (1 + d) 5 (fun q9 => nr_z q9.2 (by decide))).trans c_25
    have c_62 : E44 (1 + d) 6 = .inl (kA 0, 5, .inl f1_14) := (p_47 (1 + d) 6 (fun q9 => nr_z q9.2 (by decide))).trans c_27
    have c_63 : E44 (1 + d) 7 = .inl (kA 0, 3, .inl f2_14) := (p_47 (1 + d) 7 (fun q9 => nr_z q9.2 (by decide))).trans c_29
    have c_64 : E44 (1 + d) 8 = .inl (kA 0, 3, .inl f3_14) := (p_47 (1 + d) 8 (fun q9 => nr_z q9.2 (by decide))).trans c_31
    have c_65 : E44 (1 + d) 9 = .inl (kA 8, 6, .inr (.inr (.inr (.inr fe_14)))) := (p_47 (1 + d) 9 (fun q9 => nr_z q9.2 (by decide))).trans c_33
    have c_66 : E44 (1 + d) 10 = .inl (kA 8, 6, .inr (.inr (.inr (.inr fo_14)))) := (p_47 (1 + d) 10 (fun q9 => nr_z q9.2 (by decide))).trans c_35
    have c_67 : E44 (1 + d) 11 = .inl (kA 2, 5, .inl tr_14) := (p_47 (1 + d) 11 (fun q9 => nr_z q9.2 (by decide))).trans c_37
    have c_68 : E44 (1 + d) 12 = .inl (kA 2, 5, .inl op_14) := (p_47 (1 + d) 12 (fun q9 => nr_z q9.2 (by decide))).trans c_39
    have hP : va_P D xcl (rp ad E44 RL) H := hP
    have hD : va_D A (rp ad E44 RL) := hD
    have hRu : ∀ t, t < 72 → (BS w45 t ↔ ((BS gc t ∨ RDp g n d rs t) ∧ t ≠ 12 * n + d)) := fun t ht => by rw [hp48, BS_unmark (by omega), hR9 t ht, show i = rs by omega]
    exact W.vret hx hb hr (fun t ht hW => ⟨⟨E44, rfl, ⟨w45, hRu, p_46, (fun b2 o2 h09 => by show E44 b2 o2 = _; rw [p_47 b2 o2 (by omega), hfr b2 o2 (by omega)])⟩, by rw [ht]; exact hP, hD⟩, hS.F ht⟩) hS.2.2 xd_Me_settleReading_63
  · rcases (show (fr i = none ∧ lkG g (n + 1) (g 13 (5 * d + i)) = none) ∨ (∃ x9 k9, (x9 = n ∧ k9 = k) ∧ fr i = some (ad (20 + x9) (10 + 10 * k9)) ∧ lkG g (n + 1) (g 13 (5 * d + i)) = some (x9, mdv g x9 k9)) ∨ ∃ x9 k9, x9 ≤ n ∧ ¬ (x9 = n ∧ k9 = k) ∧ fr i = some (ad (20 + x9) (10 + 10 * k9)) ∧ MEI kA ad E RL nd x9 k9 ∧ k9 < iN (g 20 x9) ∧ lkG g (n + 1) (g 13 (5 * d + i)) = some (x9, mdv g x9 k9) from by
      rcases hRQ i (by omega) with q | ⟨x9, k9, q1, q2, q3, q5, q6⟩
      · exact Or.inl q
      · by_cases q4 : x9 = n ∧ k9 = k
        · exact Or.inr (Or.inl ⟨x9, k9, q4, q2, q6⟩)
        · exact Or.inr (Or.inr ⟨x9, k9, q1, q4, q2, q3, q5, q6⟩)) with ⟨hq, hlk9⟩ | ⟨x9, k9, ⟨hxk1, hxk2⟩, hq, hlk8⟩ | ⟨x9, k9, hx9, hxk, hq, hM9, hkm9, hlk8⟩
    · have hq := hq
      refine lv_aload_n hx hb xd_Me_settleReading_11 rfl (lv_at hl 1 rfl) ?_
      refine px_get (D := D) (ci := 6) (v := .ref (ad (20 + n) (11 + 10 * k))) (C := xR_Me) (T := xT_Me) (N := 6) hx hb hT xi_Me hown hK.1 hP ym0 c_2 rfl 2 (by decide) (hT _ k5u_0) (fun _ h9 => h9) rfl xd_Me_settleReading_12 ?_
      refine lv_iload_n hx hb xd_Me_settleReading_15 rfl (lv_at hl 0 rfl) ?_
      refine px_aald (i := i) (x := none) hx hb hK.1 hP ym1 c_3 6 rfl (hq) (by omega) (by omega) xd_Me_settleReading_16 ?_
      refine lv_ifnullN (tgt := 49) hx hb xd_Me_settleReading_17 (by decide) ?_
      refine lv_iinc (k := 0) (x := (nI i)) (v := (nI (i + 1))) hx hb xd_Me_settleReading_49 hl rfl (xb_inc i 1) (Nat.le_of_ble_eq_true rfl) rfl (fun ls hl => ?_)
      have hl : lv_has ls 2 [(1, .int (nI (i + 1))), (0, .ref (ad (20 + n) (10 + 10 * k)))] := hl
      refine lv_goto (tgt := 2) hx hb xd_Me_settleReading_52 (by decide) ?_
      exact ih1 (i + 1, E1, gc1) _ _ _ (show rs - (i + 1) < rs - i by omega) (lv_sub hl [0, 1] rfl) hP hD hS ⟨(show (i + 1) ≤ rs from by first | assumption | omega), (show E1 (20 + n) (17 + 10 * k) = .inl (kA 0, 6, .inl gc1) from hcA7), (show ∀ b2 o2, ¬ (b2 = 20 + n ∧ o2 = 17 + 10 * k) → E1 b2 o2 = E b2 o2 from fun b2 o2 h09 => by rw [hfr b2 o2 (by omega)]), (show ∀ t, t < 72 → (BS gc1 t ↔ (BS gc t ∨ RDp g n d (i + 1) t)) from fun t ht => by rw [hR9 t ht, RDp_n hlk9])⟩
    · rw [hxk1, hxk2] at hq
      have hlk9 : lkG g (n + 1) (g 13 (5 * d + i)) = some (n, d) := by rw [hxk1, hxk2, hdk] at hlk8; exact hlk8
      obtain ⟨m0_69, m1_69, pv_69, op_69, mk_69, fm_69, hmk_69, hpv_69, q0_69, q1_69, hk_69⟩ := id (hLIs n (by omega))
      have c_70 : E1 (20 + n) 0 = .inr (5, [.int (nI n), pv_69, .ref (ad (20 + n) 1), .int op_69]) := q0_69
      have m_71 : (20 + n, 0) ∈ RL := m0_69
      have c_72 : E1 (20 + n) 1 = .inl (kA 6, mk_69, .inr (.inr (.inr (.inr fm_69)))) := q1_69
      have m_73 : (20 + n, 1) ∈ RL := m1_69
      obtain ⟨top_69, ⟨lq_69, hlq_69, h19_69, hpv2_69⟩, h20_69, tmd_69⟩ := TLa_get c_70 c_72 (hTL1 n (by omega))
      have c_74 : E1 (20 + n) 0 = .inr (5, [.int (nI n), (lyv ad lq_69), .ref (ad (20 + n) 1), .int op_69]) := by rw [← hpv2_69]; exact c_70
      have i20_69 : iN (g 20 n) = mk_69 := by rw [h20_69, iN_nI (by omega)]
      obtain ⟨hm_75, fd_75, nm_75, sd_75, k0_75, k1_75, k2_75, k3_75, f0_75, f1_75, f2_75, f3_75, fe_75, fo_75, tr_75, op_75, hk0_75, hk1_75, hk2_75, hk3_75, q0_75, q1_75, q2_75, q3_75, q4_75, q5_75, q6_75, q7_75, q8_75, q9_75, q10_75, q11_75, q12_75, hg_75⟩ := id (hDIs d (by omega))
      have c_76 : E1 (1 + d) 0 = .inr (7, [.int (nI d), .int fd_75, .int nm_75, .ref (ad (1 + d) 1), .ref (ad (1 + d) 9), .ref (ad (1 + d) 10), .ref (ad (1 + d) 2), .ref (ad (1 + d) 11), .ref (ad (1 + d) 12), .ref (ad (1 + d) 3), .ref (ad (1 + d) 4), .int sd_75]) := q0_75
      have m_77 : (1 + d, 0) ∈ RL := hm_75 0 (by decide)
      have c_78 : E1 (1 + d) 1 = .inr (8, [.ref (ad (1 + d) 5), .int (nI k0_75)]) := q1_75
      have m_79 : (1 + d, 1) ∈ RL := hm_75 1 (by decide)
      have c_80 : E1 (1 + d) 2 = .inr (8, [.ref (ad (1 + d) 6), .int (nI k1_75)]) := q2_75
      have m_81 : (1 + d, 2) ∈ RL := hm_75 2 (by decide)
      have c_82 : E1 (1 + d) 3 = .inr (8, [.ref (ad (1 + d) 7), .int (nI k2_75)]) := q3_75
      have m_83 : (1 + d, 3) ∈ RL := hm_75 3 (by decide)
      have c_84 : E1 (1 + d) 4 = .inr (8, [.ref (ad (1 + d) 8), .int (nI k3_75)]) := q4_75
      have m_85 : (1 + d, 4) ∈ RL := hm_75 4 (by decide)
      have c_86 : E1 (1 + d) 5 = .inl (kA 0, 6, .inl f0_75) := q5_75
      have m_87 : (1 + d, 5) ∈ RL := hm_75 5 (by decide)
      have c_88 : E1 (1 + d) 6 = .inl (kA 0, 5, .inl f1_75) := q6_75
      have m_89 : (1 + d, 6) ∈ RL := hm_75 6 (by decide)
      have c_90 : E1 (1 + d) 7 = .inl (kA 0, 3, .inl f2_75) := q7_75
      have m_91 : (1 + d, 7) ∈ RL := hm_75 7 (by decide)
      have c_92 : E1 (1 + d) 8 = .inl (kA 0, 3, .inl f3_75) := q8_75
      have m_93 : (1 + d, 8) ∈ RL := hm_75 8 (by decide)
      have c_94 : E1 (1 + d) 9 = .inl (kA 8, 6, .inr (.inr (.inr (.inr fe_75)))) := q9_75
      have m_95 : (1 + d, 9) ∈ RL := hm_75 9 (by decide)
      have c_96 : E1 (1 + d) 10 = .inl (kA 8, 6, .inr (.inr (.inr (.inr fo_75)))) := q10_75
      have m_97 : (1 + d, 10) ∈ RL := hm_75 10 (by decide)
      have c_98 : E1 (1 + d) 11 = .inl (kA 2, 5, .inl tr_75) := q11_75
      have m_99 : (1 + d, 11) ∈ RL := hm_75 11 (by decide)
      have c_100 : E1 (1 + d) 12 = .inl (kA 2, 5, .inl op_75) := q12_75
      have m_101 : (1 + d, 12) ∈ RL := hm_75 12 (by decide)
      have hg_75 : ∀ w9, w9 < k0_75 → fe_75 w9 = some (ad (1 + d) (20 + 3 * w9)) ∧ fo_75 w9 = some (ad (1 + d) (38 + 3 * w9)) ∧ GI kA (ad (1 + d)) (E1 (1 + d)) (fun o => (1 + d, o) ∈ RL) (20 + 3 * w9) (21 + 3 * w9) (22 + 3 * w9) ∧ GI kA (ad (1 + d)) (E1 (1 + d)) (fun o => (1 + d, o) ∈ RL) (38 + 3 * w9) (39 + 3 * w9) (40 + 3 * w9) := hg_75
      obtain ⟨hTT_75, tgr_75⟩ := TD_get hk0_75 hk1_75 hk2_75 hk3_75 c_76 c_78 c_80 c_82 c_84 c_86 c_88 c_90 c_92 c_98 c_100 (hTD1 d (by omega))
      obtain ⟨tfd_75, tnm_75, tsd_75, tk0_75, tf0_75, tk1_75, tf1_75, tk2_75, tk3_75⟩ := id hTT_75
      have ik0_75 : iN (g 5 d) = k0_75 := by rw [← tk0_75, iN_nI (by omega)]
      have ik1_75 : iN (g 12 d) = k1_75 := by rw [← tk1_75, iN_nI (by omega)]
      refine lv_aload_n hx hb xd_Me_settleReading_11 rfl (lv_at hl 1 rfl) ?_
      refine px_get (D := D) (ci := 6) (v := .ref (ad (20 + n) (11 + 10 * k))) (C := xR_Me) (T := xT_Me) (N := 6) hx hb hT xi_Me hown hK.1 hP ym0 c_2 rfl 2 (by decide) (hT _ k5u_0) (fun _ h9 => h9) rfl xd_Me_settleReading_12 ?_
      refine lv_iload_n hx hb xd_Me_settleReading_15 rfl (lv_at hl 0 rfl) ?_
      refine px_aald (i := i) (x := (some (ad (20 + n) (10 + 10 * k)))) hx hb hK.1 hP ym1 c_3 6 rfl (hq) (by omega) (by omega) xd_Me_settleReading_16 ?_
      refine lv_ifnull hx hb xd_Me_settleReading_17 ?_
      refine lv_aload_n hx hb xd_Me_settleReading_20 rfl (lv_at hl 1 rfl) ?_
      refine px_get (D := D) (ci := 6) (v := .ref (ad (20 + n) (14 + 10 * k))) (C := xR_Me) (T := xT_Me) (N := 6) hx hb hT xi_Me hown hK.1 hP ym0 c_2 rfl 5 (by decide) (hT _ k5u_1) (fun _ h9 => h9) rfl xd_Me_settleReading_21 ?_
      refine lv_aload_n hx hb xd_Me_settleReading_24 rfl (lv_at hl 1 rfl) ?_
      refine px_get (D := D) (ci := 6) (v := .ref (ad (20 + n) (11 + 10 * k))) (C := xR_Me) (T := xT_Me) (N := 6) hx hb hT xi_Me hown hK.1 hP ym0 c_2 rfl 2 (by decide) (hT _ k5u_0) (fun _ h9 => h9) rfl xd_Me_settleReading_25 ?_
      refine lv_iload_n hx hb xd_Me_settleReading_28 rfl (lv_at hl 0 rfl) ?_
      refine px_aald (i := i) (x := (some (ad (20 + n) (10 + 10 * k)))) hx hb hK.1 hP ym1 c_3 6 rfl (hq) (by omega) (by omega) xd_Me_settleReading_29 ?_
      have hFc := px_free hD hS hA
      refine va_callv (va_runV (As := [.ref (ad (20 + n) (10 + 10 * k))]) (rest := []) ⟨hx, hb, hml, hown, hT⟩ (xc_Re_mark l D kA H.size ad E1 RL (20 + n) (14 + 10 * k) (17 + 10 * k) gc1 n k d (lyv ad lq_69) op_69 fd_75 nm_75 sd_75 ym3 c_5 ym4 hcA7 ym0 c_2 m_71 c_74 m_77 c_76 (by first | assumption | omega) (by first | assumption | omega) (by first | assumption | omega)) (cwV 1 hT (wT_V k5u_8 k5u_9 k5u_10 k5u_6 k5u_7) rfl rfl rfl (by decide +kernel) ⟨Nat.le_of_ble_eq_true rfl, Nat.le_of_ble_eq_true rfl⟩) (px_preV hK hP hD ym3 c_5 rfl) rfl rfl hl.1 rfl (lv_room (Nat.le_of_ble_eq_true rfl)) xd_Me_settleReading_30 ⟨(Nat.le_of_ble_eq_true rfl), (Nat.le_of_ble_eq_true rfl)⟩) hS (fun q _ h => hFc q h) hFc (fun u103 t H1 locs ht hvm hp104 hB hz1 hk1 hS => ?_)
      obtain ⟨hP1, hD1⟩ := hB
      rw [ht] at hP1
      have hD1 := hD1.weaken (fun _ _ _ h => hFc _ h)
      generalize H1 = H at hP1 hS ⊢
      have hP := hP1
      have hD := hD1
      obtain ⟨E105, rfl⟩ : ∃ z, z = u103 := ⟨_, rfl⟩
      obtain ⟨w106, hp109, p_107, p_108⟩ := hp104
      have p_107 : E105 (20 + n) (17 + 10 * k) = .inl (kA 0, 6, .inl w106) := p_107
      have p_108 : (∀ b2 o2, ¬ (b2 = (20 + n) ∧ o2 = (17 + 10 * k)) → E105 b2 o2 = E1 b2 o2) := p_108
      have c_110 : E105 (20 + n) (10 + 10 * k) = .inr (6, [.ref (ad (20 + n) 0), .ref (ad (1 + d) 0), .ref (ad (20 + n) (11 + 10 * k)), .ref (ad (20 + n) (12 + 10 * k)), .ref (ad (20 + n) (13 + 10 * k)), .ref (ad (20 + n) (14 + 10 * k))]) := (p_108 (20 + n) (10 + 10 * k) (fun q9 => nr_k q9.2 (by decide))).trans c_2
      have c_111 : E105 (20 + n) (11 + 10 * k) = .inl (kA 6, rs, .inr (.inr (.inr (.inr fr)))) := (p_108 (20 + n) (11 + 10 * k) (fun q9 => nr_k q9.2 (by decide))).trans c_3
      have c_112 : E105 (20 + n) (13 + 10 * k) = .inr (10, [.ref (ad (20 + n) (16 + 10 * k))]) := (p_108 (20 + n) (13 + 10 * k) (fun q9 => nr_k q9.2 (by decide))).trans c_4
      have c_113 : E105 (20 + n) (14 + 10 * k) = .inr (10, [.ref (ad (20 + n) (17 + 10 * k))]) := (p_108 (20 + n) (14 + 10 * k) (fun q9 => nr_k q9.2 (by decide))).trans c_5
      have c_114 : E105 (20 + n) (16 + 10 * k) = .inl (kA 0, 6, .inl gb) := (p_108 (20 + n) (16 + 10 * k) (fun q9 => nr_k q9.2 (by decide))).trans c_6
      have c_115 : E105 (20 + n) 0 = .inr (5, [.int (nI n), (lyv ad lq_69), .ref (ad (20 + n) 1), .int op_69]) := (p_108 (20 + n) 0 (fun q9 => nr_z q9.2 (by decide))).trans c_74
      have c_116 : E105 (1 + d) 0 = .inr (7, [.int (nI d), .int fd_75, .int nm_75, .ref (ad (1 + d) 1), .ref (ad (1 + d) 9), .ref (ad (1 + d) 10), .ref (ad (1 + d) 2), .ref (ad (1 + d) 11), .ref (ad (1 + d) 12), .ref (ad (1 + d) 3), .ref (ad (1 + d) 4), .int sd_75]) := (p_108 (1 + d) 0 (fun q9 => nr_z q9.2 (by decide))).trans c_76
      have hP : va_P D xcl (rp ad E105 RL) H := hP
      have hD : va_D A (rp ad E105 RL) := hD
      have hRm : ∀ t, BS w106 t ↔ (BS gc1 t ∨ t = 12 * n + d) := fun t => by rw [hp109]; exact BS_mark (by omega)
      refine lv_aload_n hx hb xd_Me_settleReading_33 rfl (lv_at hl 1 rfl) ?_
      refine px_get (D := D) (ci := 6) (v := .ref (ad (20 + n) (14 + 10 * k))) (C := xR_Me) (T := xT_Me) (N := 6) hx hb hT xi_Me hown hK.1 hP ym0 c_110 rfl 5 (by decide) (hT _ k5u_1) (fun _ h9 => h9) rfl xd_Me_settleReading_34 ?_
      refine lv_aload_n hx hb xd_Me_settleReading_37 rfl (lv_at hl 1 rfl) ?_
      refine px_get (D := D) (ci := 6) (v := .ref (ad (20 + n) (11 + 10 * k))) (C := xR_Me) (T := xT_Me) (N := 6) hx hb hT xi_Me hown hK.1 hP ym0 c_110 rfl 2 (by decide) (hT _ k5u_0) (fun _ h9 => h9) rfl xd_Me_settleReading_38 ?_
      refine lv_iload_n hx hb xd_Me_settleReading_41 rfl (lv_at hl 0 rfl) ?_
      refine px_aald (i := i) (x := (some (ad (20 + n) (10 + 10 * k)))) hx hb hK.1 hP ym1 c_111 6 rfl (hq) (by omega) (by omega) xd_Me_settleReading_42 ?_
      refine px_get (D := D) (ci := 6) (v := .ref (ad (20 + n) (13 + 10 * k))) (C := xR_Me) (T := xT_Me) (N := 6) hx hb hT xi_Me hown hK.1 hP ym0 c_110 rfl 4 (by decide) (hT _ k5u_11) (fun _ h9 => h9) rfl xd_Me_settleReading_43 ?_
      have hFc := px_free hD hS hA
      refine va_callv (va_runV (As := [.ref (ad (20 + n) (13 + 10 * k))]) (rest := []) ⟨hx, hb, hml, hown, hT⟩ (xc_Re_joinX l D kA H.size ad E105 RL (20 + n) (14 + 10 * k) (17 + 10 * k) w106 (20 + n) (13 + 10 * k) (16 + 10 * k) gb ym3 c_113 ym4 p_107 ym2 c_112 ym5 c_114 (by first | assumption | omega) (by first | assumption | omega)) (cwV 1 hT (wT_V k5u_13 k5u_14 k5u_15 k5u_6 k5u_12) rfl rfl rfl (by decide +kernel) ⟨Nat.le_of_ble_eq_true rfl, Nat.le_of_ble_eq_true rfl⟩) (px_preV hK hP hD ym3 c_113 rfl) rfl rfl hl.1 rfl (lv_room (Nat.le_of_ble_eq_true rfl)) xd_Me_settleReading_46 ⟨(Nat.le_of_ble_eq_true rfl), (Nat.le_of_ble_eq_true rfl)⟩) hS (fun q _ h => hFc q h) hFc (fun u118 t H1 locs ht hvm hp119 hB hz1 hk1 hS => ?_)
      obtain ⟨hP1, hD1⟩ := hB
      rw [ht] at hP1
      have hD1 := hD1.weaken (fun _ _ _ h => hFc _ h)
      generalize H1 = H at hP1 hS ⊢
      have hP := hP1
      have hD := hD1
      obtain ⟨E120, rfl⟩ : ∃ z, z = u118 := ⟨_, rfl⟩
      obtain ⟨w121, hp124, p_122, p_123⟩ := hp119
      have p_122 : E120 (20 + n) (17 + 10 * k) = .inl (kA 0, 6, .inl w121) := p_122
      have p_123 : (∀ b2 o2, ¬ (b2 = (20 + n) ∧ o2 = (17 + 10 * k)) → E120 b2 o2 = E105 b2 o2) := p_123
      have c_125 : E120 (20 + n) (10 + 10 * k) = .inr (6, [.ref (ad (20 + n) 0), .ref (ad (1 + d) 0), .ref (ad (20 + n) (11 + 10 * k)), .ref (ad (20 + n) (12 + 10 * k)), .ref (ad (20 + n) (13 + 10 * k)), .ref (ad (20 + n) (14 + 10 * k))]) := (p_123 (20 + n) (10 + 10 * k) (fun q9 => nr_k q9.2 (by decide))).trans c_110
      have c_126 : E120 (20 + n) (11 + 10 * k) = .inl (kA 6, rs, .inr (.inr (.inr (.inr fr)))) := (p_123 (20 + n) (11 + 10 * k) (fun q9 => nr_k q9.2 (by decide))).trans c_111
      have c_127 : E120 (20 + n) (13 + 10 * k) = .inr (10, [.ref (ad (20 + n) (16 + 10 * k))]) := (p_123 (20 + n) (13 + 10 * k) (fun q9 => nr_k q9.2 (by decide))).trans c_112
      have c_128 : E120 (20 + n) (14 + 10 * k) = .inr (10, [.ref (ad (20 + n) (17 + 10 * k))]) := (p_123 (20 + n) (14 + 10 * k) (fun q9 => nr_k q9.2 (by decide))).trans c_113
      have c_129 : E120 (20 + n) (16 + 10 * k) = .inl (kA 0, 6, .inl gb) := (p_123 (20 + n) (16 + 10 * k) (fun q9 => nr_k q9.2 (by decide))).trans c_114
      have c_130 : E120 (20 + n) 0 = .inr (5, [.int (nI n), (lyv ad lq_69), .ref (ad (20 + n) 1), .int op_69]) := (p_123 (20 + n) 0 (fun q9 => nr_z q9.2 (by decide))).trans c_115
      have c_131 : E120 (1 + d) 0 = .inr (7, [.int (nI d), .int fd_75, .int nm_75, .ref (ad (1 + d) 1), .ref (ad (1 + d) 9), .ref (ad (1 + d) 10), .ref (ad (1 + d) 2), .ref (ad (1 + d) 11), .ref (ad (1 + d) 12), .ref (ad (1 + d) 3), .ref (ad (1 + d) 4), .int sd_75]) := (p_123 (1 + d) 0 (fun q9 => nr_z q9.2 (by decide))).trans c_116
      have hP : va_P D xcl (rp ad E120 RL) H := hP
      have hD : va_D A (rp ad E120 RL) := hD
      have hRj : ∀ t, t < 72 → (BS w121 t ↔ ((BS gc1 t ∨ t = 12 * n + d) ∨ tc (pst g) (12 * n + d) t)) := fun t ht => by
        rw [BS_join ht hp124, hRm t]
        have q := hCB n (by omega) k hkm t ht
        rw [hdk, show eA (E (20 + n) (16 + 10 * k)) = gb from by rw [yc5]; rfl] at q
        rw [← q]
      refine lv_iinc (k := 0) (x := (nI i)) (v := (nI (i + 1))) hx hb xd_Me_settleReading_49 hl rfl (xb_inc i 1) (Nat.le_of_ble_eq_true rfl) rfl (fun ls hl => ?_)
      have hl : lv_has ls 2 [(1, .int (nI (i + 1))), (0, .ref (ad (20 + n) (10 + 10 * k)))] := hl
      refine lv_goto (tgt := 2) hx hb xd_Me_settleReading_52 (by decide) ?_
      exact ih1 (i + 1, E120, w121) _ _ _ (show rs - (i + 1) < rs - i by omega) (lv_sub hl [0, 1] rfl) hP hD hS ⟨(show (i + 1) ≤ rs from by first | assumption | omega), (show E120 (20 + n) (17 + 10 * k) = .inl (kA 0, 6, .inl w121) from p_122), (show ∀ b2 o2, ¬ (b2 = 20 + n ∧ o2 = 17 + 10 * k) → E120 b2 o2 = E b2 o2 from fun b2 o2 h09 => by rw [p_123 b2 o2 (by omega), p_108 b2 o2 (by omega), hfr b2 o2 (by omega)]), (show ∀ t, t < 72 → (BS w121 t ↔ (BS gc t ∨ RDp g n d (i + 1) t)) from fun t ht => by rw [hRj t ht, hR9 t ht, RDp_y hlk9, or_assoc, or_assoc])⟩
    · have hM9 := MEI_RU hRU hM9
      obtain ⟨m0_132, m1_132, pv_132, op_132, mk_132, fm_132, hmk_132, hpv_132, q0_132, q1_132, hk_132⟩ := id (hLIs x9 (by omega))
      have c_133 : E1 (20 + x9) 0 = .inr (5, [.int (nI x9), pv_132, .ref (ad (20 + x9) 1), .int op_132]) := q0_132
      have m_134 : (20 + x9, 0) ∈ RL := m0_132
      have c_135 : E1 (20 + x9) 1 = .inl (kA 6, mk_132, .inr (.inr (.inr (.inr fm_132)))) := q1_132
      have m_136 : (20 + x9, 1) ∈ RL := m1_132
      obtain ⟨top_132, ⟨lq_132, hlq_132, h19_132, hpv2_132⟩, h20_132, tmd_132⟩ := TLa_get c_133 c_135 (hTL1 x9 (by omega))
      have c_137 : E1 (20 + x9) 0 = .inr (5, [.int (nI x9), (lyv ad lq_132), .ref (ad (20 + x9) 1), .int op_132]) := by rw [← hpv2_132]; exact c_133
      have i20_132 : iN (g 20 x9) = mk_132 := by rw [h20_132, iN_nI (by omega)]
      have hkk9 : k9 < mk_132 := by have q := hkm9; rw [i20_132] at q; exact q
      obtain ⟨hm_138, d_138, rs_138, fr_138, g2_138, g3_138, g4_138, hd_138, hrs_138, q0_138, q1_138, q2_138, q3_138, q4_138, q5_138, q6_138, q7_138⟩ := id hM9
      have c_139 : E1 (20 + x9) (10 + 10 * k9) = .inr (6, [.ref (ad (20 + x9) 0), .ref (ad (1 + d_138) 0), .ref (ad (20 + x9) (11 + 10 * k9)), .ref (ad (20 + x9) (12 + 10 * k9)), .ref (ad (20 + x9) (13 + 10 * k9)), .ref (ad (20 + x9) (14 + 10 * k9))]) := q0_138
      have m_140 : (20 + x9, 10 + 10 * k9) ∈ RL := hm_138 0 (by decide)
      have c_141 : E1 (20 + x9) (11 + 10 * k9) = .inl (kA 6, rs_138, .inr (.inr (.inr (.inr fr_138)))) := q1_138
      have m_142 : (20 + x9, 11 + 10 * k9) ∈ RL := hm_138 1 (by decide)
      have c_143 : E1 (20 + x9) (12 + 10 * k9) = .inr (10, [.ref (ad (20 + x9) (15 + 10 * k9))]) := q2_138
      have m_144 : (20 + x9, 12 + 10 * k9) ∈ RL := hm_138 2 (by decide)
      have c_145 : E1 (20 + x9) (13 + 10 * k9) = .inr (10, [.ref (ad (20 + x9) (16 + 10 * k9))]) := q3_138
      have m_146 : (20 + x9, 13 + 10 * k9) ∈ RL := hm_138 3 (by decide)
      have c_147 : E1 (20 + x9) (14 + 10 * k9) = .inr (10, [.ref (ad (20 + x9) (17 + 10 * k9))]) := q4_138
      have m_148 : (20 + x9, 14 + 10 * k9) ∈ RL := hm_138 4 (by decide)
      have c_149 : E1 (20 + x9) (15 + 10 * k9) = .inl (kA 0, 6, .inl g2_138) := q5_138
      have m_150 : (20 + x9, 15 + 10 * k9) ∈ RL := hm_138 5 (by decide)
      have c_151 : E1 (20 + x9) (16 + 10 * k9) = .inl (kA 0, 6, .inl g3_138) := q6_138
      have m_152 : (20 + x9, 16 + 10 * k9) ∈ RL := hm_138 6 (by decide)
      have c_153 : E1 (20 + x9) (17 + 10 * k9) = .inl (kA 0, 6, .inl g4_138) := q7_138
      have m_154 : (20 + x9, 17 + 10 * k9) ∈ RL := hm_138 7 (by decide)
      have hdm_138 : mdv g x9 k9 = d_138 := by
        obtain ⟨dz, hdz, h21z, hvz⟩ := tmd_132 k9 (by omega)
        rw [c_139] at hvz
        have ez := (rp_inj hD ((hDIs d_138 hd_138).1 0 (by omega)) ((hDIs dz hdz).1 0 (by omega)) (Value.ref.inj hvz)).1
        unfold mdv
        rw [h21z, iN_nI (by omega)]; omega
      obtain ⟨hm_155, fd_155, nm_155, sd_155, k0_155, k1_155, k2_155, k3_155, f0_155, f1_155, f2_155, f3_155, fe_155, fo_155, tr_155, op_155, hk0_155, hk1_155, hk2_155, hk3_155, q0_155, q1_155, q2_155, q3_155, q4_155, q5_155, q6_155, q7_155, q8_155, q9_155, q10_155, q11_155, q12_155, hg_155⟩ := id (hDIs d_138 (by omega))
      have c_156 : E1 (1 + d_138) 0 = .inr (7, [.int (nI d_138), .int fd_155, .int nm_155, .ref (ad (1 + d_138) 1), .ref (ad (1 + d_138) 9), .ref (ad (1 + d_138) 10), .ref (ad (1 + d_138) 2), .ref (ad (1 + d_138) 11), .ref (ad (1 + d_138) 12), .ref (ad (1 + d_138) 3), .ref (ad (1 + d_138) 4), .int sd_155]) := q0_155
      have m_157 : (1 + d_138, 0) ∈ RL := hm_155 0 (by decide)
      have c_158 : E1 (1 + d_138) 1 = .inr (8, [.ref (ad (1 + d_138) 5), .int (nI k0_155)]) := q1_155
      have m_159 : (1 + d_138, 1) ∈ RL := hm_155 1 (by decide)
      have c_160 : E1 (1 + d_138) 2 = .inr (8, [.ref (ad (1 + d_138) 6), .int (nI k1_155)]) := q2_155
      have m_161 : (1 + d_138, 2) ∈ RL := hm_155 2 (by decide)
      have c_162 : E1 (1 + d_138) 3 = .inr (8, [.ref (ad (1 + d_138) 7), .int (nI k2_155)]) := q3_155
      have m_163 : (1 + d_138, 3) ∈ RL := hm_155 3 (by decide)
      have c_164 : E1 (1 + d_138) 4 = .inr (8, [.ref (ad (1 + d_138) 8), .int (nI k3_155)]) := q4_155
      have m_165 : (1 + d_138, 4) ∈ RL := hm_155 4 (by decide)
      have c_166 : E1 (1 + d_138) 5 = .inl (kA 0, 6, .inl f0_155) := q5_155
      have m_167 : (1 + d_138, 5) ∈ RL := hm_155 5 (by decide)
      have c_168 : E1 (1 + d_138) 6 = .inl (kA 0, 5, .inl f1_155) := q6_155
      have m_169 : (1 + d_138, 6) ∈ RL := hm_155 6 (by decide)
      have c_170 : E1 (1 + d_138) 7 = .inl (kA 0, 3, .inl f2_155) := q7_155
      have m_171 : (1 + d_138, 7) ∈ RL := hm_155 7 (by decide)
      have c_172 : E1 (1 + d_138) 8 = .inl (kA 0, 3, .inl f3_155) := q8_155
      have m_173 : (1 + d_138, 8) ∈ RL := hm_155 8 (by decide)
      have c_174 : E1 (1 + d_138) 9 = .inl (kA 8, 6, .inr (.inr (.inr (.inr fe_155)))) := q9_155
      have m_175 : (1 + d_138, 9) ∈ RL := hm_155 9 (by decide)
      have c_176 : E1 (1 + d_138) 10 = .inl (kA 8, 6, .inr (.inr (.inr (.inr fo_155)))) := q10_155
      have m_177 : (1 + d_138, 10) ∈ RL := hm_155 10 (by decide)
      have c_178 : E1 (1 + d_138) 11 = .inl (kA 2, 5, .inl tr_155) := q11_155
      have m_179 : (1 + d_138, 11) ∈ RL := hm_155 11 (by decide)
      have c_180 : E1 (1 + d_138) 12 = .inl (kA 2, 5, .inl op_155) := q12_155
      have m_181 : (1 + d_138, 12) ∈ RL := hm_155 12 (by decide)
      have hg_155 : ∀ w9, w9 < k0_155 → fe_155 w9 = some (ad (1 + d_138) (20 + 3 * w9)) ∧ fo_155 w9 = some (ad (1 + d_138) (38 + 3 * w9)) ∧ GI kA (ad (1 + d_138)) (E1 (1 + d_138)) (fun o => (1 + d_138, o) ∈ RL) (20 + 3 * w9) (21 + 3 * w9) (22 + 3 * w9) ∧ GI kA (ad (1 + d_138)) (E1 (1 + d_138)) (fun o => (1 + d_138, o) ∈ RL) (38 + 3 * w9) (39 + 3 * w9) (40 + 3 * w9) := hg_155
      obtain ⟨hTT_155, tgr_155⟩ := TD_get hk0_155 hk1_155 hk2_155 hk3_155 c_156 c_158 c_160 c_162 c_164 c_166 c_168 c_170 c_172 c_178 c_180 (hTD1 d_138 (by omega))
      obtain ⟨tfd_155, tnm_155, tsd_155, tk0_155, tf0_155, tk1_155, tf1_155, tk2_155, tk3_155⟩ := id hTT_155
      have ik0_155 : iN (g 5 d_138) = k0_155 := by rw [← tk0_155, iN_nI (by omega)]
      have ik1_155 : iN (g 12 d_138) = k1_155 := by rw [← tk1_155, iN_nI (by omega)]
      have hlk9 : lkG g (n + 1) (g 13 (5 * d + i)) = some (x9, d_138) := by rw [hdm_138] at hlk8; exact hlk8
      have hoc9 : eA (E1 (20 + x9) (16 + 10 * k9)) = g3_138 := by rw [c_151]; rfl
      refine lv_aload_n hx hb xd_Me_settleReading_11 rfl (lv_at hl 1 rfl) ?_
      refine px_get (D := D) (ci := 6) (v := .ref (ad (20 + n) (11 + 10 * k))) (C := xR_Me) (T := xT_Me) (N := 6) hx hb hT xi_Me hown hK.1 hP ym0 c_2 rfl 2 (by decide) (hT _ k5u_0) (fun _ h9 => h9) rfl xd_Me_settleReading_12 ?_
      refine lv_iload_n hx hb xd_Me_settleReading_15 rfl (lv_at hl 0 rfl) ?_
      refine px_aald (i := i) (x := (some (ad (20 + x9) (10 + 10 * k9)))) hx hb hK.1 hP ym1 c_3 6 rfl (hq) (by omega) (by omega) xd_Me_settleReading_16 ?_
      refine lv_ifnull hx hb xd_Me_settleReading_17 ?_
      refine lv_aload_n hx hb xd_Me_settleReading_20 rfl (lv_at hl 1 rfl) ?_
      refine px_get (D := D) (ci := 6) (v := .ref (ad (20 + n) (14 + 10 * k))) (C := xR_Me) (T := xT_Me) (N := 6) hx hb hT xi_Me hown hK.1 hP ym0 c_2 rfl 5 (by decide) (hT _ k5u_1) (fun _ h9 => h9) rfl xd_Me_settleReading_21 ?_
      refine lv_aload_n hx hb xd_Me_settleReading_24 rfl (lv_at hl 1 rfl) ?_
      refine px_get (D := D) (ci := 6) (v := .ref (ad (20 + n) (11 + 10 * k))) (C := xR_Me) (T := xT_Me) (N := 6) hx hb hT xi_Me hown hK.1 hP ym0 c_2 rfl 2 (by decide) (hT _ k5u_0) (fun _ h9 => h9) rfl xd_Me_settleReading_25 ?_
      refine lv_iload_n hx hb xd_Me_settleReading_28 rfl (lv_at hl 0 rfl) ?_
      refine px_aald (i := i) (x := (some (ad (20 + x9) (10 + 10 * k9)))) hx hb hK.1 hP ym1 c_3 6 rfl (hq) (by omega) (by omega) xd_Me_settleReading_29 ?_
      have hFc := px_free hD hS hA
      refine va_callv (va_runV (As := [.ref (ad (20 + x9) (10 + 10 * k9))]) (rest := []) ⟨hx, hb, hml, hown, hT⟩ (xc_Re_mark l D kA H.size ad E1 RL (20 + n) (14 + 10 * k) (17 + 10 * k) gc1 x9 k9 d_138 (lyv ad lq_132) op_132 fd_155 nm_155 sd_155 ym3 c_5 ym4 hcA7 m_140 c_139 m_134 c_137 m_157 c_156 (by first | assumption | omega) (by first | assumption | omega) (by first | assumption | omega)) (cwV 1 hT (wT_V k5u_8 k5u_9 k5u_10 k5u_6 k5u_7) rfl rfl rfl (by decide +kernel) ⟨Nat.le_of_ble_eq_true rfl, Nat.le_of_ble_eq_true rfl⟩) (px_preV hK hP hD ym3 c_5 rfl) rfl rfl hl.1 rfl (lv_room (Nat.le_of_ble_eq_true rfl)) xd_Me_settleReading_30 ⟨(Nat.le_of_ble_eq_true rfl), (Nat.le_of_ble_eq_true rfl)⟩) hS (fun q _ h => hFc q h) hFc (fun u183 t H1 locs ht hvm hp184 hB hz1 hk1 hS => ?_)
      obtain ⟨hP1, hD1⟩ := hB
      rw [ht] at hP1
      have hD1 := hD1.weaken (fun _ _ _ h => hFc _ h)
      generalize H1 = H at hP1 hS ⊢
      have hP := hP1
      have hD := hD1
      obtain ⟨E185, rfl⟩ : ∃ z, z = u183 := ⟨_, rfl⟩
      obtain ⟨w186, hp189, p_187, p_188⟩ := hp184
      have p_187 : E185 (20 + n) (17 + 10 * k) = .inl (kA 0, 6, .inl w186) := p_187
      have p_188 : (∀ b2 o2, ¬ (b2 = (20 + n) ∧ o2 = (17 + 10 * k)) → E185 b2 o2 = E1 b2 o2) := p_188
      have c_190 : E185 (20 + n) (10 + 10 * k) = .inr (6, [.ref (ad (20 + n) 0), .ref (ad (1 + d) 0), .ref (ad (20 + n) (11 + 10 * k)), .ref (ad (20 + n) (12 + 10 * k)), .ref (ad (20 + n) (13 + 10 * k)), .ref (ad (20 + n) (14 + 10 * k))]) := (p_188 (20 + n) (10 + 10 * k) (fun q9 => nr_k q9.2 (by decide))).trans c_2
      have c_191 : E185 (20 + n) (11 + 10 * k) = .inl (kA 6, rs, .inr (.inr (.inr (.inr fr)))) := (p_188 (20 + n) (11 + 10 * k) (fun q9 => nr_k q9.2 (by decide))).trans c_3
      have c_192 : E185 (20 + n) (13 + 10 * k) = .inr (10, [.ref (ad (20 + n) (16 + 10 * k))]) := (p_188 (20 + n) (13 + 10 * k) (fun q9 => nr_k q9.2 (by decide))).trans c_4
      have c_193 : E185 (20 + n) (14 + 10 * k) = .inr (10, [.ref (ad (20 + n) (17 + 10 * k))]) := (p_188 (20 + n) (14 + 10 * k) (fun q9 => nr_k q9.2 (by decide))).trans c_5
      have c_194 : E185 (20 + n) (16 + 10 * k) = .inl (kA 0, 6, .inl gb) := (p_188 (20 + n) (16 + 10 * k) (fun q9 => nr_k q9.2 (by decide))).trans c_6
      have c_195 : E185 (20 + x9) 0 = .inr (5, [.int (nI x9), (lyv ad lq_132), .ref (ad (20 + x9) 1), .int op_132]) := (p_188 (20 + x9) 0 (fun q9 => nr_z q9.2 (by decide))).trans c_137
      have c_196 : E185 (20 + x9) (10 + 10 * k9) = .inr (6, [.ref (ad (20 + x9) 0), .ref (ad (1 + d_138) 0), .ref (ad (20 + x9) (11 + 10 * k9)), .ref (ad (20 + x9) (12 + 10 * k9)), .ref (ad (20 + x9) (13 + 10 * k9)), .ref (ad (20 + x9) (14 + 10 * k9))]) := (p_188 (20 + x9) (10 + 10 * k9) (by omega)).trans c_139
      have c_197 : E185 (20 + x9) (13 + 10 * k9) = .inr (10, [.ref (ad (20 + x9) (16 + 10 * k9))]) := (p_188 (20 + x9) (13 + 10 * k9) (by omega)).trans c_145
      have c_198 : E185 (20 + x9) (16 + 10 * k9) = .inl (kA 0, 6, .inl g3_138) := (p_188 (20 + x9) (16 + 10 * k9) (by omega)).trans c_151
      have c_199 : E185 (1 + d_138) 0 = .inr (7, [.int (nI d_138), .int fd_155, .int nm_155, .ref (ad (1 + d_138) 1), .ref (ad (1 + d_138) 9), .ref (ad (1 + d_138) 10), .ref (ad (1 + d_138) 2), .ref (ad (1 + d_138) 11), .ref (ad (1 + d_138) 12), .ref (ad (1 + d_138) 3), .ref (ad (1 + d_138) 4), .int sd_155]) := (p_188 (1 + d_138) 0 (fun q9 => nr_z q9.2 (by decide))).trans c_156
      have hP : va_P D xcl (rp ad E185 RL) H := hP
      have hD : va_D A (rp ad E185 RL) := hD
      have hRm : ∀ t, BS w186 t ↔ (BS gc1 t ∨ t = 12 * x9 + d_138) := fun t => by rw [hp189]; exact BS_mark (by omega)
      refine lv_aload_n hx hb xd_Me_settleReading_33 rfl (lv_at hl 1 rfl) ?_
      refine px_get (D := D) (ci := 6) (v := .ref (ad (20 + n) (14 + 10 * k))) (C := xR_Me) (T := xT_Me) (N := 6) hx hb hT xi_Me hown hK.1 hP ym0 c_190 rfl 5 (by decide) (hT _ k5u_1) (fun _ h9 => h9) rfl xd_Me_settleReading_34 ?_
      refine lv_aload_n hx hb xd_Me_settleReading_37 rfl (lv_at hl 1 rfl) ?_
      refine px_get (D := D) (ci := 6) (v := .ref (ad (20 + n) (11 + 10 * k))) (C := xR_Me) (T := xT_Me) (N := 6) hx hb hT xi_Me hown hK.1 hP ym0 c_190 rfl 2 (by decide) (hT _ k5u_0) (fun _ h9 => h9) rfl xd_Me_settleReading_38 ?_
      refine lv_iload_n hx hb xd_Me_settleReading_41 rfl (lv_at hl 0 rfl) ?_
      refine px_aald (i := i) (x := (some (ad (20 + x9) (10 + 10 * k9)))) hx hb hK.1 hP ym1 c_191 6 rfl (hq) (by omega) (by omega) xd_Me_settleReading_42 ?_
      refine px_get (D := D) (ci := 6) (v := .ref (ad (20 + x9) (13 + 10 * k9))) (C := xR_Me) (T := xT_Me) (N := 6) hx hb hT xi_Me hown hK.1 hP m_140 c_196 rfl 4 (by decide) (hT _ k5u_11) (fun _ h9 => h9) rfl xd_Me_settleReading_43 ?_
      have hFc := px_free hD hS hA
      refine va_callv (va_runV (As := [.ref (ad (20 + x9) (13 + 10 * k9))]) (rest := []) ⟨hx, hb, hml, hown, hT⟩ (xc_Re_joinX l D kA H.size ad E185 RL (20 + n) (14 + 10 * k) (17 + 10 * k) w186 (20 + x9) (13 + 10 * k9) (16 + 10 * k9) g3_138 ym3 c_193 ym4 p_187 m_146 c_197 m_152 c_198 (by first | assumption | omega) (by first | assumption | omega)) (cwV 1 hT (wT_V k5u_13 k5u_14 k5u_15 k5u_6 k5u_12) rfl rfl rfl (by decide +kernel) ⟨Nat.le_of_ble_eq_true rfl, Nat.le_of_ble_eq_true rfl⟩) (px_preV hK hP hD ym3 c_193 rfl) rfl rfl hl.1 rfl (lv_room (Nat.le_of_ble_eq_true rfl)) xd_Me_settleReading_46 ⟨(Nat.le_of_ble_eq_true rfl), (Nat.le_of_ble_eq_true rfl)⟩) hS (fun q _ h => hFc q h) hFc (fun u201 t H1 locs ht hvm hp202 hB hz1 hk1 hS => ?_)
      obtain ⟨hP1, hD1⟩ := hB
      rw [ht] at hP1
      have hD1 := hD1.weaken (fun _ _ _ h => hFc _ h)
      generalize H1 = H at hP1 hS ⊢
      have hP := hP1
      have hD := hD1
      obtain ⟨E203, rfl⟩ : ∃ z, z = u201 := ⟨_, rfl⟩
      obtain ⟨w204, hp207, p_205, p_206⟩ := hp202
      have p_205 : E203 (20 + n) (17 + 10 * k) = .inl (kA 0, 6, .inl w204) := p_205
      have p_206 : (∀ b2 o2, ¬ (b2 = (20 + n) ∧ o2 = (17 + 10 * k)) → E203 b2 o2 = E185 b2 o2) := p_206
      have c_208 : E203 (20 + n) (10 + 10 * k) = .inr (6, [.ref (ad (20 + n) 0), .ref (ad (1 + d) 0), .ref (ad (20 + n) (11 + 10 * k)), .ref (ad (20 + n) (12 + 10 * k)), .ref (ad (20 + n) (13 + 10 * k)), .ref (ad (20 + n) (14 + 10 * k))]) := (p_206 (20 + n) (10 + 10 * k) (fun q9 => nr_k q9.2 (by decide))).trans c_190
      have c_209 : E203 (20 + n) (11 + 10 * k) = .inl (kA 6, rs, .inr (.inr (.inr (.inr fr)))) := (p_206 (20 + n) (11 + 10 * k) (fun q9 => nr_k q9.2 (by decide))).trans c_191
      have c_210 : E203 (20 + n) (13 + 10 * k) = .inr (10, [.ref (ad (20 + n) (16 + 10 * k))]) := (p_206 (20 + n) (13 + 10 * k) (fun q9 => nr_k q9.2 (by decide))).trans c_192
      have c_211 : E203 (20 + n) (14 + 10 * k) = .inr (10, [.ref (ad (20 + n) (17 + 10 * k))]) := (p_206 (20 + n) (14 + 10 * k) (fun q9 => nr_k q9.2 (by decide))).trans c_193
      have c_212 : E203 (20 + n) (16 + 10 * k) = .inl (kA 0, 6, .inl gb) := (p_206 (20 + n) (16 + 10 * k) (fun q9 => nr_k q9.2 (by decide))).trans c_194
      have c_213 : E203 (20 + x9) 0 = .inr (5, [.int (nI x9), (lyv ad lq_132), .ref (ad (20 + x9) 1), .int op_132]) := (p_206 (20 + x9) 0 (fun q9 => nr_z q9.2 (by decide))).trans c_195
      have c_214 : E203 (20 + x9) (10 + 10 * k9) = .inr (6, [.ref (ad (20 + x9) 0), .ref (ad (1 + d_138) 0), .ref (ad (20 + x9) (11 + 10 * k9)), .ref (ad (20 + x9) (12 + 10 * k9)), .ref (ad (20 + x9) (13 + 10 * k9)), .ref (ad (20 + x9) (14 + 10 * k9))]) := (p_206 (20 + x9) (10 + 10 * k9) (by omega)).trans c_196
      have c_215 : E203 (20 + x9) (13 + 10 * k9) = .inr (10, [.ref (ad (20 + x9) (16 + 10 * k9))]) := (p_206 (20 + x9) (13 + 10 * k9) (by omega)).trans c_197
      have c_216 : E203 (20 + x9) (16 + 10 * k9) = .inl (kA 0, 6, .inl g3_138) := (p_206 (20 + x9) (16 + 10 * k9) (by omega)).trans c_198
      have c_217 : E203 (1 + d_138) 0 = .inr (7, [.int (nI d_138), .int fd_155, .int nm_155, .ref (ad (1 + d_138) 1), .ref (ad (1 + d_138) 9), .ref (ad (1 + d_138) 10), .ref (ad (1 + d_138) 2), .ref (ad (1 + d_138) 11), .ref (ad (1 + d_138) 12), .ref (ad (1 + d_138) 3), .ref (ad (1 + d_138) 4), .int sd_155]) := (p_206 (1 + d_138) 0 (fun q9 => nr_z q9.2 (by decide))).trans c_199
      have hP : va_P D xcl (rp ad E203 RL) H := hP
      have hD : va_D A (rp ad E203 RL) := hD
      have hRj : ∀ t, t < 72 → (BS w204 t ↔ ((BS gc1 t ∨ t = 12 * x9 + d_138) ∨ tc (pst g) (12 * x9 + d_138) t)) := fun t ht => by
        rw [BS_join ht hp207, hRm t]
        have q := hCB x9 (by omega) k9 hkm9 t ht
        rw [← hfr (20 + x9) (16 + 10 * k9) (by omega), hoc9, hdm_138] at q
        rw [← q]
      refine lv_iinc (k := 0) (x := (nI i)) (v := (nI (i + 1))) hx hb xd_Me_settleReading_49 hl rfl (xb_inc i 1) (Nat.le_of_ble_eq_true rfl) rfl (fun ls hl => ?_)
      have hl : lv_has ls 2 [(1, .int (nI (i + 1))), (0, .ref (ad (20 + n) (10 + 10 * k)))] := hl
      refine lv_goto (tgt := 2) hx hb xd_Me_settleReading_52 (by decide) ?_
      exact ih1 (i + 1, E203, w204) _ _ _ (show rs - (i + 1) < rs - i by omega) (lv_sub hl [0, 1] rfl) hP hD hS ⟨(show (i + 1) ≤ rs from by first | assumption | omega), (show E203 (20 + n) (17 + 10 * k) = .inl (kA 0, 6, .inl w204) from p_205), (show ∀ b2 o2, ¬ (b2 = 20 + n ∧ o2 = 17 + 10 * k) → E203 b2 o2 = E b2 o2 from fun b2 o2 h09 => by rw [p_206 b2 o2 (by omega), p_188 b2 o2 (by omega), hfr b2 o2 (by omega)]), (show ∀ t, t < 72 → (BS w204 t ↔ (BS gc t ∨ RDp g n d (i + 1) t)) from fun t ht => by rw [hRj t ht, hR9 t ht, RDp_y hlk9, or_assoc, or_assoc])⟩
theorem nI_iN_of {x : Int32} {k : Nat} (h : nI k = x) (hk : k < 2147483648) : x = nI (iN x) := by rw [← h, iN_nI hk]
def CN1 (g : gT) (E : Nat → Nat → va_E) (n j : Nat) : Prop := ∀ t, t < 72 → (BS (eA (E (20 + n) (15 + 10 * j))) t ↔ LSr g n j t) ∧ (BS (eA (E (20 + n) (16 + 10 * j))) t ↔ CSr g n j t)
def CN0 (g : gT) (E : Nat → Nat → va_E) (n j : Nat) : Prop := eL (E (20 + n) (11 + 10 * j)) = iN (g 12 (mdv g n j)) ∧ ∀ t, t < 72 → ¬ BS (eA (E (20 + n) (15 + 10 * j))) t ∧ ¬ BS (eA (E (20 + n) (16 + 10 * j))) t
def CN7 (E : Nat → Nat → va_E) (n j : Nat) : Prop := ∀ t, t < 72 → ¬ BS (eA (E (20 + n) (17 + 10 * j))) t
def CNd (g : gT) (kA : Nat → ClassId) (ad : Nat → Nat → Nat) (E : Nat → Nat → va_E) (RL : List (Nat × Nat)) (nd n j : Nat) : Prop := ∃ fr, E (20 + n) (11 + 10 * j) = .inl (kA 6, iN (g 12 (mdv g n j)), .inr (.inr (.inr (.inr fr)))) ∧ RQX g kA ad E RL nd n (mdv g n j) (iN (g 12 (mdv g n j))) fr
theorem CN1_fr {g : gT} {E E' : Nat → Nat → va_E} {n j : Nat} (h5 : E' (20 + n) (15 + 10 * j) = E (20 + n) (15 + 10 * j)) (h6 : E' (20 + n) (16 + 10 * j) = E (20 + n) (16 + 10 * j)) (h : CN1 g E n j) : CN1 g E' n j := fun t ht => by rw [h5, h6]; exact h t ht
theorem CN0_fr {g : gT} {E E' : Nat → Nat → va_E} {n j : Nat} (h1 : E' (20 + n) (11 + 10 * j) = E (20 + n) (11 + 10 * j)) (h5 : E' (20 + n) (15 + 10 * j) = E (20 + n) (15 + 10 * j)) (h6 : E' (20 + n) (16 + 10 * j) = E (20 + n) (16 + 10 * j)) (h : CN0 g E n j) : CN0 g E' n j := by
  unfold CN0
  rw [h1, h5, h6]; exact h
theorem CN7_fr {E E' : Nat → Nat → va_E} {n j : Nat} (h7 : E' (20 + n) (17 + 10 * j) = E (20 + n) (17 + 10 * j)) (h : CN7 E n j) : CN7 E' n j := fun t ht => by rw [h7]; exact h t ht
theorem CNd_RU {g : gT} {kA : Nat → ClassId} {ad : Nat → Nat → Nat} {E E' : Nat → Nat → va_E} {RL : List (Nat × Nat)} {nd n j : Nat} (hR : RU kA E E') (h1 : E' (20 + n) (11 + 10 * j) = E (20 + n) (11 + 10 * j)) (h : CNd g kA ad E RL nd n j) : CNd g kA ad E' RL nd n j := by
  obtain ⟨fr, q1, q2⟩ := h
  exact ⟨fr, h1.trans q1, RQX_RU hR q2⟩
theorem RQX_23 {g : gT} {kA : Nat → ClassId} {ad : Nat → Nat → Nat} {E E' : Nat → Nat → va_E} {RL : List (Nat × Nat)} {nd n x d m : Nat} {fr : Nat → Option Nat} (hR : R23 n E E') (h : RQX g kA ad E RL nd x d m fr) : RQX g kA ad E' RL nd x d m fr := fun j hj => by
  rcases h j hj with q | ⟨x, k, q1, q2, q3, q4⟩
  · exact Or.inl q
  · exact Or.inr ⟨x, k, q1, q2, MEI_23 hR (fun _ _ _ => rfl) (fun _ h => h) q3, q4⟩
theorem CNd_23 {g : gT} {kA : Nat → ClassId} {ad : Nat → Nat → Nat} {E E' : Nat → Nat → va_E} {RL : List (Nat × Nat)} {nd n j : Nat} (hR : R23 n E E') (h : CNd g kA ad E RL nd n j) : CNd g kA ad E' RL nd n j := by
  obtain ⟨fr, q1, q2⟩ := h
  exact ⟨fr, (hR _ _ (by omega)).trans q1, RQX_23 hR q2⟩
theorem CN1_23 {g : gT} {E E' : Nat → Nat → va_E} {n j : Nat} (hR : R23 n E E') (h : CN1 g E n j) : CN1 g E' n j := CN1_fr (hR _ _ (by omega)) (hR _ _ (by omega)) h
theorem CN0_23 {g : gT} {E E' : Nat → Nat → va_E} {n j : Nat} (hR : R23 n E E') (h : CN0 g E n j) : CN0 g E' n j := CN0_fr (hR _ _ (by omega)) (hR _ _ (by omega)) (hR _ _ (by omega)) h
theorem CN7_23 {E E' : Nat → Nat → va_E} {n j : Nat} (hR : R23 n E E') (h : CN7 E n j) : CN7 E' n j := CN7_fr (hR _ _ (by omega)) h
theorem TLas_23 {g : gT} {ad ad' : Nat → Nat → Nat} {E E' : Nat → Nat → va_E} {nd n nL : Nat} (hE : R23 n E E') (ha : R23 n ad ad') (h : TLas g ad E nd nL) (hnd : nd ≤ 12) : TLas g ad' E' nd nL := TLas_same (E := E') (ad := ad) (Nat.le_refl _) (fun _ _ => rfl) (fun d hd => ha _ _ (by omega)) (fun n9 _ => ha _ _ (by omega)) (TLas_ro (fun n9 o9 hn9 ho9 => hE _ _ (by rcases ho9 with q | q | ⟨k, q⟩ <;> omega)) h)
theorem CNd_cel {g : gT} {kA : Nat → ClassId} {ad : Nat → Nat → Nat} {E : Nat → Nat → va_E} {RL : List (Nat × Nat)} {nd n j d rs : Nat} {c : ClassId} {fr : Nat → Option Nat} (h : CNd g kA ad E RL nd n j) (hd : mdv g n j = d) (hc : E (20 + n) (11 + 10 * j) = .inl (c, rs, .inr (.inr (.inr (.inr fr))))) : RQX g kA ad E RL nd n d rs fr ∧ rs = iN (g 12 d) := by
  obtain ⟨fr9, q1, q2⟩ := h
  rw [q1] at hc
  have e1 := congrArg (fun x : va_E => eL x) hc
  have e2 := congrArg (fun x : va_E => eR x) hc
  have e1 : iN (g 12 (mdv g n j)) = rs := e1
  have e2 : fr9 = fr := e2
  rw [hd, e2] at q2
  rw [hd] at e1
  rw [e1] at q2
  exact ⟨q2, e1.symm⟩
theorem LKH_L {g : gT} {kA : Nat → ClassId} {ad : Nat → Nat → Nat} {E : Nat → Nat → va_E} {RL : List (Nat × Nat)} {nd nL n : Nat} (hL : nL ≤ 6) (hnd : nd ≤ 12) (hn : n < nL) (hI : LIs kA ad E RL nd nL) (h : TLas g ad E nd nL) : LKH g n := LKH_T hL hnd (fun la hla => by
  obtain ⟨_, _, pv, op, mk, fm, hm, _, _, c1, _⟩ := hI la hla
  rw [c1]; exact hm) hn h
theorem T_20 {g : gT} {ad : Nat → Nat → Nat} {E : Nat → Nat → va_E} {nd nL n mk : Nat} {c : ClassId} {fm : Nat → Option Nat} (hn : n < nL) (h : TLas g ad E nd nL) (hc : E (20 + n) 1 = .inl (c, mk, .inr (.inr (.inr (.inr fm))))) : g 20 n = nI mk := by
  obtain ⟨_, _, h3, _⟩ := h n hn
  rw [hc] at h3; exact h3
def LBs (g : gT) (E : Nat → Nat → va_E) (n : Nat) : Prop := ∀ k, k < iN (g 20 n) → (BS (eA (E (20 + n) (15 + 10 * k))) (12 * n + mdv g n k) ↔ tc (stp g n) (mdv g n k) (mdv g n k))
def RBs (g : gT) (E : Nat → Nat → va_E) (n : Nat) : Prop := ∀ k, k < iN (g 20 n) → ∀ t, t < 72 → (BS (eA (E (20 + n) (17 + 10 * k))) t ↔ rdQ g n (mdv g n k) t)
theorem LBs_of {g : gT} {E : Nat → Nat → va_E} {n mk : Nat} (hk : LKH g n) (hm : iN (g 20 n) = mk) (hn : n < 6) (hinj : ∀ a b, a < mk → b < mk → mdv g n a = mdv g n b → a = b) (h : ∀ k, k < mk → ∀ t, t < 72 → (BS (eA (E (20 + n) (15 + 10 * k))) t ↔ PW (LSr g n) (fun b => 12 * n + mdv g n b) mk k t)) : LBs g E n := fun k hk9 => by
  have q := hk.2 n (by omega) k (by unfold mcv; omega)
  rw [h k (by omega) _ (by omega), PW_iff (fun a b ha hb e => hinj a b ha hb (by omega)) (by omega), LS_tc hk (by unfold mcv; exact hm) (by omega) q]
theorem CBs_of {g : gT} {E : Nat → Nat → va_E} {n mk : Nat} (hk : LKH g n) (hm : iN (g 20 n) = mk) (hinj : ∀ a b, a < mk → b < mk → mdv g n a = mdv g n b → a = b) (h0 : CBs g E n) (h : ∀ k, k < mk → ∀ t, t < 72 → (BS (eA (E (20 + n) (16 + 10 * k))) t ↔ PW (CSr g n) (fun b => 12 * n + mdv g n b) mk k t)) : CBs g E (n + 1) := fun la hl k hk9 t ht => by
  by_cases q : la = n
  · subst q
    rw [h k (by omega) t ht, PW_iff (fun a b ha hb e => hinj a b ha hb (by omega)) (by omega), CS_tc hk (by unfold mcv; exact hm) (by omega)]
  · exact h0 la (by omega) k hk9 t ht
