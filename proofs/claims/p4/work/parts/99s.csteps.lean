theorem k5s_0 : (Cond.fieldLink "LayerDesk$Member" 44 "LayerDesk$Member" "required" "[LLayerDesk$Member;") ∈ wT := wT_t (List.mem_append_right _ (List.mem_append_right _ (List.mem_append_left _ (List.mem_of_getElem? (i := 186) rfl)))) rfl
theorem k5s_1 : (Cond.fieldLink "LayerDesk$Member" 24 "LayerDesk$Member" "home" "LLayerDesk$Layer;") ∈ wT := wT_t (List.mem_append_right _ (List.mem_append_right _ (List.mem_append_left _ (List.mem_of_getElem? (i := 179) rfl)))) rfl
theorem k5s_2 : (Cond.fieldLink "LayerDesk$Member" 28 "LayerDesk$Member" "descriptor" "LLayerDesk$Descriptor;") ∈ wT := wT_t (List.mem_append_right _ (List.mem_append_right _ (List.mem_append_left _ (List.mem_of_getElem? (i := 181) rfl)))) rfl
theorem k5s_3 : (Cond.fieldLink "LayerDesk$Member" 32 "LayerDesk$Descriptor" "required" "LLayerDesk$Names;") ∈ wT := wT_t (List.mem_append_right _ (List.mem_append_left _ (List.mem_of_getElem? (i := 67) rfl))) rfl
theorem k5s_4 : (Cond.code xy_Na_at xb_Na_at 2 (some .int)) ∈ wT := wT_t (List.mem_append_right _ (List.mem_append_right _ (List.mem_append_left _ (List.mem_of_getElem? (i := 93) rfl)))) rfl
theorem k5s_5 : (Cond.methodLink "LayerDesk$Member" 47 xy_Na_at) ∈ wT := wT_t (List.mem_append_right _ (List.mem_append_right _ (List.mem_append_left _ (List.mem_of_getElem? (i := 216) rfl)))) rfl
theorem k5s_6 : (Cond.instanceMethod xy_Na_at) ∈ wT := wT_t (List.mem_append_right _ (List.mem_append_right _ (List.mem_append_left _ (List.mem_of_getElem? (i := 91) rfl)))) rfl
theorem k5s_7 : (Cond.selects "LayerDesk$Names" xy_Na_at xy_Na_at) ∈ wT := wT_t (List.mem_append_right _ (List.mem_append_right _ (List.mem_append_left _ (List.mem_of_getElem? (i := 92) rfl)))) rfl
theorem k5s_8 : (Cond.initialized "LayerDesk$Names") ∈ wT := wT_t (List.mem_append_left _ (List.mem_of_getElem? (i := 11) rfl)) rfl
theorem k5s_9 : (Cond.code xy_Ly_lookUp xb_Ly_lookUp 4 (some (.object "LayerDesk$Member"))) ∈ wT := wT_t (List.mem_append_right _ (List.mem_append_right _ (List.mem_append_left _ (List.mem_of_getElem? (i := 85) rfl)))) rfl
theorem k5s_10 : (Cond.methodLink "LayerDesk$Member" 51 xy_Ly_lookUp) ∈ wT := wT_t (List.mem_append_right _ (List.mem_append_right _ (List.mem_append_left _ (List.mem_of_getElem? (i := 217) rfl)))) rfl
theorem k5s_11 : (Cond.instanceMethod xy_Ly_lookUp) ∈ wT := wT_t (List.mem_append_right _ (List.mem_append_right _ (List.mem_append_left _ (List.mem_of_getElem? (i := 83) rfl)))) rfl
theorem k5s_12 : (Cond.selects "LayerDesk$Layer" xy_Ly_lookUp xy_Ly_lookUp) ∈ wT := wT_t (List.mem_append_right _ (List.mem_append_right _ (List.mem_append_left _ (List.mem_of_getElem? (i := 84) rfl)))) rfl
theorem k5s_13 : (Cond.initialized "LayerDesk$Layer") ∈ wT := wT_t (List.mem_append_left _ (List.mem_of_getElem? (i := 19) rfl)) rfl
theorem k5s_14 : (Cond.fieldLink "LayerDesk$Member" 57 "LayerDesk$Descriptor" "optional" "[Z") ∈ wT := wT_t (List.mem_append_right _ (List.mem_append_left _ (List.mem_of_getElem? (i := 73) rfl))) rfl
theorem k5s_15 : (Cond.fieldLink "LayerDesk$Member" 65 "LayerDesk$Descriptor" "transitive" "[Z") ∈ wT := wT_t (List.mem_append_right _ (List.mem_append_left _ (List.mem_of_getElem? (i := 71) rfl))) rfl
theorem k5s_16 : (Cond.fieldLink "LayerDesk$Member" 18 "LayerDesk$Member" "carried" "LLayerDesk$Reach;") ∈ wT := wT_t (List.mem_append_right _ (List.mem_append_right _ (List.mem_append_left _ (List.mem_of_getElem? (i := 189) rfl)))) rfl
theorem k5s_17 : (Cond.code xy_Re_mark xb_Re_mark 2 none) ∈ wT := wT_t (List.mem_append_right _ (List.mem_append_right _ (List.mem_append_left _ (List.mem_of_getElem? (i := 221) rfl)))) rfl
theorem k5s_18 : (Cond.methodLink "LayerDesk$Member" 61 xy_Re_mark) ∈ wT := wT_t (List.mem_append_right _ (List.mem_append_right _ (List.mem_append_left _ (List.mem_of_getElem? (i := 218) rfl)))) rfl
theorem k5s_19 : (Cond.instanceMethod xy_Re_mark) ∈ wT := wT_t (List.mem_append_right _ (List.mem_append_right _ (List.mem_append_left _ (List.mem_of_getElem? (i := 219) rfl)))) rfl
theorem k5s_20 : (Cond.selects "LayerDesk$Reach" xy_Re_mark xy_Re_mark) ∈ wT := wT_t (List.mem_append_right _ (List.mem_append_right _ (List.mem_append_left _ (List.mem_of_getElem? (i := 220) rfl)))) rfl
theorem k5s_21 : (Cond.initialized "LayerDesk$Reach") ∈ wT := wT_t (List.mem_append_left _ (List.mem_of_getElem? (i := 21) rfl)) rfl
theorem k5s_22 : (Cond.fieldLink "LayerDesk$Member" 12 "LayerDesk$Member" "leading" "LLayerDesk$Reach;") ∈ wT := wT_t (List.mem_append_right _ (List.mem_append_right _ (List.mem_append_left _ (List.mem_of_getElem? (i := 187) rfl)))) rfl
theorem k5s_23 : (Cond.code xy_Re_join xb_Re_join 3 none) ∈ wT := wT_t (List.mem_append_right _ (List.mem_append_right _ (List.mem_append_left _ (List.mem_of_getElem? (i := 225) rfl)))) rfl
theorem k5s_24 : (Cond.methodLink "LayerDesk$Member" 68 xy_Re_join) ∈ wT := wT_t (List.mem_append_right _ (List.mem_append_right _ (List.mem_append_left _ (List.mem_of_getElem? (i := 222) rfl)))) rfl
theorem k5s_25 : (Cond.instanceMethod xy_Re_join) ∈ wT := wT_t (List.mem_append_right _ (List.mem_append_right _ (List.mem_append_left _ (List.mem_of_getElem? (i := 223) rfl)))) rfl
theorem k5s_26 : (Cond.selects "LayerDesk$Reach" xy_Re_join xy_Re_join) ∈ wT := wT_t (List.mem_append_right _ (List.mem_append_right _ (List.mem_append_left _ (List.mem_of_getElem? (i := 224) rfl)))) rfl
set_option maxHeartbeats 4000000 in
set_option maxRecDepth 100000 in
theorem xc_Me_takeFirstStepsX (l : Launch) (D : va_G) (kA : Nat → ClassId) (sz : Nat) (ad : Nat → Nat → Nat) (E : Nat → Nat → va_E) (RL : List (Nat × Nat)) (g : Nat → Nat → Int32) (nd : Nat) (nL : Nat) (n : Nat) (k : Nat) (d : Nat) (rs : Nat) (fr : Nat → Option Nat) (ga : Nat → Int32) (gb : Nat → Int32) (ym0 : (20 + n, 10 + 10 * k) ∈ RL) (yc0 : E (20 + n) (10 + 10 * k) = .inr (6, [.ref (ad (20 + n) 0), .ref (ad (1 + d) 0), .ref (ad (20 + n) (11 + 10 * k)), .ref (ad (20 + n) (12 + 10 * k)), .ref (ad (20 + n) (13 + 10 * k)), .ref (ad (20 + n) (14 + 10 * k))])) (ym1 : (20 + n, 11 + 10 * k) ∈ RL) (yc1 : E (20 + n) (11 + 10 * k) = .inl (kA 6, rs, .inr (.inr (.inr (.inr fr))))) (ym2 : (20 + n, 12 + 10 * k) ∈ RL) (yc2 : E (20 + n) (12 + 10 * k) = .inr (10, [.ref (ad (20 + n) (15 + 10 * k))])) (ym3 : (20 + n, 13 + 10 * k) ∈ RL) (yc3 : E (20 + n) (13 + 10 * k) = .inr (10, [.ref (ad (20 + n) (16 + 10 * k))])) (ym4 : (20 + n, 15 + 10 * k) ∈ RL) (yc4 : E (20 + n) (15 + 10 * k) = .inl (kA 0, 6, .inl ga)) (ym5 : (20 + n, 16 + 10 * k) ∈ RL) (yc5 : E (20 + n) (16 + 10 * k) = .inl (kA 0, 6, .inl gb)) (hDIs : DIs kA ad E RL nd) (hLIs : LIs kA ad E RL nd nL) (hnd12 : nd ≤ 12) (hnL : nL ≤ 6) (hn : n < nL) (hd : d < nd) (hrs : rs ≤ 5) (hTD : TDs g E nd) (hTL : TLas g ad E nd nL) (hrsd : g 12 d = nI rs) (hdk : mdv g n k = d) (hCB : CBs g E n) (hkm : k < iN (g 20 n)) : Met l xy_Me_takeFirstSteps (.code xy_Me_takeFirstSteps xb_Me_takeFirstSteps 3 none :: wT) { frames := 1, cells := 0, slots := 0, locals := 23 } (va_Pc [.ref (ad (20 + n) (10 + 10 * k))] (xPre D kA sz (rp ad E RL))) (va_Qv (fun (u : Nat → Nat → va_E) => ∃ fr2 : Nat → Option Nat, ∃ ga2 : Nat → Int32, ∃ gb2 : Nat → Int32, (RQX g kA ad u RL nd n d rs fr2 ∧ (∀ t, t < 72 → (BS ga2 t ↔ (BS ga t ∨ LSp g n d rs t))) ∧ ∀ t, t < 72 → (BS gb2 t ↔ (BS gb t ∨ CSp g n d rs t))) ∧ (u (20 + n) (11 + 10 * k) = .inl (kA 6, rs, .inr (.inr (.inr (.inr fr2))))) ∧ (u (20 + n) (15 + 10 * k) = .inl (kA 0, 6, .inl ga2)) ∧ (u (20 + n) (16 + 10 * k) = .inl (kA 0, 6, .inl gb2)) ∧ ((∀ b2 o2, ¬ (b2 = 20 + n ∧ o2 = 11 + 10 * k) → ¬ (b2 = 20 + n ∧ o2 = 15 + 10 * k) → ¬ (b2 = 20 + n ∧ o2 = 16 + 10 * k) → u b2 o2 = E b2 o2))) (fun (u : Nat → Nat → va_E) t => va_P D xcl (rp ad u RL) t.heap ∧ va_D (va_A (rp ad E RL) sz) (rp ad u RL)) (va_A (rp ad E RL) sz)) 0 0 (va_A (rp ad E RL) sz) := by
  refine Met.ofW (cc := xb_Me_takeFirstSteps) (maxL := 3) (ret := none) (by decide) rfl ?_
  intro p e s m args below meth c s₁ B hml hv
  obtain ⟨rfl, hsz, hP, hK, hD0⟩ := hv
  have hx := B.exec
  have hb := B.bytes
  have hr := B.returns
  have hT := x_hT B.pre
  have hown : s.vm.findClass xR_Me = some m.cls := findClass_of_methodNamed B.named
  have hlocks := B.notSynchronized
  subst hsz
  have hD := hD0.self (sz := s.heap.size)
  generalize hAe : va_A (rp ad E RL) s.heap.size = A at hD ⊢
  have hA : ∀ q : Nat, s.heap.size ≤ q → A q := fun q h => by rw [← hAe]; exact Or.inr h
  have hS : va_S A s.heap s.heap [] := va_S.rf
  have hl := lv_entry ([.ref (ad (20 + n) (10 + 10 * k))]) (n := 3) (Nat.le_of_ble_eq_true rfl)
  rw [lg_entry_eq]
  generalize (lg_sl ([.ref (ad (20 + n) (10 + 10 * k))]) ++ List.replicate (3 - (lg_sl ([.ref (ad (20 + n) (10 + 10 * k))])).length) Slot.unset).toArray = ls at hl ⊢
  have hl : lv_has ls 3 [(0, .ref (ad (20 + n) (10 + 10 * k)))] := hl
  have hP : va_P D xcl (rp ad E RL) s.heap := hP
  have hDIs0 := hDIs
  have hLIs0 := hLIs
  refine lv_iconst (v := 0) hx hb xd_Me_takeFirstSteps_0 (by decide) ?_
  refine lv_istore_n hx hb xd_Me_takeFirstSteps_1 rfl hl (Nat.le_of_ble_eq_true rfl) rfl (fun ls hl => ?_)
  have hl : lv_has ls 3 [(1, .int 0), (0, .ref (ad (20 + n) (10 + 10 * k)))] := hl
  refine xlab (σ := Nat × (Nat → Nat → va_E) × (Nat → Option Nat) × (Nat → Int32) × (Nat → Int32)) (ml := 3) 2 (fun (i, E1, fr1, ga1, gb1) => [(1, .int (nI i)), (0, .ref (ad (20 + n) (10 + 10 * k)))]) (fun (i, E1, fr1, ga1, gb1) => []) (fun (i, E1, fr1, ga1, gb1) => rp ad E1 RL) (fun (i, E1, fr1, ga1, gb1) => (i ≤ rs) ∧ (E1 (20 + n) (11 + 10 * k) = .inl (kA 6, rs, .inr (.inr (.inr (.inr fr1))))) ∧ (E1 (20 + n) (15 + 10 * k) = .inl (kA 0, 6, .inl ga1)) ∧ (E1 (20 + n) (16 + 10 * k) = .inl (kA 0, 6, .inl gb1)) ∧ (∀ b2 o2, ¬ (b2 = 20 + n ∧ o2 = 11 + 10 * k) → ¬ (b2 = 20 + n ∧ o2 = 15 + 10 * k) → ¬ (b2 = 20 + n ∧ o2 = 16 + 10 * k) → E1 b2 o2 = E b2 o2) ∧ (RQX g kA ad E1 RL nd n d i fr1) ∧ (∀ t, t < 72 → (BS ga1 t ↔ (BS ga t ∨ LSp g n d i t))) ∧ (∀ t, t < 72 → (BS gb1 t ↔ (BS gb t ∨ CSp g n d i t)))) (fun (i, E1, fr1, ga1, gb1) => rs - i) ?_ (0, E, fr, ga, gb) _ _ _ (lv_sub hl [0, 1] rfl) hP hD hS ⟨(show 0 ≤ rs from by first | assumption | omega), (show E (20 + n) (11 + 10 * k) = .inl (kA 6, rs, .inr (.inr (.inr (.inr fr)))) from yc1), (show E (20 + n) (15 + 10 * k) = .inl (kA 0, 6, .inl ga) from yc4), (show E (20 + n) (16 + 10 * k) = .inl (kA 0, 6, .inl gb) from yc5), (show ∀ b2 o2, ¬ (b2 = 20 + n ∧ o2 = 11 + 10 * k) → ¬ (b2 = 20 + n ∧ o2 = 15 + 10 * k) → ¬ (b2 = 20 + n ∧ o2 = 16 + 10 * k) → E b2 o2 = E b2 o2 from fun b2 o2 h09 h19 h29 => rfl), (show RQX g kA ad E RL nd n d 0 fr from fun j hj => absurd hj (by omega)), (show ∀ t, t < 72 → (BS ga t ↔ (BS ga t ∨ LSp g n d 0 t)) from fun t _ => ⟨Or.inl, fun q => q.elim id (fun z => absurd z LSp_0)⟩), (show ∀ t, t < 72 → (BS gb t ↔ (BS gb t ∨ CSp g n d 0 t)) from fun t _ => ⟨Or.inl, fun q => q.elim id (fun z => absurd z CSp_0)⟩)⟩
  intro n9 ih1 a9 ls H locs hμ hl hP hD hS hI
  subst hμ
  obtain ⟨i, E1, fr1, ga1, gb1⟩ := a9
  obtain ⟨hi, hcA1, hcA5, hcA6, hfr, hRQ, hL, hC⟩ := hI
  have hi : i ≤ rs := hi
  have hcA1 : E1 (20 + n) (11 + 10 * k) = .inl (kA 6, rs, .inr (.inr (.inr (.inr fr1)))) := hcA1
  have hcA5 : E1 (20 + n) (15 + 10 * k) = .inl (kA 0, 6, .inl ga1) := hcA5
  have hcA6 : E1 (20 + n) (16 + 10 * k) = .inl (kA 0, 6, .inl gb1) := hcA6
  have hfr : ∀ b2 o2, ¬ (b2 = 20 + n ∧ o2 = 11 + 10 * k) → ¬ (b2 = 20 + n ∧ o2 = 15 + 10 * k) → ¬ (b2 = 20 + n ∧ o2 = 16 + 10 * k) → E1 b2 o2 = E b2 o2 := hfr
  have hRQ : RQX g kA ad E1 RL nd n d i fr1 := hRQ
  have hL : ∀ t, t < 72 → (BS ga1 t ↔ (BS ga t ∨ LSp g n d i t)) := hL
  have hC : ∀ t, t < 72 → (BS gb1 t ↔ (BS gb t ∨ CSp g n d i t)) := hC
  have hl : lv_has ls 3 [(1, .int (nI i)), (0, .ref (ad (20 + n) (10 + 10 * k)))] := hl
  have hP : va_P D xcl (rp ad E1 RL) H := hP
  have hD : va_D A (rp ad E1 RL) := hD
  have hTD1 : TDs g E1 nd := TDs_same (fun d9 hd9 => fun2 fun o9 => hfr (1 + d9) o9 (by omega) (by omega) (by omega)) hTD
  have hTL1 : TLas g ad E1 nd nL := TLas_ro (fun n9 o9 hn9 ho9 => hfr (20 + n9) o9 (by omega) (by omega) (by omega)) hTL
  have hCB1 : CBs g E1 n := CBs_same (fun la o9 hla => hfr (20 + la) o9 (by omega) (by omega) (by omega)) hCB
  have hRU : RU kA E E1 := RU3 (b := 20 + n) (by omega) yc1 yc4 yc5 hcA1 hcA5 hcA6 hfr
  have hDIs := DIs_RU hRU hnd12 hDIs0
  have hLIs := LIs_RU hRU hLIs0
  have c_2 : E1 (20 + n) (10 + 10 * k) = .inr (6, [.ref (ad (20 + n) 0), .ref (ad (1 + d) 0), .ref (ad (20 + n) (11 + 10 * k)), .ref (ad (20 + n) (12 + 10 * k)), .ref (ad (20 + n) (13 + 10 * k)), .ref (ad (20 + n) (14 + 10 * k))]) := (hfr (20 + n) (10 + 10 * k) (by omega) (by omega) (by omega)).trans yc0
  have c_3 : E1 (20 + n) (12 + 10 * k) = .inr (10, [.ref (ad (20 + n) (15 + 10 * k))]) := (hfr (20 + n) (12 + 10 * k) (by omega) (by omega) (by omega)).trans yc2
  have c_4 : E1 (20 + n) (13 + 10 * k) = .inr (10, [.ref (ad (20 + n) (16 + 10 * k))]) := (hfr (20 + n) (13 + 10 * k) (by omega) (by omega) (by omega)).trans yc3
  refine lv_iload_n hx hb xd_Me_takeFirstSteps_2 rfl (lv_at hl 0 rfl) ?_
  refine lv_aload_n hx hb xd_Me_takeFirstSteps_3 rfl (lv_at hl 1 rfl) ?_
  refine px_get (D := D) (ci := 6) (v := .ref (ad (20 + n) (11 + 10 * k))) (C := xR_Me) (T := xT_Me) (N := 6) hx hb hT xi_Me hown hK.1 hP ym0 c_2 rfl 2 (by decide) (hT _ k5s_0) (fun _ h9 => h9) rfl xd_Me_takeFirstSteps_4 ?_
  refine px_alen hx hb hK.1 hP ym1 hcA1 6 rfl xd_Me_takeFirstSteps_7 ?_
  refine W.eq (g2 := F0 m 8 ls [.int (nI rs), .int (nI i)]) rfl ?_
  refine xn_ge (a := i) (b := rs) (tgt := 113) hx hb xd_Me_takeFirstSteps_8 (by decide) (by omega) (by omega) (fun hc5 => ?_) (fun hc5 => ?_)
  · exact W.vret hx hb hr (fun t ht hW => ⟨⟨E1, rfl, ⟨fr1, ga1, gb1, (by rw [show rs = i by omega]; exact ⟨hRQ, hL, hC⟩), hcA1, hcA5, hcA6, (fun b2 o2 h09 h19 h29 => by show E1 b2 o2 = _; rw [hfr b2 o2 (by omega) (by omega) (by omega)])⟩, by rw [ht]; exact hP, hD⟩, hS.F ht⟩) hS.2.2 xd_Me_takeFirstSteps_113
  · refine lv_aload_n hx hb xd_Me_takeFirstSteps_11 rfl (lv_at hl 1 rfl) ?_
    refine px_get (D := D) (ci := 6) (v := .ref (ad (20 + n) 0)) (C := xR_Me) (T := xT_Me) (N := 6) hx hb hT xi_Me hown hK.1 hP ym0 c_2 rfl 0 (by decide) (hT _ k5s_1) (fun _ h9 => h9) rfl xd_Me_takeFirstSteps_12 ?_
    refine lv_aload_n hx hb xd_Me_takeFirstSteps_15 rfl (lv_at hl 1 rfl) ?_
    refine px_get (D := D) (ci := 6) (v := .ref (ad (1 + d) 0)) (C := xR_Me) (T := xT_Me) (N := 6) hx hb hT xi_Me hown hK.1 hP ym0 c_2 rfl 1 (by decide) (hT _ k5s_2) (fun _ h9 => h9) rfl xd_Me_takeFirstSteps_16 ?_
    obtain ⟨hm_6, fd_6, nm_6, sd_6, k0_6, k1_6, k2_6, k3_6, f0_6, f1_6, f2_6, f3_6, fe_6, fo_6, tr_6, op_6, hk0_6, hk1_6, hk2_6, hk3_6, q0_6, q1_6, q2_6, q3_6, q4_6, q5_6, q6_6, q7_6, q8_6, q9_6, q10_6, q11_6, q12_6, hg_6⟩ := id (hDIs d (by omega))
    have c_7 : E1 (1 + d) 0 = .inr (7, [.int (nI d), .int fd_6, .int nm_6, .ref (ad (1 + d) 1), .ref (ad (1 + d) 9), .ref (ad (1 + d) 10), .ref (ad (1 + d) 2), .ref (ad (1 + d) 11), .ref (ad (1 + d) 12), .ref (ad (1 + d) 3), .ref (ad (1 + d) 4), .int sd_6]) := q0_6
    have m_8 : (1 + d, 0) ∈ RL := hm_6 0 (by omega)
    have c_9 : E1 (1 + d) 1 = .inr (8, [.ref (ad (1 + d) 5), .int (nI k0_6)]) := q1_6
    have m_10 : (1 + d, 1) ∈ RL := hm_6 1 (by omega)
    have c_11 : E1 (1 + d) 2 = .inr (8, [.ref (ad (1 + d) 6), .int (nI k1_6)]) := q2_6
    have m_12 : (1 + d, 2) ∈ RL := hm_6 2 (by omega)
    have c_13 : E1 (1 + d) 3 = .inr (8, [.ref (ad (1 + d) 7), .int (nI k2_6)]) := q3_6
    have m_14 : (1 + d, 3) ∈ RL := hm_6 3 (by omega)
    have c_15 : E1 (1 + d) 4 = .inr (8, [.ref (ad (1 + d) 8), .int (nI k3_6)]) := q4_6
    have m_16 : (1 + d, 4) ∈ RL := hm_6 4 (by omega)
    have c_17 : E1 (1 + d) 5 = .inl (kA 0, 6, .inl f0_6) := q5_6
    have m_18 : (1 + d, 5) ∈ RL := hm_6 5 (by omega)
    have c_19 : E1 (1 + d) 6 = .inl (kA 0, 5, .inl f1_6) := q6_6
    have m_20 : (1 + d, 6) ∈ RL := hm_6 6 (by omega)
    have c_21 : E1 (1 + d) 7 = .inl (kA 0, 3, .inl f2_6) := q7_6
    have m_22 : (1 + d, 7) ∈ RL := hm_6 7 (by omega)
    have c_23 : E1 (1 + d) 8 = .inl (kA 0, 3, .inl f3_6) := q8_6
    have m_24 : (1 + d, 8) ∈ RL := hm_6 8 (by omega)
    have c_25 : E1 (1 + d) 9 = .inl (kA 8, 6, .inr (.inr (.inr (.inr fe_6)))) := q9_6
    have m_26 : (1 + d, 9) ∈ RL := hm_6 9 (by omega)
    have c_27 : E1 (1 + d) 10 = .inl (kA 8, 6, .inr (.inr (.inr (.inr fo_6)))) := q10_6
    have m_28 : (1 + d, 10) ∈ RL := hm_6 10 (by omega)
    have c_29 : E1 (1 + d) 11 = .inl (kA 2, 5, .inl tr_6) := q11_6
    have m_30 : (1 + d, 11) ∈ RL := hm_6 11 (by omega)
    have c_31 : E1 (1 + d) 12 = .inl (kA 2, 5, .inl op_6) := q12_6
    have m_32 : (1 + d, 12) ∈ RL := hm_6 12 (by omega)
    have hg_6 : ∀ w9, w9 < k0_6 → fe_6 w9 = some (ad (1 + d) (20 + 3 * w9)) ∧ fo_6 w9 = some (ad (1 + d) (38 + 3 * w9)) ∧ GI kA (ad (1 + d)) (E1 (1 + d)) (fun o => (1 + d, o) ∈ RL) (20 + 3 * w9) (21 + 3 * w9) (22 + 3 * w9) ∧ GI kA (ad (1 + d)) (E1 (1 + d)) (fun o => (1 + d, o) ∈ RL) (38 + 3 * w9) (39 + 3 * w9) (40 + 3 * w9) := hg_6
    obtain ⟨hTT_6, tgr_6⟩ := TD_get hk0_6 hk1_6 hk2_6 hk3_6 c_7 c_9 c_11 c_13 c_15 c_17 c_19 c_21 c_23 c_29 c_31 (hTD1 d (by omega))
    obtain ⟨tfd_6, tnm_6, tsd_6, tk0_6, tf0_6, tk1_6, tf1_6, tk2_6, tk3_6⟩ := id hTT_6
    have ik0_6 : iN (g 5 d) = k0_6 := by rw [← tk0_6, iN_nI (by omega)]
    have ik1_6 : iN (g 12 d) = k1_6 := by rw [← tk1_6, iN_nI (by omega)]
    refine px_get (D := D) (ci := 7) (v := .ref (ad (1 + d) 2)) (C := xR_Ds) (T := xT_Ds) (N := 12) hx hb hT xi_Ds hown hK.1 hP m_8 c_7 rfl 6 (by decide) (hT _ k5s_3) (fun _ h9 => h9) rfl xd_Me_takeFirstSteps_19 ?_
    refine lv_iload_n hx hb xd_Me_takeFirstSteps_22 rfl (lv_at hl 0 rfl) ?_
    have hFc := px_free hD hS hA
    refine va_calli (va_runV (As := [.int (nI i)]) (rest := [.ref (ad (20 + n) 0)]) ⟨hx, hb, hml, hown, hT⟩ (xc_Na_at l D kA H.size ad E1 RL (1 + d) 2 6 5 k1_6 f1_6 i m_12 c_11 m_20 c_19 (by first | assumption | omega) (by first | assumption | omega) (by first | assumption | omega)) (cwV 1 hT (wT_V k5s_5 k5s_6 k5s_7 k5s_8 k5s_4) rfl rfl rfl (by decide +kernel) ⟨Nat.le_of_ble_eq_true rfl, Nat.le_of_ble_eq_true rfl⟩) (px_preV hK hP hD m_12 c_11 rfl) rfl rfl hl.1 rfl (lv_room (Nat.le_of_ble_eq_true rfl)) xd_Me_takeFirstSteps_23 ⟨(Nat.le_of_ble_eq_true rfl), (Nat.le_of_ble_eq_true rfl)⟩) hS (fun q _ h => hFc q h) hFc (fun r33 u34 t H1 locs ht hvm hp35 hB hz1 hk1 hS => ?_)
    obtain ⟨hP1, hD1⟩ := hB
    rw [ht] at hP1
    have hD1 := hD1.weaken (fun _ _ _ h => hFc _ h)
    generalize H1 = H at hP1 hS ⊢
    have hP := hP1
    have hD := hD1
    have hP : va_P D xcl (rp ad E1 RL) H := hP
    have hD : va_D A (rp ad E1 RL) := hD
    have hp35 : r33 = g 13 (5 * d + i) := by
      rcases hp35 with ⟨q, q2⟩ | ⟨q, _⟩
      · rw [q2]; exact (tf1_6 i q).1
      · have q3 : k1_6 = rs := nI_inj (by omega) (by omega) (tk1_6.trans hrsd)
        omega
    subst hp35
    have hP : va_P D xcl (rp ad E1 RL) H := hP
    have hD : va_D A (rp ad E1 RL) := hD
    have hk1r : k1_6 = rs := nI_inj (by omega) (by omega) (tk1_6.trans hrsd)
    have hti9 := tf1_6 i (by omega)
    have hFc := px_free hD hS hA
    obtain ⟨m0_36, m1_36, pv_36, op_36, mk_36, fm_36, hmk_36, hpv_36, q0_36, q1_36, hk_36⟩ := id (hLIs n (by omega))
    have c_37 : E1 (20 + n) 0 = .inr (5, [.int (nI n), pv_36, .ref (ad (20 + n) 1), .int op_36]) := q0_36
    have m_38 : (20 + n, 0) ∈ RL := m0_36
    have c_39 : E1 (20 + n) 1 = .inl (kA 6, mk_36, .inr (.inr (.inr (.inr fm_36)))) := q1_36
    have m_40 : (20 + n, 1) ∈ RL := m1_36
    obtain ⟨top_36, ⟨lq_36, hlq_36, h19_36, hpv2_36⟩, h20_36, tmd_36⟩ := TLa_get c_37 c_39 (hTL1 n (by omega))
    have c_41 : E1 (20 + n) 0 = .inr (5, [.int (nI n), (lyv ad lq_36), .ref (ad (20 + n) 1), .int op_36]) := by rw [← hpv2_36]; exact c_37
    have i20_36 : iN (g 20 n) = mk_36 := by rw [h20_36, iN_nI (by omega)]
    refine va_callq (va_runV (As := [.int (g 13 (5 * d + i))]) (rest := []) ⟨hx, hb, hml, hown, hT⟩ (xc_Ly_lookUpX l D kA H.size ad E1 RL g nd nL n (g 13 (5 * d + i)) (by first | assumption | omega) (by first | assumption | omega) (by first | assumption | omega) (by first | assumption | omega) hTD1 hTL1 (by first | assumption | omega)) (cwV 1 hT (wT_V k5s_10 k5s_11 k5s_12 k5s_13 k5s_9) rfl rfl rfl (by decide +kernel) ⟨Nat.le_of_ble_eq_true rfl, Nat.le_of_ble_eq_true rfl⟩) (px_preV hK hP hD m_38 c_41 rfl) rfl rfl hl.1 rfl (lv_room (Nat.le_of_ble_eq_true rfl)) xd_Me_takeFirstSteps_26 ⟨(Nat.le_of_ble_eq_true rfl), (Nat.le_of_ble_eq_true rfl)⟩) hS (fun q _ h => hFc q h) hFc (fun r42 u43 t H1 locs ht hvm hp44 hB hz1 hk1 hS => ?_)
    obtain ⟨hP1, hD1⟩ := hB
    rw [ht] at hP1
    have hD1 := hD1.weaken (fun _ _ _ h => hFc _ h)
    generalize H1 = H at hP1 hS ⊢
    have hP := hP1
    have hD := hD1
    have hP : va_P D xcl (rp ad E1 RL) H := hP
    have hD : va_D A (rp ad E1 RL) := hD
    rcases hp44 with ⟨rfl, z45⟩ | ⟨z46, z47, z48, rfl, z49, z50, z51⟩
    · have hlk9 : lkG g (n + 1) (g 13 (5 * d + i)) = none := z45
      refine W.eq (g2 := F0 m 29 ls [.null]) rfl ?_
      refine lv_astore_nN hx hb xd_Me_takeFirstSteps_29 rfl hl (Nat.le_of_ble_eq_true rfl) rfl (fun ls hl => ?_)
      have hl : lv_has ls 3 [(2, .null), (1, .int (nI i)), (0, .ref (ad (20 + n) (10 + 10 * k)))] := hl
      refine lv_aload_n hx hb xd_Me_takeFirstSteps_30 rfl (lv_at hl 2 rfl) ?_
      refine px_get (D := D) (ci := 6) (v := .ref (ad (20 + n) (11 + 10 * k))) (C := xR_Me) (T := xT_Me) (N := 6) hx hb hT xi_Me hown hK.1 hP ym0 c_2 rfl 2 (by decide) (hT _ k5s_0) (fun _ h9 => h9) rfl xd_Me_takeFirstSteps_31 ?_
      refine lv_iload_n hx hb xd_Me_takeFirstSteps_34 rfl (lv_at hl 1 rfl) ?_
      refine lv_aload_nN hx hb xd_Me_takeFirstSteps_35 rfl (lv_at hl 0 rfl) ?_
      refine px_aastN (i := i) hx hb hK.1 hP hD hS ym1 hcA1 6 rfl (by omega) (by omega) xd_Me_takeFirstSteps_36 (fun H locs hP hD hS => ?_)
      have hP : va_P D xcl (rp ad (up2 E1 (20 + n) (11 + 10 * k) (.inl (kA 6, rs, .inr (.inr (.inr (.inr (va_up fr1 i none))))))) RL) H := hP
      have hD : va_D A (rp ad (up2 E1 (20 + n) (11 + 10 * k) (.inl (kA 6, rs, .inr (.inr (.inr (.inr (va_up fr1 i none))))))) RL) := hD
      generalize hE53 : up2 E1 (20 + n) (11 + 10 * k) (.inl (kA 6, rs, .inr (.inr (.inr (.inr (va_up fr1 i none)))))) = E52 at hP hD
      have fE54 : ∀ b2 o2, ¬ (b2 = 20 + n ∧ o2 = 11 + 10 * k) → E52 b2 o2 = E1 b2 o2 := fun b2 o2 h9 => by rw [← hE53]; exact up2_ne (by omega)
      have c_55 : E52 (20 + n) (11 + 10 * k) = .inl (kA 6, rs, .inr (.inr (.inr (.inr (va_up fr1 i none))))) := by rw [← hE53]; exact up2_eq
      have c_56 : E52 (20 + n) (15 + 10 * k) = .inl (kA 0, 6, .inl ga1) := (fE54 (20 + n) (15 + 10 * k) (by omega)).trans hcA5
      have c_57 : E52 (20 + n) (16 + 10 * k) = .inl (kA 0, 6, .inl gb1) := (fE54 (20 + n) (16 + 10 * k) (by omega)).trans hcA6
      have c_58 : E52 (20 + n) (10 + 10 * k) = .inr (6, [.ref (ad (20 + n) 0), .ref (ad (1 + d) 0), .ref (ad (20 + n) (11 + 10 * k)), .ref (ad (20 + n) (12 + 10 * k)), .ref (ad (20 + n) (13 + 10 * k)), .ref (ad (20 + n) (14 + 10 * k))]) := (fE54 (20 + n) (10 + 10 * k) (by omega)).trans c_2
      have c_59 : E52 (20 + n) (12 + 10 * k) = .inr (10, [.ref (ad (20 + n) (15 + 10 * k))]) := (fE54 (20 + n) (12 + 10 * k) (by omega)).trans c_3
      have c_60 : E52 (20 + n) (13 + 10 * k) = .inr (10, [.ref (ad (20 + n) (16 + 10 * k))]) := (fE54 (20 + n) (13 + 10 * k) (by omega)).trans c_4
      have c_61 : E52 (1 + d) 0 = .inr (7, [.int (nI d), .int fd_6, .int nm_6, .ref (ad (1 + d) 1), .ref (ad (1 + d) 9), .ref (ad (1 + d) 10), .ref (ad (1 + d) 2), .ref (ad (1 + d) 11), .ref (ad (1 + d) 12), .ref (ad (1 + d) 3), .ref (ad (1 + d) 4), .int sd_6]) := (fE54 (1 + d) 0 (by omega)).trans c_7
      have c_62 : E52 (1 + d) 11 = .inl (kA 2, 5, .inl tr_6) := (fE54 (1 + d) 11 (by omega)).trans c_29
      have c_63 : E52 (1 + d) 12 = .inl (kA 2, 5, .inl op_6) := (fE54 (1 + d) 12 (by omega)).trans c_31
      have c_64 : E52 (20 + n) 0 = .inr (5, [.int (nI n), (lyv ad lq_36), .ref (ad (20 + n) 1), .int op_36]) := (fE54 (20 + n) 0 (by omega)).trans c_41
      refine lv_aload_nN hx hb xd_Me_takeFirstSteps_37 rfl (lv_at hl 0 rfl) ?_
      refine lv_ifnullN (tgt := 61) hx hb xd_Me_takeFirstSteps_38 (by decide) ?_
      refine lv_aload_nN hx hb xd_Me_takeFirstSteps_61 rfl (lv_at hl 0 rfl) ?_
      refine lv_ifnullN (tgt := 107) hx hb xd_Me_takeFirstSteps_62 (by decide) ?_
      refine lv_iinc (k := 1) (x := (nI i)) (v := (nI (i + 1))) hx hb xd_Me_takeFirstSteps_107 hl rfl (xb_inc i 1) (Nat.le_of_ble_eq_true rfl) rfl (fun ls hl => ?_)
      have hl : lv_has ls 3 [(1, .int (nI (i + 1))), (2, .null), (0, .ref (ad (20 + n) (10 + 10 * k)))] := hl
      refine lv_goto (tgt := 2) hx hb xd_Me_takeFirstSteps_110 (by decide) ?_
      exact ih1 (i + 1, E52, (va_up fr1 i none), ga1, gb1) _ _ _ (show rs - (i + 1) < rs - i by omega) (lv_sub hl [0, 2] rfl) hP hD hS ⟨(show (i + 1) ≤ rs from by first | assumption | omega), (show E52 (20 + n) (11 + 10 * k) = .inl (kA 6, rs, .inr (.inr (.inr (.inr (va_up fr1 i none))))) from c_55), (show E52 (20 + n) (15 + 10 * k) = .inl (kA 0, 6, .inl ga1) from c_56), (show E52 (20 + n) (16 + 10 * k) = .inl (kA 0, 6, .inl gb1) from c_57), (show ∀ b2 o2, ¬ (b2 = 20 + n ∧ o2 = 11 + 10 * k) → ¬ (b2 = 20 + n ∧ o2 = 15 + 10 * k) → ¬ (b2 = 20 + n ∧ o2 = 16 + 10 * k) → E52 b2 o2 = E b2 o2 from fun b2 o2 h09 h19 h29 => by rw [fE54 b2 o2 (by omega), hfr b2 o2 (by omega) (by omega) (by omega)]), (show RQX g kA ad E52 RL nd n d (i + 1) (va_up fr1 i none) from RQX_RU (RU3 (b := 20 + n) (by omega) hcA1 hcA5 hcA6 c_55 c_56 c_57 (fun b2 o2 h19 h29 h39 => by rw [fE54 b2 o2 (by omega)])) (RQX_addN hlk9 hRQ)), (show ∀ t, t < 72 → (BS ga1 t ↔ (BS ga t ∨ LSp g n d (i + 1) t)) from fun t ht => by rw [hL t ht, LSp_n (Or.inr hlk9)]), (show ∀ t, t < 72 → (BS gb1 t ↔ (BS gb t ∨ CSp g n d (i + 1) t)) from fun t ht => by rw [hC t ht, CSp_n (Or.inr hlk9)])⟩
    · refine W.eq (g2 := F0 m 29 ls [.ref (ad (20 + z46) (10 + 10 * z47))]) rfl ?_
      refine lv_astore_n hx hb xd_Me_takeFirstSteps_29 rfl hl (Nat.le_of_ble_eq_true rfl) rfl (fun ls hl => ?_)
      have hl : lv_has ls 3 [(2, .ref (ad (20 + z46) (10 + 10 * z47))), (1, .int (nI i)), (0, .ref (ad (20 + n) (10 + 10 * k)))] := hl
      by_cases hxk : z46 = n ∧ z47 = k
      · obtain ⟨hxk1, hxk2⟩ := hxk
        rw [hxk1, hxk2] at hl
        have hl : lv_has ls 3 [(2, .ref (ad (20 + n) (10 + 10 * k))), (1, .int (nI i)), (0, .ref (ad (20 + n) (10 + 10 * k)))] := hl
        rw [hxk1, hxk2] at z49
        have hlk9 : lkG g (n + 1) (g 13 (5 * d + i)) = some (n, d) := by have q := z51; rw [hxk1, hxk2, hdk] at q; exact q
        refine lv_aload_n hx hb xd_Me_takeFirstSteps_30 rfl (lv_at hl 2 rfl) ?_
        refine px_get (D := D) (ci := 6) (v := .ref (ad (20 + n) (11 + 10 * k))) (C := xR_Me) (T := xT_Me) (N := 6) hx hb hT xi_Me hown hK.1 hP ym0 c_2 rfl 2 (by decide) (hT _ k5s_0) (fun _ h9 => h9) rfl xd_Me_takeFirstSteps_31 ?_
        refine lv_iload_n hx hb xd_Me_takeFirstSteps_34 rfl (lv_at hl 1 rfl) ?_
        refine lv_aload_n hx hb xd_Me_takeFirstSteps_35 rfl (lv_at hl 0 rfl) ?_
        refine px_aast (i := i) (r := (xR_Me, xT_Me, 6)) hx hb hK.1 hP hD hS ym1 hcA1 6 rfl ym0 c_2 rfl (by omega) (by omega) xd_Me_takeFirstSteps_36 (fun H locs hP hD hS => ?_)
        have hP : va_P D xcl (rp ad (up2 E1 (20 + n) (11 + 10 * k) (.inl (kA 6, rs, .inr (.inr (.inr (.inr (va_up fr1 i (some (ad (20 + n) (10 + 10 * k)))))))))) RL) H := hP
        have hD : va_D A (rp ad (up2 E1 (20 + n) (11 + 10 * k) (.inl (kA 6, rs, .inr (.inr (.inr (.inr (va_up fr1 i (some (ad (20 + n) (10 + 10 * k)))))))))) RL) := hD
        generalize hE66 : up2 E1 (20 + n) (11 + 10 * k) (.inl (kA 6, rs, .inr (.inr (.inr (.inr (va_up fr1 i (some (ad (20 + n) (10 + 10 * k))))))))) = E65 at hP hD
        have fE67 : ∀ b2 o2, ¬ (b2 = 20 + n ∧ o2 = 11 + 10 * k) → E65 b2 o2 = E1 b2 o2 := fun b2 o2 h9 => by rw [← hE66]; exact up2_ne (by omega)
        have c_68 : E65 (20 + n) (11 + 10 * k) = .inl (kA 6, rs, .inr (.inr (.inr (.inr (va_up fr1 i (some (ad (20 + n) (10 + 10 * k)))))))) := by rw [← hE66]; exact up2_eq
        have c_69 : E65 (20 + n) (15 + 10 * k) = .inl (kA 0, 6, .inl ga1) := (fE67 (20 + n) (15 + 10 * k) (by omega)).trans hcA5
        have c_70 : E65 (20 + n) (16 + 10 * k) = .inl (kA 0, 6, .inl gb1) := (fE67 (20 + n) (16 + 10 * k) (by omega)).trans hcA6
        have c_71 : E65 (20 + n) (10 + 10 * k) = .inr (6, [.ref (ad (20 + n) 0), .ref (ad (1 + d) 0), .ref (ad (20 + n) (11 + 10 * k)), .ref (ad (20 + n) (12 + 10 * k)), .ref (ad (20 + n) (13 + 10 * k)), .ref (ad (20 + n) (14 + 10 * k))]) := (fE67 (20 + n) (10 + 10 * k) (by omega)).trans c_2
        have c_72 : E65 (20 + n) (12 + 10 * k) = .inr (10, [.ref (ad (20 + n) (15 + 10 * k))]) := (fE67 (20 + n) (12 + 10 * k) (by omega)).trans c_3
        have c_73 : E65 (20 + n) (13 + 10 * k) = .inr (10, [.ref (ad (20 + n) (16 + 10 * k))]) := (fE67 (20 + n) (13 + 10 * k) (by omega)).trans c_4
        have c_74 : E65 (1 + d) 0 = .inr (7, [.int (nI d), .int fd_6, .int nm_6, .ref (ad (1 + d) 1), .ref (ad (1 + d) 9), .ref (ad (1 + d) 10), .ref (ad (1 + d) 2), .ref (ad (1 + d) 11), .ref (ad (1 + d) 12), .ref (ad (1 + d) 3), .ref (ad (1 + d) 4), .int sd_6]) := (fE67 (1 + d) 0 (by omega)).trans c_7
        have c_75 : E65 (1 + d) 11 = .inl (kA 2, 5, .inl tr_6) := (fE67 (1 + d) 11 (by omega)).trans c_29
        have c_76 : E65 (1 + d) 12 = .inl (kA 2, 5, .inl op_6) := (fE67 (1 + d) 12 (by omega)).trans c_31
        have c_77 : E65 (20 + n) 0 = .inr (5, [.int (nI n), (lyv ad lq_36), .ref (ad (20 + n) 1), .int op_36]) := (fE67 (20 + n) 0 (by omega)).trans c_41
        refine lv_aload_n hx hb xd_Me_takeFirstSteps_37 rfl (lv_at hl 0 rfl) ?_
        refine lv_ifnull hx hb xd_Me_takeFirstSteps_38 ?_
        refine lv_aload_n hx hb xd_Me_takeFirstSteps_41 rfl (lv_at hl 2 rfl) ?_
        refine px_get (D := D) (ci := 6) (v := .ref (ad (1 + d) 0)) (C := xR_Me) (T := xT_Me) (N := 6) hx hb hT xi_Me hown hK.1 hP ym0 c_71 rfl 1 (by decide) (hT _ k5s_2) (fun _ h9 => h9) rfl xd_Me_takeFirstSteps_42 ?_
        refine px_get (D := D) (ci := 7) (v := .ref (ad (1 + d) 12)) (C := xR_Ds) (T := xT_Ds) (N := 12) hx hb hT xi_Ds hown hK.1 hP m_8 c_74 rfl 8 (by decide) (hT _ k5s_14) (fun _ h9 => h9) rfl xd_Me_takeFirstSteps_45 ?_
        refine lv_iload_n hx hb xd_Me_takeFirstSteps_48 rfl (lv_at hl 1 rfl) ?_
        refine px_zald (i := i) hx hb hK.1 hP m_32 c_76 2 rfl (by omega) (by decide) xd_Me_takeFirstSteps_49 ?_
        refine lv_if_ne (tgt := 61) hx hb xd_Me_takeFirstSteps_50 (by decide) (fun hc78 => ?_) (fun hc78 => ?_)
        · refine lv_aload_n hx hb xd_Me_takeFirstSteps_61 rfl (lv_at hl 0 rfl) ?_
          refine lv_ifnull hx hb xd_Me_takeFirstSteps_62 ?_
          refine lv_aload_n hx hb xd_Me_takeFirstSteps_65 rfl (lv_at hl 2 rfl) ?_
          refine px_get (D := D) (ci := 6) (v := .ref (ad (1 + d) 0)) (C := xR_Me) (T := xT_Me) (N := 6) hx hb hT xi_Me hown hK.1 hP ym0 c_71 rfl 1 (by decide) (hT _ k5s_2) (fun _ h9 => h9) rfl xd_Me_takeFirstSteps_66 ?_
          refine px_get (D := D) (ci := 7) (v := .ref (ad (1 + d) 11)) (C := xR_Ds) (T := xT_Ds) (N := 12) hx hb hT xi_Ds hown hK.1 hP m_8 c_74 rfl 7 (by decide) (hT _ k5s_15) (fun _ h9 => h9) rfl xd_Me_takeFirstSteps_69 ?_
          refine lv_iload_n hx hb xd_Me_takeFirstSteps_72 rfl (lv_at hl 1 rfl) ?_
          refine px_zald (i := i) hx hb hK.1 hP m_30 c_75 2 rfl (by omega) (by decide) xd_Me_takeFirstSteps_73 ?_
          refine lv_if_eq (tgt := 107) hx hb xd_Me_takeFirstSteps_74 (by decide) (fun hc79 => ?_) (fun hc79 => ?_)
          · refine lv_iinc (k := 1) (x := (nI i)) (v := (nI (i + 1))) hx hb xd_Me_takeFirstSteps_107 hl rfl (xb_inc i 1) (Nat.le_of_ble_eq_true rfl) rfl (fun ls hl => ?_)
            have hl : lv_has ls 3 [(1, .int (nI (i + 1))), (2, .ref (ad (20 + n) (10 + 10 * k))), (0, .ref (ad (20 + n) (10 + 10 * k)))] := hl
            refine lv_goto (tgt := 2) hx hb xd_Me_takeFirstSteps_110 (by decide) ?_
            exact ih1 (i + 1, E65, (va_up fr1 i (some (ad (20 + n) (10 + 10 * k)))), ga1, gb1) _ _ _ (show rs - (i + 1) < rs - i by omega) (lv_sub hl [0, 2] rfl) hP hD hS ⟨(show (i + 1) ≤ rs from by first | assumption | omega), (show E65 (20 + n) (11 + 10 * k) = .inl (kA 6, rs, .inr (.inr (.inr (.inr (va_up fr1 i (some (ad (20 + n) (10 + 10 * k)))))))) from c_68), (show E65 (20 + n) (15 + 10 * k) = .inl (kA 0, 6, .inl ga1) from c_69), (show E65 (20 + n) (16 + 10 * k) = .inl (kA 0, 6, .inl gb1) from c_70), (show ∀ b2 o2, ¬ (b2 = 20 + n ∧ o2 = 11 + 10 * k) → ¬ (b2 = 20 + n ∧ o2 = 15 + 10 * k) → ¬ (b2 = 20 + n ∧ o2 = 16 + 10 * k) → E65 b2 o2 = E b2 o2 from fun b2 o2 h09 h19 h29 => by rw [fE67 b2 o2 (by omega), hfr b2 o2 (by omega) (by omega) (by omega)]), (show RQX g kA ad E65 RL nd n d (i + 1) (va_up fr1 i (some (ad (20 + n) (10 + 10 * k)))) from RQX_RU (RU3 (b := 20 + n) (by omega) hcA1 hcA5 hcA6 c_68 c_69 c_70 (fun b2 o2 h19 h29 h39 => by rw [fE67 b2 o2 (by omega)])) (RQX_add (Nat.le_refl _) z49 hkm (by rw [hdk]; exact hlk9) hRQ)), (show ∀ t, t < 72 → (BS ga1 t ↔ (BS ga t ∨ LSp g n d (i + 1) t)) from fun t ht => by rw [hL t ht, LSp_n (Or.inl (by rw [← hti9.2.2]; exact hc78))]), (show ∀ t, t < 72 → (BS gb1 t ↔ (BS gb t ∨ CSp g n d (i + 1) t)) from fun t ht => by rw [hC t ht, CSp_n (Or.inl (by rw [← hti9.2.1]; exact hc79))])⟩
          · refine lv_aload_n hx hb xd_Me_takeFirstSteps_77 rfl (lv_at hl 2 rfl) ?_
            refine px_get (D := D) (ci := 6) (v := .ref (ad (20 + n) (13 + 10 * k))) (C := xR_Me) (T := xT_Me) (N := 6) hx hb hT xi_Me hown hK.1 hP ym0 c_71 rfl 4 (by decide) (hT _ k5s_16) (fun _ h9 => h9) rfl xd_Me_takeFirstSteps_78 ?_
            refine lv_aload_n hx hb xd_Me_takeFirstSteps_81 rfl (lv_at hl 0 rfl) ?_
            have hFc := px_free hD hS hA
            refine va_callv (va_runV (As := [.ref (ad (20 + n) (10 + 10 * k))]) (rest := []) ⟨hx, hb, hml, hown, hT⟩ (xc_Re_mark l D kA H.size ad E65 RL (20 + n) (13 + 10 * k) (16 + 10 * k) gb1 n k d (lyv ad lq_36) op_36 fd_6 nm_6 sd_6 ym3 c_73 ym5 c_70 ym0 c_71 m_38 c_77 m_8 c_74 (by first | assumption | omega) (by first | assumption | omega) (by first | assumption | omega)) (cwV 1 hT (wT_V k5s_18 k5s_19 k5s_20 k5s_21 k5s_17) rfl rfl rfl (by decide +kernel) ⟨Nat.le_of_ble_eq_true rfl, Nat.le_of_ble_eq_true rfl⟩) (px_preV hK hP hD ym3 c_73 rfl) rfl rfl hl.1 rfl (lv_room (Nat.le_of_ble_eq_true rfl)) xd_Me_takeFirstSteps_82 ⟨(Nat.le_of_ble_eq_true rfl), (Nat.le_of_ble_eq_true rfl)⟩) hS (fun q _ h => hFc q h) hFc (fun u81 t H1 locs ht hvm hp82 hB hz1 hk1 hS => ?_)
            obtain ⟨hP1, hD1⟩ := hB
            rw [ht] at hP1
            have hD1 := hD1.weaken (fun _ _ _ h => hFc _ h)
            generalize H1 = H at hP1 hS ⊢
            have hP := hP1
            have hD := hD1
            obtain ⟨E83, rfl⟩ : ∃ z, z = u81 := ⟨_, rfl⟩
            obtain ⟨w84, hp87, p_85, p_86⟩ := hp82
            have p_85 : E83 (20 + n) (16 + 10 * k) = .inl (kA 0, 6, .inl w84) := p_85
            have p_86 : (∀ b2 o2, ¬ (b2 = (20 + n) ∧ o2 = (16 + 10 * k)) → E83 b2 o2 = E65 b2 o2) := p_86
            have c_88 : E83 (20 + n) (11 + 10 * k) = .inl (kA 6, rs, .inr (.inr (.inr (.inr (va_up fr1 i (some (ad (20 + n) (10 + 10 * k)))))))) := (p_86 (20 + n) (11 + 10 * k) (by omega)).trans c_68
            have c_89 : E83 (20 + n) (15 + 10 * k) = .inl (kA 0, 6, .inl ga1) := (p_86 (20 + n) (15 + 10 * k) (by omega)).trans c_69
            have c_90 : E83 (20 + n) (10 + 10 * k) = .inr (6, [.ref (ad (20 + n) 0), .ref (ad (1 + d) 0), .ref (ad (20 + n) (11 + 10 * k)), .ref (ad (20 + n) (12 + 10 * k)), .ref (ad (20 + n) (13 + 10 * k)), .ref (ad (20 + n) (14 + 10 * k))]) := (p_86 (20 + n) (10 + 10 * k) (by omega)).trans c_71
            have c_91 : E83 (20 + n) (12 + 10 * k) = .inr (10, [.ref (ad (20 + n) (15 + 10 * k))]) := (p_86 (20 + n) (12 + 10 * k) (by omega)).trans c_72
            have c_92 : E83 (20 + n) (13 + 10 * k) = .inr (10, [.ref (ad (20 + n) (16 + 10 * k))]) := (p_86 (20 + n) (13 + 10 * k) (by omega)).trans c_73
            have c_93 : E83 (1 + d) 0 = .inr (7, [.int (nI d), .int fd_6, .int nm_6, .ref (ad (1 + d) 1), .ref (ad (1 + d) 9), .ref (ad (1 + d) 10), .ref (ad (1 + d) 2), .ref (ad (1 + d) 11), .ref (ad (1 + d) 12), .ref (ad (1 + d) 3), .ref (ad (1 + d) 4), .int sd_6]) := (p_86 (1 + d) 0 (by omega)).trans c_74
            have c_94 : E83 (1 + d) 11 = .inl (kA 2, 5, .inl tr_6) := (p_86 (1 + d) 11 (by omega)).trans c_75
            have c_95 : E83 (1 + d) 12 = .inl (kA 2, 5, .inl op_6) := (p_86 (1 + d) 12 (by omega)).trans c_76
            have c_96 : E83 (20 + n) 0 = .inr (5, [.int (nI n), (lyv ad lq_36), .ref (ad (20 + n) 1), .int op_36]) := (p_86 (20 + n) 0 (by omega)).trans c_77
            have hP : va_P D xcl (rp ad E83 RL) H := hP
            have hD : va_D A (rp ad E83 RL) := hD
            have hCm : ∀ t, BS w84 t ↔ (BS gb1 t ∨ t = 12 * n + d) := fun t => by rw [hp87]; exact BS_mark (by omega)
            refine lv_aload_n hx hb xd_Me_takeFirstSteps_85 rfl (lv_at hl 0 rfl) ?_
            refine px_get (D := D) (ci := 6) (v := .ref (ad (20 + n) 0)) (C := xR_Me) (T := xT_Me) (N := 6) hx hb hT xi_Me hown hK.1 hP ym0 c_90 rfl 0 (by decide) (hT _ k5s_1) (fun _ h9 => h9) rfl xd_Me_takeFirstSteps_86 ?_
            refine lv_aload_n hx hb xd_Me_takeFirstSteps_89 rfl (lv_at hl 2 rfl) ?_
            refine px_get (D := D) (ci := 6) (v := .ref (ad (20 + n) 0)) (C := xR_Me) (T := xT_Me) (N := 6) hx hb hT xi_Me hown hK.1 hP ym0 c_90 rfl 0 (by decide) (hT _ k5s_1) (fun _ h9 => h9) rfl xd_Me_takeFirstSteps_90 ?_
            refine lv_acmp_eq (rx := (some (ad (20 + n) 0))) (ry := (some (ad (20 + n) 0))) (tgt := 107) hx hb xd_Me_takeFirstSteps_93 (by decide) (fun _ => ?_) (fun hc97 => absurd rfl hc97)
            refine lv_iinc (k := 1) (x := (nI i)) (v := (nI (i + 1))) hx hb xd_Me_takeFirstSteps_107 hl rfl (xb_inc i 1) (Nat.le_of_ble_eq_true rfl) rfl (fun ls hl => ?_)
            have hl : lv_has ls 3 [(1, .int (nI (i + 1))), (2, .ref (ad (20 + n) (10 + 10 * k))), (0, .ref (ad (20 + n) (10 + 10 * k)))] := hl
            refine lv_goto (tgt := 2) hx hb xd_Me_takeFirstSteps_110 (by decide) ?_
            exact ih1 (i + 1, E83, (va_up fr1 i (some (ad (20 + n) (10 + 10 * k)))), ga1, w84) _ _ _ (show rs - (i + 1) < rs - i by omega) (lv_sub hl [0, 2] rfl) hP hD hS ⟨(show (i + 1) ≤ rs from by first | assumption | omega), (show E83 (20 + n) (11 + 10 * k) = .inl (kA 6, rs, .inr (.inr (.inr (.inr (va_up fr1 i (some (ad (20 + n) (10 + 10 * k)))))))) from c_88), (show E83 (20 + n) (15 + 10 * k) = .inl (kA 0, 6, .inl ga1) from c_89), (show E83 (20 + n) (16 + 10 * k) = .inl (kA 0, 6, .inl w84) from p_85), (show ∀ b2 o2, ¬ (b2 = 20 + n ∧ o2 = 11 + 10 * k) → ¬ (b2 = 20 + n ∧ o2 = 15 + 10 * k) → ¬ (b2 = 20 + n ∧ o2 = 16 + 10 * k) → E83 b2 o2 = E b2 o2 from fun b2 o2 h09 h19 h29 => by rw [p_86 b2 o2 (by omega), fE67 b2 o2 (by omega), hfr b2 o2 (by omega) (by omega) (by omega)]), (show RQX g kA ad E83 RL nd n d (i + 1) (va_up fr1 i (some (ad (20 + n) (10 + 10 * k)))) from RQX_RU (RU3 (b := 20 + n) (by omega) hcA1 hcA5 hcA6 c_88 c_89 p_85 (fun b2 o2 h19 h29 h39 => by rw [p_86 b2 o2 (by omega), fE67 b2 o2 (by omega)])) (RQX_add (Nat.le_refl _) z49 hkm (by rw [hdk]; exact hlk9) hRQ)), (show ∀ t, t < 72 → (BS ga1 t ↔ (BS ga t ∨ LSp g n d (i + 1) t)) from fun t ht => by rw [hL t ht, LSp_n (Or.inl (by rw [← hti9.2.2]; exact hc78))]), (show ∀ t, t < 72 → (BS w84 t ↔ (BS gb t ∨ CSp g n d (i + 1) t)) from fun t ht => by
        rw [hCm t, hC t ht, CSp_y (by rw [← hti9.2.1]; exact hc79) hlk9]
        constructor
        · rintro ((q | q) | q)
          · exact Or.inl q
          · exact Or.inr (Or.inl q)
          · exact Or.inr (Or.inr (Or.inl q))
        · rintro (q | q | q | q)
          · exact Or.inl (Or.inl q)
          · exact Or.inl (Or.inr q)
          · exact Or.inr q
          · exact absurd (show n = n from rfl) q.1)⟩
        · refine lv_aload_n hx hb xd_Me_takeFirstSteps_53 rfl (lv_at hl 2 rfl) ?_
          refine px_get (D := D) (ci := 6) (v := .ref (ad (20 + n) (12 + 10 * k))) (C := xR_Me) (T := xT_Me) (N := 6) hx hb hT xi_Me hown hK.1 hP ym0 c_71 rfl 3 (by decide) (hT _ k5s_22) (fun _ h9 => h9) rfl xd_Me_takeFirstSteps_54 ?_
          refine lv_aload_n hx hb xd_Me_takeFirstSteps_57 rfl (lv_at hl 0 rfl) ?_
          have hFc := px_free hD hS hA
          refine va_callv (va_runV (As := [.ref (ad (20 + n) (10 + 10 * k))]) (rest := []) ⟨hx, hb, hml, hown, hT⟩ (xc_Re_mark l D kA H.size ad E65 RL (20 + n) (12 + 10 * k) (15 + 10 * k) ga1 n k d (lyv ad lq_36) op_36 fd_6 nm_6 sd_6 ym2 c_72 ym4 c_69 ym0 c_71 m_38 c_77 m_8 c_74 (by first | assumption | omega) (by first | assumption | omega) (by first | assumption | omega)) (cwV 1 hT (wT_V k5s_18 k5s_19 k5s_20 k5s_21 k5s_17) rfl rfl rfl (by decide +kernel) ⟨Nat.le_of_ble_eq_true rfl, Nat.le_of_ble_eq_true rfl⟩) (px_preV hK hP hD ym2 c_72 rfl) rfl rfl hl.1 rfl (lv_room (Nat.le_of_ble_eq_true rfl)) xd_Me_takeFirstSteps_58 ⟨(Nat.le_of_ble_eq_true rfl), (Nat.le_of_ble_eq_true rfl)⟩) hS (fun q _ h => hFc q h) hFc (fun u99 t H1 locs ht hvm hp100 hB hz1 hk1 hS => ?_)
          obtain ⟨hP1, hD1⟩ := hB
          rw [ht] at hP1
          have hD1 := hD1.weaken (fun _ _ _ h => hFc _ h)
          generalize H1 = H at hP1 hS ⊢
          have hP := hP1
          have hD := hD1
          obtain ⟨E101, rfl⟩ : ∃ z, z = u99 := ⟨_, rfl⟩
          obtain ⟨w102, hp105, p_103, p_104⟩ := hp100
          have p_103 : E101 (20 + n) (15 + 10 * k) = .inl (kA 0, 6, .inl w102) := p_103
          have p_104 : (∀ b2 o2, ¬ (b2 = (20 + n) ∧ o2 = (15 + 10 * k)) → E101 b2 o2 = E65 b2 o2) := p_104
          have c_106 : E101 (20 + n) (11 + 10 * k) = .inl (kA 6, rs, .inr (.inr (.inr (.inr (va_up fr1 i (some (ad (20 + n) (10 + 10 * k)))))))) := (p_104 (20 + n) (11 + 10 * k) (by omega)).trans c_68
          have c_107 : E101 (20 + n) (16 + 10 * k) = .inl (kA 0, 6, .inl gb1) := (p_104 (20 + n) (16 + 10 * k) (by omega)).trans c_70
          have c_108 : E101 (20 + n) (10 + 10 * k) = .inr (6, [.ref (ad (20 + n) 0), .ref (ad (1 + d) 0), .ref (ad (20 + n) (11 + 10 * k)), .ref (ad (20 + n) (12 + 10 * k)), .ref (ad (20 + n) (13 + 10 * k)), .ref (ad (20 + n) (14 + 10 * k))]) := (p_104 (20 + n) (10 + 10 * k) (by omega)).trans c_71
          have c_109 : E101 (20 + n) (12 + 10 * k) = .inr (10, [.ref (ad (20 + n) (15 + 10 * k))]) := (p_104 (20 + n) (12 + 10 * k) (by omega)).trans c_72
          have c_110 : E101 (20 + n) (13 + 10 * k) = .inr (10, [.ref (ad (20 + n) (16 + 10 * k))]) := (p_104 (20 + n) (13 + 10 * k) (by omega)).trans c_73
          have c_111 : E101 (1 + d) 0 = .inr (7, [.int (nI d), .int fd_6, .int nm_6, .ref (ad (1 + d) 1), .ref (ad (1 + d) 9), .ref (ad (1 + d) 10), .ref (ad (1 + d) 2), .ref (ad (1 + d) 11), .ref (ad (1 + d) 12), .ref (ad (1 + d) 3), .ref (ad (1 + d) 4), .int sd_6]) := (p_104 (1 + d) 0 (by omega)).trans c_74
          have c_112 : E101 (1 + d) 11 = .inl (kA 2, 5, .inl tr_6) := (p_104 (1 + d) 11 (by omega)).trans c_75
          have c_113 : E101 (1 + d) 12 = .inl (kA 2, 5, .inl op_6) := (p_104 (1 + d) 12 (by omega)).trans c_76
          have c_114 : E101 (20 + n) 0 = .inr (5, [.int (nI n), (lyv ad lq_36), .ref (ad (20 + n) 1), .int op_36]) := (p_104 (20 + n) 0 (by omega)).trans c_77
          have hP : va_P D xcl (rp ad E101 RL) H := hP
          have hD : va_D A (rp ad E101 RL) := hD
          have hLm : ∀ t, BS w102 t ↔ (BS ga1 t ∨ t = 12 * n + d) := fun t => by rw [hp105]; exact BS_mark (by omega)
          refine lv_aload_n hx hb xd_Me_takeFirstSteps_61 rfl (lv_at hl 0 rfl) ?_
          refine lv_ifnull hx hb xd_Me_takeFirstSteps_62 ?_
          refine lv_aload_n hx hb xd_Me_takeFirstSteps_65 rfl (lv_at hl 2 rfl) ?_
          refine px_get (D := D) (ci := 6) (v := .ref (ad (1 + d) 0)) (C := xR_Me) (T := xT_Me) (N := 6) hx hb hT xi_Me hown hK.1 hP ym0 c_108 rfl 1 (by decide) (hT _ k5s_2) (fun _ h9 => h9) rfl xd_Me_takeFirstSteps_66 ?_
          refine px_get (D := D) (ci := 7) (v := .ref (ad (1 + d) 11)) (C := xR_Ds) (T := xT_Ds) (N := 12) hx hb hT xi_Ds hown hK.1 hP m_8 c_111 rfl 7 (by decide) (hT _ k5s_15) (fun _ h9 => h9) rfl xd_Me_takeFirstSteps_69 ?_
          refine lv_iload_n hx hb xd_Me_takeFirstSteps_72 rfl (lv_at hl 1 rfl) ?_
          refine px_zald (i := i) hx hb hK.1 hP m_30 c_112 2 rfl (by omega) (by decide) xd_Me_takeFirstSteps_73 ?_
          refine lv_if_eq (tgt := 107) hx hb xd_Me_takeFirstSteps_74 (by decide) (fun hc115 => ?_) (fun hc115 => ?_)
          · refine lv_iinc (k := 1) (x := (nI i)) (v := (nI (i + 1))) hx hb xd_Me_takeFirstSteps_107 hl rfl (xb_inc i 1) (Nat.le_of_ble_eq_true rfl) rfl (fun ls hl => ?_)
            have hl : lv_has ls 3 [(1, .int (nI (i + 1))), (2, .ref (ad (20 + n) (10 + 10 * k))), (0, .ref (ad (20 + n) (10 + 10 * k)))] := hl
            refine lv_goto (tgt := 2) hx hb xd_Me_takeFirstSteps_110 (by decide) ?_
            exact ih1 (i + 1, E101, (va_up fr1 i (some (ad (20 + n) (10 + 10 * k)))), w102, gb1) _ _ _ (show rs - (i + 1) < rs - i by omega) (lv_sub hl [0, 2] rfl) hP hD hS ⟨(show (i + 1) ≤ rs from by first | assumption | omega), (show E101 (20 + n) (11 + 10 * k) = .inl (kA 6, rs, .inr (.inr (.inr (.inr (va_up fr1 i (some (ad (20 + n) (10 + 10 * k)))))))) from c_106), (show E101 (20 + n) (15 + 10 * k) = .inl (kA 0, 6, .inl w102) from p_103), (show E101 (20 + n) (16 + 10 * k) = .inl (kA 0, 6, .inl gb1) from c_107), (show ∀ b2 o2, ¬ (b2 = 20 + n ∧ o2 = 11 + 10 * k) → ¬ (b2 = 20 + n ∧ o2 = 15 + 10 * k) → ¬ (b2 = 20 + n ∧ o2 = 16 + 10 * k) → E101 b2 o2 = E b2 o2 from fun b2 o2 h09 h19 h29 => by rw [p_104 b2 o2 (by omega), fE67 b2 o2 (by omega), hfr b2 o2 (by omega) (by omega) (by omega)]), (show RQX g kA ad E101 RL nd n d (i + 1) (va_up fr1 i (some (ad (20 + n) (10 + 10 * k)))) from RQX_RU (RU3 (b := 20 + n) (by omega) hcA1 hcA5 hcA6 c_106 p_103 c_107 (fun b2 o2 h19 h29 h39 => by rw [p_104 b2 o2 (by omega), fE67 b2 o2 (by omega)])) (RQX_add (Nat.le_refl _) z49 hkm (by rw [hdk]; exact hlk9) hRQ)), (show ∀ t, t < 72 → (BS w102 t ↔ (BS ga t ∨ LSp g n d (i + 1) t)) from fun t ht => by rw [hLm t, hL t ht, LSp_y (by rw [← hti9.2.2]; exact hc78) hlk9, or_assoc]), (show ∀ t, t < 72 → (BS gb1 t ↔ (BS gb t ∨ CSp g n d (i + 1) t)) from fun t ht => by rw [hC t ht, CSp_n (Or.inl (by rw [← hti9.2.1]; exact hc115))])⟩
          · refine lv_aload_n hx hb xd_Me_takeFirstSteps_77 rfl (lv_at hl 2 rfl) ?_
            refine px_get (D := D) (ci := 6) (v := .ref (ad (20 + n) (13 + 10 * k))) (C := xR_Me) (T := xT_Me) (N := 6) hx hb hT xi_Me hown hK.1 hP ym0 c_108 rfl 4 (by decide) (hT _ k5s_16) (fun _ h9 => h9) rfl xd_Me_takeFirstSteps_78 ?_
            refine lv_aload_n hx hb xd_Me_takeFirstSteps_81 rfl (lv_at hl 0 rfl) ?_
            have hFc := px_free hD hS hA
            refine va_callv (va_runV (As := [.ref (ad (20 + n) (10 + 10 * k))]) (rest := []) ⟨hx, hb, hml, hown, hT⟩ (xc_Re_mark l D kA H.size ad E101 RL (20 + n) (13 + 10 * k) (16 + 10 * k) gb1 n k d (lyv ad lq_36) op_36 fd_6 nm_6 sd_6 ym3 c_110 ym5 c_107 ym0 c_108 m_38 c_114 m_8 c_111 (by first | assumption | omega) (by first | assumption | omega) (by first | assumption | omega)) (cwV 1 hT (wT_V k5s_18 k5s_19 k5s_20 k5s_21 k5s_17) rfl rfl rfl (by decide +kernel) ⟨Nat.le_of_ble_eq_true rfl, Nat.le_of_ble_eq_true rfl⟩) (px_preV hK hP hD ym3 c_110 rfl) rfl rfl hl.1 rfl (lv_room (Nat.le_of_ble_eq_true rfl)) xd_Me_takeFirstSteps_82 ⟨(Nat.le_of_ble_eq_true rfl), (Nat.le_of_ble_eq_true rfl)⟩) hS (fun q _ h => hFc q h) hFc (fun u117 t H1 locs ht hvm hp118 hB hz1 hk1 hS => ?_)
            obtain ⟨hP1, hD1⟩ := hB
            rw [ht] at hP1
            have hD1 := hD1.weaken (fun _ _ _ h => hFc _ h)
            generalize H1 = H at hP1 hS ⊢
            have hP := hP1
            have hD := hD1
            obtain ⟨E119, rfl⟩ : ∃ z, z = u117 := ⟨_, rfl⟩
            obtain ⟨w120, hp123, p_121, p_122⟩ := hp118
            have p_121 : E119 (20 + n) (16 + 10 * k) = .inl (kA 0, 6, .inl w120) := p_121
            have p_122 : (∀ b2 o2, ¬ (b2 = (20 + n) ∧ o2 = (16 + 10 * k)) → E119 b2 o2 = E101 b2 o2) := p_122
            have c_124 : E119 (20 + n) (15 + 10 * k) = .inl (kA 0, 6, .inl w102) := (p_122 (20 + n) (15 + 10 * k) (by omega)).trans p_103
            have c_125 : E119 (20 + n) (11 + 10 * k) = .inl (kA 6, rs, .inr (.inr (.inr (.inr (va_up fr1 i (some (ad (20 + n) (10 + 10 * k)))))))) := (p_122 (20 + n) (11 + 10 * k) (by omega)).trans c_106
            have c_126 : E119 (20 + n) (10 + 10 * k) = .inr (6, [.ref (ad (20 + n) 0), .ref (ad (1 + d) 0), .ref (ad (20 + n) (11 + 10 * k)), .ref (ad (20 + n) (12 + 10 * k)), .ref (ad (20 + n) (13 + 10 * k)), .ref (ad (20 + n) (14 + 10 * k))]) := (p_122 (20 + n) (10 + 10 * k) (by omega)).trans c_108
            have c_127 : E119 (20 + n) (12 + 10 * k) = .inr (10, [.ref (ad (20 + n) (15 + 10 * k))]) := (p_122 (20 + n) (12 + 10 * k) (by omega)).trans c_109
            have c_128 : E119 (20 + n) (13 + 10 * k) = .inr (10, [.ref (ad (20 + n) (16 + 10 * k))]) := (p_122 (20 + n) (13 + 10 * k) (by omega)).trans c_110
            have c_129 : E119 (1 + d) 0 = .inr (7, [.int (nI d), .int fd_6, .int nm_6, .ref (ad (1 + d) 1), .ref (ad (1 + d) 9), .ref (ad (1 + d) 10), .ref (ad (1 + d) 2), .ref (ad (1 + d) 11), .ref (ad (1 + d) 12), .ref (ad (1 + d) 3), .ref (ad (1 + d) 4), .int sd_6]) := (p_122 (1 + d) 0 (by omega)).trans c_111
            have c_130 : E119 (1 + d) 11 = .inl (kA 2, 5, .inl tr_6) := (p_122 (1 + d) 11 (by omega)).trans c_112
            have c_131 : E119 (1 + d) 12 = .inl (kA 2, 5, .inl op_6) := (p_122 (1 + d) 12 (by omega)).trans c_113
            have c_132 : E119 (20 + n) 0 = .inr (5, [.int (nI n), (lyv ad lq_36), .ref (ad (20 + n) 1), .int op_36]) := (p_122 (20 + n) 0 (by omega)).trans c_114
            have hP : va_P D xcl (rp ad E119 RL) H := hP
            have hD : va_D A (rp ad E119 RL) := hD
            have hCm : ∀ t, BS w120 t ↔ (BS gb1 t ∨ t = 12 * n + d) := fun t => by rw [hp123]; exact BS_mark (by omega)
            refine lv_aload_n hx hb xd_Me_takeFirstSteps_85 rfl (lv_at hl 0 rfl) ?_
            refine px_get (D := D) (ci := 6) (v := .ref (ad (20 + n) 0)) (C := xR_Me) (T := xT_Me) (N := 6) hx hb hT xi_Me hown hK.1 hP ym0 c_126 rfl 0 (by decide) (hT _ k5s_1) (fun _ h9 => h9) rfl xd_Me_takeFirstSteps_86 ?_
            refine lv_aload_n hx hb xd_Me_takeFirstSteps_89 rfl (lv_at hl 2 rfl) ?_
            refine px_get (D := D) (ci := 6) (v := .ref (ad (20 + n) 0)) (C := xR_Me) (T := xT_Me) (N := 6) hx hb hT xi_Me hown hK.1 hP ym0 c_126 rfl 0 (by decide) (hT _ k5s_1) (fun _ h9 => h9) rfl xd_Me_takeFirstSteps_90 ?_
            refine lv_acmp_eq (rx := (some (ad (20 + n) 0))) (ry := (some (ad (20 + n) 0))) (tgt := 107) hx hb xd_Me_takeFirstSteps_93 (by decide) (fun _ => ?_) (fun hc133 => absurd rfl hc133)
            refine lv_iinc (k := 1) (x := (nI i)) (v := (nI (i + 1))) hx hb xd_Me_takeFirstSteps_107 hl rfl (xb_inc i 1) (Nat.le_of_ble_eq_true rfl) rfl (fun ls hl => ?_)
            have hl : lv_has ls 3 [(1, .int (nI (i + 1))), (2, .ref (ad (20 + n) (10 + 10 * k))), (0, .ref (ad (20 + n) (10 + 10 * k)))] := hl
            refine lv_goto (tgt := 2) hx hb xd_Me_takeFirstSteps_110 (by decide) ?_
            exact ih1 (i + 1, E119, (va_up fr1 i (some (ad (20 + n) (10 + 10 * k)))), w102, w120) _ _ _ (show rs - (i + 1) < rs - i by omega) (lv_sub hl [0, 2] rfl) hP hD hS ⟨(show (i + 1) ≤ rs from by first | assumption | omega), (show E119 (20 + n) (11 + 10 * k) = .inl (kA 6, rs, .inr (.inr (.inr (.inr (va_up fr1 i (some (ad (20 + n) (10 + 10 * k)))))))) from c_125), (show E119 (20 + n) (15 + 10 * k) = .inl (kA 0, 6, .inl w102) from c_124), (show E119 (20 + n) (16 + 10 * k) = .inl (kA 0, 6, .inl w120) from p_121), (show ∀ b2 o2, ¬ (b2 = 20 + n ∧ o2 = 11 + 10 * k) → ¬ (b2 = 20 + n ∧ o2 = 15 + 10 * k) → ¬ (b2 = 20 + n ∧ o2 = 16 + 10 * k) → E119 b2 o2 = E b2 o2 from fun b2 o2 h09 h19 h29 => by rw [p_122 b2 o2 (by omega), p_104 b2 o2 (by omega), fE67 b2 o2 (by omega), hfr b2 o2 (by omega) (by omega) (by omega)]), (show RQX g kA ad E119 RL nd n d (i + 1) (va_up fr1 i (some (ad (20 + n) (10 + 10 * k)))) from RQX_RU (RU3 (b := 20 + n) (by omega) hcA1 hcA5 hcA6 c_125 c_124 p_121 (fun b2 o2 h19 h29 h39 => by rw [p_122 b2 o2 (by omega), p_104 b2 o2 (by omega), fE67 b2 o2 (by omega)])) (RQX_add (Nat.le_refl _) z49 hkm (by rw [hdk]; exact hlk9) hRQ)), (show ∀ t, t < 72 → (BS w102 t ↔ (BS ga t ∨ LSp g n d (i + 1) t)) from fun t ht => by rw [hLm t, hL t ht, LSp_y (by rw [← hti9.2.2]; exact hc78) hlk9, or_assoc]), (show ∀ t, t < 72 → (BS w120 t ↔ (BS gb t ∨ CSp g n d (i + 1) t)) from fun t ht => by
        rw [hCm t, hC t ht, CSp_y (by rw [← hti9.2.1]; exact hc115) hlk9]
        constructor
        · rintro ((q | q) | q)
          · exact Or.inl q
          · exact Or.inr (Or.inl q)
          · exact Or.inr (Or.inr (Or.inl q))
        · rintro (q | q | q | q)
          · exact Or.inl (Or.inl q)
          · exact Or.inl (Or.inr q)
          · exact Or.inr q
          · exact absurd (show n = n from rfl) q.1)⟩
      · obtain ⟨m0_134, m1_134, pv_134, op_134, mk_134, fm_134, hmk_134, hpv_134, q0_134, q1_134, hk_134⟩ := id (hLIs z46 (by omega))
        have c_135 : E1 (20 + z46) 0 = .inr (5, [.int (nI z46), pv_134, .ref (ad (20 + z46) 1), .int op_134]) := q0_134
        have m_136 : (20 + z46, 0) ∈ RL := m0_134
        have c_137 : E1 (20 + z46) 1 = .inl (kA 6, mk_134, .inr (.inr (.inr (.inr fm_134)))) := q1_134
        have m_138 : (20 + z46, 1) ∈ RL := m1_134
        obtain ⟨top_134, ⟨lq_134, hlq_134, h19_134, hpv2_134⟩, h20_134, tmd_134⟩ := TLa_get c_135 c_137 (hTL1 z46 (by omega))
        have c_139 : E1 (20 + z46) 0 = .inr (5, [.int (nI z46), (lyv ad lq_134), .ref (ad (20 + z46) 1), .int op_134]) := by rw [← hpv2_134]; exact c_135
        have i20_134 : iN (g 20 z46) = mk_134 := by rw [h20_134, iN_nI (by omega)]
        have hkk9 : z47 < mk_134 := by have q := z50; rw [i20_134] at q; exact q
        obtain ⟨hm_140, d_140, rs_140, fr_140, g2_140, g3_140, g4_140, hd_140, hrs_140, q0_140, q1_140, q2_140, q3_140, q4_140, q5_140, q6_140, q7_140⟩ := id z49
        have c_141 : E1 (20 + z46) (10 + 10 * z47) = .inr (6, [.ref (ad (20 + z46) 0), .ref (ad (1 + d_140) 0), .ref (ad (20 + z46) (11 + 10 * z47)), .ref (ad (20 + z46) (12 + 10 * z47)), .ref (ad (20 + z46) (13 + 10 * z47)), .ref (ad (20 + z46) (14 + 10 * z47))]) := q0_140
        have m_142 : (20 + z46, 10 + 10 * z47) ∈ RL := hm_140 0 (by omega)
        have c_143 : E1 (20 + z46) (11 + 10 * z47) = .inl (kA 6, rs_140, .inr (.inr (.inr (.inr fr_140)))) := q1_140
        have m_144 : (20 + z46, 11 + 10 * z47) ∈ RL := hm_140 1 (by omega)
        have c_145 : E1 (20 + z46) (12 + 10 * z47) = .inr (10, [.ref (ad (20 + z46) (15 + 10 * z47))]) := q2_140
        have m_146 : (20 + z46, 12 + 10 * z47) ∈ RL := hm_140 2 (by omega)
        have c_147 : E1 (20 + z46) (13 + 10 * z47) = .inr (10, [.ref (ad (20 + z46) (16 + 10 * z47))]) := q3_140
        have m_148 : (20 + z46, 13 + 10 * z47) ∈ RL := hm_140 3 (by omega)
        have c_149 : E1 (20 + z46) (14 + 10 * z47) = .inr (10, [.ref (ad (20 + z46) (17 + 10 * z47))]) := q4_140
        have m_150 : (20 + z46, 14 + 10 * z47) ∈ RL := hm_140 4 (by omega)
        have c_151 : E1 (20 + z46) (15 + 10 * z47) = .inl (kA 0, 6, .inl g2_140) := q5_140
        have m_152 : (20 + z46, 15 + 10 * z47) ∈ RL := hm_140 5 (by omega)
        have c_153 : E1 (20 + z46) (16 + 10 * z47) = .inl (kA 0, 6, .inl g3_140) := q6_140
        have m_154 : (20 + z46, 16 + 10 * z47) ∈ RL := hm_140 6 (by omega)
        have c_155 : E1 (20 + z46) (17 + 10 * z47) = .inl (kA 0, 6, .inl g4_140) := q7_140
        have m_156 : (20 + z46, 17 + 10 * z47) ∈ RL := hm_140 7 (by omega)
        have hdm_140 : mdv g z46 z47 = d_140 := by
          obtain ⟨dz, hdz, h21z, hvz⟩ := tmd_134 z47 (by omega)
          rw [c_141] at hvz
          have ez := (rp_inj hD ((hDIs d_140 hd_140).1 0 (by omega)) ((hDIs dz hdz).1 0 (by omega)) (Value.ref.inj hvz)).1
          unfold mdv
          rw [h21z, iN_nI (by omega)]; omega
        obtain ⟨hm_157, fd_157, nm_157, sd_157, k0_157, k1_157, k2_157, k3_157, f0_157, f1_157, f2_157, f3_157, fe_157, fo_157, tr_157, op_157, hk0_157, hk1_157, hk2_157, hk3_157, q0_157, q1_157, q2_157, q3_157, q4_157, q5_157, q6_157, q7_157, q8_157, q9_157, q10_157, q11_157, q12_157, hg_157⟩ := id (hDIs d_140 (by omega))
        have c_158 : E1 (1 + d_140) 0 = .inr (7, [.int (nI d_140), .int fd_157, .int nm_157, .ref (ad (1 + d_140) 1), .ref (ad (1 + d_140) 9), .ref (ad (1 + d_140) 10), .ref (ad (1 + d_140) 2), .ref (ad (1 + d_140) 11), .ref (ad (1 + d_140) 12), .ref (ad (1 + d_140) 3), .ref (ad (1 + d_140) 4), .int sd_157]) := q0_157
        have m_159 : (1 + d_140, 0) ∈ RL := hm_157 0 (by omega)
        have c_160 : E1 (1 + d_140) 1 = .inr (8, [.ref (ad (1 + d_140) 5), .int (nI k0_157)]) := q1_157
        have m_161 : (1 + d_140, 1) ∈ RL := hm_157 1 (by omega)
        have c_162 : E1 (1 + d_140) 2 = .inr (8, [.ref (ad (1 + d_140) 6), .int (nI k1_157)]) := q2_157
        have m_163 : (1 + d_140, 2) ∈ RL := hm_157 2 (by omega)
        have c_164 : E1 (1 + d_140) 3 = .inr (8, [.ref (ad (1 + d_140) 7), .int (nI k2_157)]) := q3_157
        have m_165 : (1 + d_140, 3) ∈ RL := hm_157 3 (by omega)
        have c_166 : E1 (1 + d_140) 4 = .inr (8, [.ref (ad (1 + d_140) 8), .int (nI k3_157)]) := q4_157
        have m_167 : (1 + d_140, 4) ∈ RL := hm_157 4 (by omega)
        have c_168 : E1 (1 + d_140) 5 = .inl (kA 0, 6, .inl f0_157) := q5_157
        have m_169 : (1 + d_140, 5) ∈ RL := hm_157 5 (by omega)
        have c_170 : E1 (1 + d_140) 6 = .inl (kA 0, 5, .inl f1_157) := q6_157
        have m_171 : (1 + d_140, 6) ∈ RL := hm_157 6 (by omega)
        have c_172 : E1 (1 + d_140) 7 = .inl (kA 0, 3, .inl f2_157) := q7_157
        have m_173 : (1 + d_140, 7) ∈ RL := hm_157 7 (by omega)
        have c_174 : E1 (1 + d_140) 8 = .inl (kA 0, 3, .inl f3_157) := q8_157
        have m_175 : (1 + d_140, 8) ∈ RL := hm_157 8 (by omega)
        have c_176 : E1 (1 + d_140) 9 = .inl (kA 8, 6, .inr (.inr (.inr (.inr fe_157)))) := q9_157
        have m_177 : (1 + d_140, 9) ∈ RL := hm_157 9 (by omega)
        have c_178 : E1 (1 + d_140) 10 = .inl (kA 8, 6, .inr (.inr (.inr (.inr fo_157)))) := q10_157
        have m_179 : (1 + d_140, 10) ∈ RL := hm_157 10 (by omega)
        have c_180 : E1 (1 + d_140) 11 = .inl (kA 2, 5, .inl tr_157) := q11_157
        have m_181 : (1 + d_140, 11) ∈ RL := hm_157 11 (by omega)
        have c_182 : E1 (1 + d_140) 12 = .inl (kA 2, 5, .inl op_157) := q12_157
        have m_183 : (1 + d_140, 12) ∈ RL := hm_157 12 (by omega)
        have hg_157 : ∀ w9, w9 < k0_157 → fe_157 w9 = some (ad (1 + d_140) (20 + 3 * w9)) ∧ fo_157 w9 = some (ad (1 + d_140) (38 + 3 * w9)) ∧ GI kA (ad (1 + d_140)) (E1 (1 + d_140)) (fun o => (1 + d_140, o) ∈ RL) (20 + 3 * w9) (21 + 3 * w9) (22 + 3 * w9) ∧ GI kA (ad (1 + d_140)) (E1 (1 + d_140)) (fun o => (1 + d_140, o) ∈ RL) (38 + 3 * w9) (39 + 3 * w9) (40 + 3 * w9) := hg_157
        obtain ⟨hTT_157, tgr_157⟩ := TD_get hk0_157 hk1_157 hk2_157 hk3_157 c_158 c_160 c_162 c_164 c_166 c_168 c_170 c_172 c_174 c_180 c_182 (hTD1 d_140 (by omega))
        obtain ⟨tfd_157, tnm_157, tsd_157, tk0_157, tf0_157, tk1_157, tf1_157, tk2_157, tk3_157⟩ := id hTT_157
        have ik0_157 : iN (g 5 d_140) = k0_157 := by rw [← tk0_157, iN_nI (by omega)]
        have ik1_157 : iN (g 12 d_140) = k1_157 := by rw [← tk1_157, iN_nI (by omega)]
        have hlk9 : lkG g (n + 1) (g 13 (5 * d + i)) = some (z46, d_140) := by have q := z51; rw [hdm_140] at q; exact q
        have hoc9 : eA (E1 (20 + z46) (16 + 10 * z47)) = g3_140 := by rw [c_153]; rfl
        refine lv_aload_n hx hb xd_Me_takeFirstSteps_30 rfl (lv_at hl 2 rfl) ?_
        refine px_get (D := D) (ci := 6) (v := .ref (ad (20 + n) (11 + 10 * k))) (C := xR_Me) (T := xT_Me) (N := 6) hx hb hT xi_Me hown hK.1 hP ym0 c_2 rfl 2 (by decide) (hT _ k5s_0) (fun _ h9 => h9) rfl xd_Me_takeFirstSteps_31 ?_
        refine lv_iload_n hx hb xd_Me_takeFirstSteps_34 rfl (lv_at hl 1 rfl) ?_
        refine lv_aload_n hx hb xd_Me_takeFirstSteps_35 rfl (lv_at hl 0 rfl) ?_
        refine px_aast (i := i) (r := (xR_Me, xT_Me, 6)) hx hb hK.1 hP hD hS ym1 hcA1 6 rfl m_142 c_141 rfl (by omega) (by omega) xd_Me_takeFirstSteps_36 (fun H locs hP hD hS => ?_)
        have hP : va_P D xcl (rp ad (up2 E1 (20 + n) (11 + 10 * k) (.inl (kA 6, rs, .inr (.inr (.inr (.inr (va_up fr1 i (some (ad (20 + z46) (10 + 10 * z47)))))))))) RL) H := hP
        have hD : va_D A (rp ad (up2 E1 (20 + n) (11 + 10 * k) (.inl (kA 6, rs, .inr (.inr (.inr (.inr (va_up fr1 i (some (ad (20 + z46) (10 + 10 * z47)))))))))) RL) := hD
        generalize hE185 : up2 E1 (20 + n) (11 + 10 * k) (.inl (kA 6, rs, .inr (.inr (.inr (.inr (va_up fr1 i (some (ad (20 + z46) (10 + 10 * z47))))))))) = E184 at hP hD
        have fE186 : ∀ b2 o2, ¬ (b2 = 20 + n ∧ o2 = 11 + 10 * k) → E184 b2 o2 = E1 b2 o2 := fun b2 o2 h9 => by rw [← hE185]; exact up2_ne (by omega)
        have c_187 : E184 (20 + n) (11 + 10 * k) = .inl (kA 6, rs, .inr (.inr (.inr (.inr (va_up fr1 i (some (ad (20 + z46) (10 + 10 * z47)))))))) := by rw [← hE185]; exact up2_eq
        have c_188 : E184 (20 + n) (15 + 10 * k) = .inl (kA 0, 6, .inl ga1) := (fE186 (20 + n) (15 + 10 * k) (by omega)).trans hcA5
        have c_189 : E184 (20 + n) (16 + 10 * k) = .inl (kA 0, 6, .inl gb1) := (fE186 (20 + n) (16 + 10 * k) (by omega)).trans hcA6
        have c_190 : E184 (20 + n) (10 + 10 * k) = .inr (6, [.ref (ad (20 + n) 0), .ref (ad (1 + d) 0), .ref (ad (20 + n) (11 + 10 * k)), .ref (ad (20 + n) (12 + 10 * k)), .ref (ad (20 + n) (13 + 10 * k)), .ref (ad (20 + n) (14 + 10 * k))]) := (fE186 (20 + n) (10 + 10 * k) (by omega)).trans c_2
        have c_191 : E184 (20 + n) (12 + 10 * k) = .inr (10, [.ref (ad (20 + n) (15 + 10 * k))]) := (fE186 (20 + n) (12 + 10 * k) (by omega)).trans c_3
        have c_192 : E184 (20 + n) (13 + 10 * k) = .inr (10, [.ref (ad (20 + n) (16 + 10 * k))]) := (fE186 (20 + n) (13 + 10 * k) (by omega)).trans c_4
        have c_193 : E184 (1 + d) 0 = .inr (7, [.int (nI d), .int fd_6, .int nm_6, .ref (ad (1 + d) 1), .ref (ad (1 + d) 9), .ref (ad (1 + d) 10), .ref (ad (1 + d) 2), .ref (ad (1 + d) 11), .ref (ad (1 + d) 12), .ref (ad (1 + d) 3), .ref (ad (1 + d) 4), .int sd_6]) := (fE186 (1 + d) 0 (by omega)).trans c_7
        have c_194 : E184 (1 + d) 11 = .inl (kA 2, 5, .inl tr_6) := (fE186 (1 + d) 11 (by omega)).trans c_29
        have c_195 : E184 (1 + d) 12 = .inl (kA 2, 5, .inl op_6) := (fE186 (1 + d) 12 (by omega)).trans c_31
        have c_196 : E184 (20 + n) 0 = .inr (5, [.int (nI n), (lyv ad lq_36), .ref (ad (20 + n) 1), .int op_36]) := (fE186 (20 + n) 0 (by omega)).trans c_41
        have c_197 : E184 (20 + z46) 0 = .inr (5, [.int (nI z46), (lyv ad lq_134), .ref (ad (20 + z46) 1), .int op_134]) := (fE186 (20 + z46) 0 (by omega)).trans c_139
        have c_198 : E184 (20 + z46) (10 + 10 * z47) = .inr (6, [.ref (ad (20 + z46) 0), .ref (ad (1 + d_140) 0), .ref (ad (20 + z46) (11 + 10 * z47)), .ref (ad (20 + z46) (12 + 10 * z47)), .ref (ad (20 + z46) (13 + 10 * z47)), .ref (ad (20 + z46) (14 + 10 * z47))]) := (fE186 (20 + z46) (10 + 10 * z47) (by omega)).trans c_141
        have c_199 : E184 (20 + z46) (13 + 10 * z47) = .inr (10, [.ref (ad (20 + z46) (16 + 10 * z47))]) := (fE186 (20 + z46) (13 + 10 * z47) (by omega)).trans c_147
        have c_200 : E184 (20 + z46) (16 + 10 * z47) = .inl (kA 0, 6, .inl g3_140) := (fE186 (20 + z46) (16 + 10 * z47) (by omega)).trans c_153
        have c_201 : E184 (1 + d_140) 0 = .inr (7, [.int (nI d_140), .int fd_157, .int nm_157, .ref (ad (1 + d_140) 1), .ref (ad (1 + d_140) 9), .ref (ad (1 + d_140) 10), .ref (ad (1 + d_140) 2), .ref (ad (1 + d_140) 11), .ref (ad (1 + d_140) 12), .ref (ad (1 + d_140) 3), .ref (ad (1 + d_140) 4), .int sd_157]) := (fE186 (1 + d_140) 0 (by omega)).trans c_158
        refine lv_aload_n hx hb xd_Me_takeFirstSteps_37 rfl (lv_at hl 0 rfl) ?_
        refine lv_ifnull hx hb xd_Me_takeFirstSteps_38 ?_
        refine lv_aload_n hx hb xd_Me_takeFirstSteps_41 rfl (lv_at hl 2 rfl) ?_
        refine px_get (D := D) (ci := 6) (v := .ref (ad (1 + d) 0)) (C := xR_Me) (T := xT_Me) (N := 6) hx hb hT xi_Me hown hK.1 hP ym0 c_190 rfl 1 (by decide) (hT _ k5s_2) (fun _ h9 => h9) rfl xd_Me_takeFirstSteps_42 ?_
        refine px_get (D := D) (ci := 7) (v := .ref (ad (1 + d) 12)) (C := xR_Ds) (T := xT_Ds) (N := 12) hx hb hT xi_Ds hown hK.1 hP m_8 c_193 rfl 8 (by decide) (hT _ k5s_14) (fun _ h9 => h9) rfl xd_Me_takeFirstSteps_45 ?_
        refine lv_iload_n hx hb xd_Me_takeFirstSteps_48 rfl (lv_at hl 1 rfl) ?_
        refine px_zald (i := i) hx hb hK.1 hP m_32 c_195 2 rfl (by omega) (by decide) xd_Me_takeFirstSteps_49 ?_
        refine lv_if_ne (tgt := 61) hx hb xd_Me_takeFirstSteps_50 (by decide) (fun hc202 => ?_) (fun hc202 => ?_)
        · refine lv_aload_n hx hb xd_Me_takeFirstSteps_61 rfl (lv_at hl 0 rfl) ?_
          refine lv_ifnull hx hb xd_Me_takeFirstSteps_62 ?_
          refine lv_aload_n hx hb xd_Me_takeFirstSteps_65 rfl (lv_at hl 2 rfl) ?_
          refine px_get (D := D) (ci := 6) (v := .ref (ad (1 + d) 0)) (C := xR_Me) (T := xT_Me) (N := 6) hx hb hT xi_Me hown hK.1 hP ym0 c_190 rfl 1 (by decide) (hT _ k5s_2) (fun _ h9 => h9) rfl xd_Me_takeFirstSteps_66 ?_
          refine px_get (D := D) (ci := 7) (v := .ref (ad (1 + d) 11)) (C := xR_Ds) (T := xT_Ds) (N := 12) hx hb hT xi_Ds hown hK.1 hP m_8 c_193 rfl 7 (by decide) (hT _ k5s_15) (fun _ h9 => h9) rfl xd_Me_takeFirstSteps_69 ?_
          refine lv_iload_n hx hb xd_Me_takeFirstSteps_72 rfl (lv_at hl 1 rfl) ?_
          refine px_zald (i := i) hx hb hK.1 hP m_30 c_194 2 rfl (by omega) (by decide) xd_Me_takeFirstSteps_73 ?_
          refine lv_if_eq (tgt := 107) hx hb xd_Me_takeFirstSteps_74 (by decide) (fun hc203 => ?_) (fun hc203 => ?_)
          · refine lv_iinc (k := 1) (x := (nI i)) (v := (nI (i + 1))) hx hb xd_Me_takeFirstSteps_107 hl rfl (xb_inc i 1) (Nat.le_of_ble_eq_true rfl) rfl (fun ls hl => ?_)
            have hl : lv_has ls 3 [(1, .int (nI (i + 1))), (2, .ref (ad (20 + z46) (10 + 10 * z47))), (0, .ref (ad (20 + n) (10 + 10 * k)))] := hl
            refine lv_goto (tgt := 2) hx hb xd_Me_takeFirstSteps_110 (by decide) ?_
            exact ih1 (i + 1, E184, (va_up fr1 i (some (ad (20 + z46) (10 + 10 * z47)))), ga1, gb1) _ _ _ (show rs - (i + 1) < rs - i by omega) (lv_sub hl [0, 2] rfl) hP hD hS ⟨(show (i + 1) ≤ rs from by first | assumption | omega), (show E184 (20 + n) (11 + 10 * k) = .inl (kA 6, rs, .inr (.inr (.inr (.inr (va_up fr1 i (some (ad (20 + z46) (10 + 10 * z47)))))))) from c_187), (show E184 (20 + n) (15 + 10 * k) = .inl (kA 0, 6, .inl ga1) from c_188), (show E184 (20 + n) (16 + 10 * k) = .inl (kA 0, 6, .inl gb1) from c_189), (show ∀ b2 o2, ¬ (b2 = 20 + n ∧ o2 = 11 + 10 * k) → ¬ (b2 = 20 + n ∧ o2 = 15 + 10 * k) → ¬ (b2 = 20 + n ∧ o2 = 16 + 10 * k) → E184 b2 o2 = E b2 o2 from fun b2 o2 h09 h19 h29 => by rw [fE186 b2 o2 (by omega), hfr b2 o2 (by omega) (by omega) (by omega)]), (show RQX g kA ad E184 RL nd n d (i + 1) (va_up fr1 i (some (ad (20 + z46) (10 + 10 * z47)))) from RQX_RU (RU3 (b := 20 + n) (by omega) hcA1 hcA5 hcA6 c_187 c_188 c_189 (fun b2 o2 h19 h29 h39 => by rw [fE186 b2 o2 (by omega)])) (RQX_add (by omega) z49 z50 z51 hRQ)), (show ∀ t, t < 72 → (BS ga1 t ↔ (BS ga t ∨ LSp g n d (i + 1) t)) from fun t ht => by rw [hL t ht, LSp_n (Or.inl (by rw [← hti9.2.2]; exact hc202))]), (show ∀ t, t < 72 → (BS gb1 t ↔ (BS gb t ∨ CSp g n d (i + 1) t)) from fun t ht => by rw [hC t ht, CSp_n (Or.inl (by rw [← hti9.2.1]; exact hc203))])⟩
          · refine lv_aload_n hx hb xd_Me_takeFirstSteps_77 rfl (lv_at hl 2 rfl) ?_
            refine px_get (D := D) (ci := 6) (v := .ref (ad (20 + n) (13 + 10 * k))) (C := xR_Me) (T := xT_Me) (N := 6) hx hb hT xi_Me hown hK.1 hP ym0 c_190 rfl 4 (by decide) (hT _ k5s_16) (fun _ h9 => h9) rfl xd_Me_takeFirstSteps_78 ?_
            refine lv_aload_n hx hb xd_Me_takeFirstSteps_81 rfl (lv_at hl 0 rfl) ?_
            have hFc := px_free hD hS hA
            refine va_callv (va_runV (As := [.ref (ad (20 + z46) (10 + 10 * z47))]) (rest := []) ⟨hx, hb, hml, hown, hT⟩ (xc_Re_mark l D kA H.size ad E184 RL (20 + n) (13 + 10 * k) (16 + 10 * k) gb1 z46 z47 d_140 (lyv ad lq_134) op_134 fd_157 nm_157 sd_157 ym3 c_192 ym5 c_189 m_142 c_198 m_136 c_197 m_159 c_201 (by first | assumption | omega) (by first | assumption | omega) (by first | assumption | omega)) (cwV 1 hT (wT_V k5s_18 k5s_19 k5s_20 k5s_21 k5s_17) rfl rfl rfl (by decide +kernel) ⟨Nat.le_of_ble_eq_true rfl, Nat.le_of_ble_eq_true rfl⟩) (px_preV hK hP hD ym3 c_192 rfl) rfl rfl hl.1 rfl (lv_room (Nat.le_of_ble_eq_true rfl)) xd_Me_takeFirstSteps_82 ⟨(Nat.le_of_ble_eq_true rfl), (Nat.le_of_ble_eq_true rfl)⟩) hS (fun q _ h => hFc q h) hFc (fun u205 t H1 locs ht hvm hp206 hB hz1 hk1 hS => ?_)
            obtain ⟨hP1, hD1⟩ := hB
            rw [ht] at hP1
            have hD1 := hD1.weaken (fun _ _ _ h => hFc _ h)
            generalize H1 = H at hP1 hS ⊢
            have hP := hP1
            have hD := hD1
            obtain ⟨E207, rfl⟩ : ∃ z, z = u205 := ⟨_, rfl⟩
            obtain ⟨w208, hp211, p_209, p_210⟩ := hp206
            have p_209 : E207 (20 + n) (16 + 10 * k) = .inl (kA 0, 6, .inl w208) := p_209
            have p_210 : (∀ b2 o2, ¬ (b2 = (20 + n) ∧ o2 = (16 + 10 * k)) → E207 b2 o2 = E184 b2 o2) := p_210
            have c_212 : E207 (20 + n) (11 + 10 * k) = .inl (kA 6, rs, .inr (.inr (.inr (.inr (va_up fr1 i (some (ad (20 + z46) (10 + 10 * z47)))))))) := (p_210 (20 + n) (11 + 10 * k) (by omega)).trans c_187
            have c_213 : E207 (20 + n) (15 + 10 * k) = .inl (kA 0, 6, .inl ga1) := (p_210 (20 + n) (15 + 10 * k) (by omega)).trans c_188
            have c_214 : E207 (20 + n) (10 + 10 * k) = .inr (6, [.ref (ad (20 + n) 0), .ref (ad (1 + d) 0), .ref (ad (20 + n) (11 + 10 * k)), .ref (ad (20 + n) (12 + 10 * k)), .ref (ad (20 + n) (13 + 10 * k)), .ref (ad (20 + n) (14 + 10 * k))]) := (p_210 (20 + n) (10 + 10 * k) (by omega)).trans c_190
            have c_215 : E207 (20 + n) (12 + 10 * k) = .inr (10, [.ref (ad (20 + n) (15 + 10 * k))]) := (p_210 (20 + n) (12 + 10 * k) (by omega)).trans c_191
            have c_216 : E207 (20 + n) (13 + 10 * k) = .inr (10, [.ref (ad (20 + n) (16 + 10 * k))]) := (p_210 (20 + n) (13 + 10 * k) (by omega)).trans c_192
            have c_217 : E207 (1 + d) 0 = .inr (7, [.int (nI d), .int fd_6, .int nm_6, .ref (ad (1 + d) 1), .ref (ad (1 + d) 9), .ref (ad (1 + d) 10), .ref (ad (1 + d) 2), .ref (ad (1 + d) 11), .ref (ad (1 + d) 12), .ref (ad (1 + d) 3), .ref (ad (1 + d) 4), .int sd_6]) := (p_210 (1 + d) 0 (by omega)).trans c_193
            have c_218 : E207 (1 + d) 11 = .inl (kA 2, 5, .inl tr_6) := (p_210 (1 + d) 11 (by omega)).trans c_194
            have c_219 : E207 (1 + d) 12 = .inl (kA 2, 5, .inl op_6) := (p_210 (1 + d) 12 (by omega)).trans c_195
            have c_220 : E207 (20 + n) 0 = .inr (5, [.int (nI n), (lyv ad lq_36), .ref (ad (20 + n) 1), .int op_36]) := (p_210 (20 + n) 0 (by omega)).trans c_196
            have c_221 : E207 (20 + z46) 0 = .inr (5, [.int (nI z46), (lyv ad lq_134), .ref (ad (20 + z46) 1), .int op_134]) := (p_210 (20 + z46) 0 (by omega)).trans c_197
            have c_222 : E207 (20 + z46) (10 + 10 * z47) = .inr (6, [.ref (ad (20 + z46) 0), .ref (ad (1 + d_140) 0), .ref (ad (20 + z46) (11 + 10 * z47)), .ref (ad (20 + z46) (12 + 10 * z47)), .ref (ad (20 + z46) (13 + 10 * z47)), .ref (ad (20 + z46) (14 + 10 * z47))]) := (p_210 (20 + z46) (10 + 10 * z47) (by omega)).trans c_198
            have c_223 : E207 (20 + z46) (13 + 10 * z47) = .inr (10, [.ref (ad (20 + z46) (16 + 10 * z47))]) := (p_210 (20 + z46) (13 + 10 * z47) (by omega)).trans c_199
            have c_224 : E207 (20 + z46) (16 + 10 * z47) = .inl (kA 0, 6, .inl g3_140) := (p_210 (20 + z46) (16 + 10 * z47) (by omega)).trans c_200
            have c_225 : E207 (1 + d_140) 0 = .inr (7, [.int (nI d_140), .int fd_157, .int nm_157, .ref (ad (1 + d_140) 1), .ref (ad (1 + d_140) 9), .ref (ad (1 + d_140) 10), .ref (ad (1 + d_140) 2), .ref (ad (1 + d_140) 11), .ref (ad (1 + d_140) 12), .ref (ad (1 + d_140) 3), .ref (ad (1 + d_140) 4), .int sd_157]) := (p_210 (1 + d_140) 0 (by omega)).trans c_201
            have hP : va_P D xcl (rp ad E207 RL) H := hP
            have hD : va_D A (rp ad E207 RL) := hD
            have hCm : ∀ t, BS w208 t ↔ (BS gb1 t ∨ t = 12 * z46 + d_140) := fun t => by rw [hp211]; exact BS_mark (by omega)
            refine lv_aload_n hx hb xd_Me_takeFirstSteps_85 rfl (lv_at hl 0 rfl) ?_
            refine px_get (D := D) (ci := 6) (v := .ref (ad (20 + z46) 0)) (C := xR_Me) (T := xT_Me) (N := 6) hx hb hT xi_Me hown hK.1 hP m_142 c_222 rfl 0 (by decide) (hT _ k5s_1) (fun _ h9 => h9) rfl xd_Me_takeFirstSteps_86 ?_
            refine lv_aload_n hx hb xd_Me_takeFirstSteps_89 rfl (lv_at hl 2 rfl) ?_
            refine px_get (D := D) (ci := 6) (v := .ref (ad (20 + n) 0)) (C := xR_Me) (T := xT_Me) (N := 6) hx hb hT xi_Me hown hK.1 hP ym0 c_214 rfl 0 (by decide) (hT _ k5s_1) (fun _ h9 => h9) rfl xd_Me_takeFirstSteps_90 ?_
            refine lv_acmp_eq (rx := (some (ad (20 + z46) 0))) (ry := (some (ad (20 + n) 0))) (tgt := 107) hx hb xd_Me_takeFirstSteps_93 (by decide) (fun hc226 => ?_) (fun hc226 => ?_)
            · refine lv_iinc (k := 1) (x := (nI i)) (v := (nI (i + 1))) hx hb xd_Me_takeFirstSteps_107 hl rfl (xb_inc i 1) (Nat.le_of_ble_eq_true rfl) rfl (fun ls hl => ?_)
              have hl : lv_has ls 3 [(1, .int (nI (i + 1))), (2, .ref (ad (20 + z46) (10 + 10 * z47))), (0, .ref (ad (20 + n) (10 + 10 * k)))] := hl
              refine lv_goto (tgt := 2) hx hb xd_Me_takeFirstSteps_110 (by decide) ?_
              exact ih1 (i + 1, E207, (va_up fr1 i (some (ad (20 + z46) (10 + 10 * z47)))), ga1, w208) _ _ _ (show rs - (i + 1) < rs - i by omega) (lv_sub hl [0, 2] rfl) hP hD hS ⟨(show (i + 1) ≤ rs from by first | assumption | omega), (show E207 (20 + n) (11 + 10 * k) = .inl (kA 6, rs, .inr (.inr (.inr (.inr (va_up fr1 i (some (ad (20 + z46) (10 + 10 * z47)))))))) from c_212), (show E207 (20 + n) (15 + 10 * k) = .inl (kA 0, 6, .inl ga1) from c_213), (show E207 (20 + n) (16 + 10 * k) = .inl (kA 0, 6, .inl w208) from p_209), (show ∀ b2 o2, ¬ (b2 = 20 + n ∧ o2 = 11 + 10 * k) → ¬ (b2 = 20 + n ∧ o2 = 15 + 10 * k) → ¬ (b2 = 20 + n ∧ o2 = 16 + 10 * k) → E207 b2 o2 = E b2 o2 from fun b2 o2 h09 h19 h29 => by rw [p_210 b2 o2 (by omega), fE186 b2 o2 (by omega), hfr b2 o2 (by omega) (by omega) (by omega)]), (show RQX g kA ad E207 RL nd n d (i + 1) (va_up fr1 i (some (ad (20 + z46) (10 + 10 * z47)))) from RQX_RU (RU3 (b := 20 + n) (by omega) hcA1 hcA5 hcA6 c_212 c_213 p_209 (fun b2 o2 h19 h29 h39 => by rw [p_210 b2 o2 (by omega), fE186 b2 o2 (by omega)])) (RQX_add (by omega) z49 z50 z51 hRQ)), (show ∀ t, t < 72 → (BS ga1 t ↔ (BS ga t ∨ LSp g n d (i + 1) t)) from fun t ht => by rw [hL t ht, LSp_n (Or.inl (by rw [← hti9.2.2]; exact hc202))]), (show ∀ t, t < 72 → (BS w208 t ↔ (BS gb t ∨ CSp g n d (i + 1) t)) from fun t ht => by
        rw [hCm t, hC t ht, CSp_y (by rw [← hti9.2.1]; exact hc203) hlk9]
        constructor
        · rintro ((q | q) | q)
          · exact Or.inl q
          · exact Or.inr (Or.inl q)
          · exact Or.inr (Or.inr (Or.inl q))
        · rintro (q | q | q | q)
          · exact Or.inl (Or.inl q)
          · exact Or.inl (Or.inr q)
          · exact Or.inr q
          · exact absurd (show z46 = n from (by have q := (rp_inj hD m_136 m_38 (Option.some.inj hc226)).1; omega)) q.1)⟩
            · have hxn : ¬ z46 = n := fun e9 => hc226 (by rw [e9])
              refine lv_aload_n hx hb xd_Me_takeFirstSteps_96 rfl (lv_at hl 2 rfl) ?_
              refine px_get (D := D) (ci := 6) (v := .ref (ad (20 + n) (13 + 10 * k))) (C := xR_Me) (T := xT_Me) (N := 6) hx hb hT xi_Me hown hK.1 hP ym0 c_214 rfl 4 (by decide) (hT _ k5s_16) (fun _ h9 => h9) rfl xd_Me_takeFirstSteps_97 ?_
              refine lv_aload_n hx hb xd_Me_takeFirstSteps_100 rfl (lv_at hl 0 rfl) ?_
              refine px_get (D := D) (ci := 6) (v := .ref (ad (20 + z46) (13 + 10 * z47))) (C := xR_Me) (T := xT_Me) (N := 6) hx hb hT xi_Me hown hK.1 hP m_142 c_222 rfl 4 (by decide) (hT _ k5s_16) (fun _ h9 => h9) rfl xd_Me_takeFirstSteps_101 ?_
              have hFc := px_free hD hS hA
              refine va_callv (va_runV (As := [.ref (ad (20 + z46) (13 + 10 * z47))]) (rest := []) ⟨hx, hb, hml, hown, hT⟩ (xc_Re_joinX l D kA H.size ad E207 RL (20 + n) (13 + 10 * k) (16 + 10 * k) w208 (20 + z46) (13 + 10 * z47) (16 + 10 * z47) g3_140 ym3 c_216 ym5 p_209 m_148 c_223 m_154 c_224 (by first | assumption | omega) (by first | assumption | omega)) (cwV 1 hT (wT_V k5s_24 k5s_25 k5s_26 k5s_21 k5s_23) rfl rfl rfl (by decide +kernel) ⟨Nat.le_of_ble_eq_true rfl, Nat.le_of_ble_eq_true rfl⟩) (px_preV hK hP hD ym3 c_216 rfl) rfl rfl hl.1 rfl (lv_room (Nat.le_of_ble_eq_true rfl)) xd_Me_takeFirstSteps_104 ⟨(Nat.le_of_ble_eq_true rfl), (Nat.le_of_ble_eq_true rfl)⟩) hS (fun q _ h => hFc q h) hFc (fun u228 t H1 locs ht hvm hp229 hB hz1 hk1 hS => ?_)
              obtain ⟨hP1, hD1⟩ := hB
              rw [ht] at hP1
              have hD1 := hD1.weaken (fun _ _ _ h => hFc _ h)
              generalize H1 = H at hP1 hS ⊢
              have hP := hP1
              have hD := hD1
              obtain ⟨E230, rfl⟩ : ∃ z, z = u228 := ⟨_, rfl⟩
              obtain ⟨w231, hp234, p_232, p_233⟩ := hp229
              have p_232 : E230 (20 + n) (16 + 10 * k) = .inl (kA 0, 6, .inl w231) := p_232
              have p_233 : (∀ b2 o2, ¬ (b2 = (20 + n) ∧ o2 = (16 + 10 * k)) → E230 b2 o2 = E207 b2 o2) := p_233
              have c_235 : E230 (20 + n) (11 + 10 * k) = .inl (kA 6, rs, .inr (.inr (.inr (.inr (va_up fr1 i (some (ad (20 + z46) (10 + 10 * z47)))))))) := (p_233 (20 + n) (11 + 10 * k) (by omega)).trans c_212
              have c_236 : E230 (20 + n) (15 + 10 * k) = .inl (kA 0, 6, .inl ga1) := (p_233 (20 + n) (15 + 10 * k) (by omega)).trans c_213
              have c_237 : E230 (20 + n) (10 + 10 * k) = .inr (6, [.ref (ad (20 + n) 0), .ref (ad (1 + d) 0), .ref (ad (20 + n) (11 + 10 * k)), .ref (ad (20 + n) (12 + 10 * k)), .ref (ad (20 + n) (13 + 10 * k)), .ref (ad (20 + n) (14 + 10 * k))]) := (p_233 (20 + n) (10 + 10 * k) (by omega)).trans c_214
              have c_238 : E230 (20 + n) (12 + 10 * k) = .inr (10, [.ref (ad (20 + n) (15 + 10 * k))]) := (p_233 (20 + n) (12 + 10 * k) (by omega)).trans c_215
              have c_239 : E230 (20 + n) (13 + 10 * k) = .inr (10, [.ref (ad (20 + n) (16 + 10 * k))]) := (p_233 (20 + n) (13 + 10 * k) (by omega)).trans c_216
              have c_240 : E230 (1 + d) 0 = .inr (7, [.int (nI d), .int fd_6, .int nm_6, .ref (ad (1 + d) 1), .ref (ad (1 + d) 9), .ref (ad (1 + d) 10), .ref (ad (1 + d) 2), .ref (ad (1 + d) 11), .ref (ad (1 + d) 12), .ref (ad (1 + d) 3), .ref (ad (1 + d) 4), .int sd_6]) := (p_233 (1 + d) 0 (by omega)).trans c_217
              have c_241 : E230 (1 + d) 11 = .inl (kA 2, 5, .inl tr_6) := (p_233 (1 + d) 11 (by omega)).trans c_218
              have c_242 : E230 (1 + d) 12 = .inl (kA 2, 5, .inl op_6) := (p_233 (1 + d) 12 (by omega)).trans c_219
              have c_243 : E230 (20 + n) 0 = .inr (5, [.int (nI n), (lyv ad lq_36), .ref (ad (20 + n) 1), .int op_36]) := (p_233 (20 + n) 0 (by omega)).trans c_220
              have c_244 : E230 (20 + z46) 0 = .inr (5, [.int (nI z46), (lyv ad lq_134), .ref (ad (20 + z46) 1), .int op_134]) := (p_233 (20 + z46) 0 (by omega)).trans c_221
              have c_245 : E230 (20 + z46) (10 + 10 * z47) = .inr (6, [.ref (ad (20 + z46) 0), .ref (ad (1 + d_140) 0), .ref (ad (20 + z46) (11 + 10 * z47)), .ref (ad (20 + z46) (12 + 10 * z47)), .ref (ad (20 + z46) (13 + 10 * z47)), .ref (ad (20 + z46) (14 + 10 * z47))]) := (p_233 (20 + z46) (10 + 10 * z47) (by omega)).trans c_222
              have c_246 : E230 (20 + z46) (13 + 10 * z47) = .inr (10, [.ref (ad (20 + z46) (16 + 10 * z47))]) := (p_233 (20 + z46) (13 + 10 * z47) (by omega)).trans c_223
              have c_247 : E230 (20 + z46) (16 + 10 * z47) = .inl (kA 0, 6, .inl g3_140) := (p_233 (20 + z46) (16 + 10 * z47) (by omega)).trans c_224
              have c_248 : E230 (1 + d_140) 0 = .inr (7, [.int (nI d_140), .int fd_157, .int nm_157, .ref (ad (1 + d_140) 1), .ref (ad (1 + d_140) 9), .ref (ad (1 + d_140) 10), .ref (ad (1 + d_140) 2), .ref (ad (1 + d_140) 11), .ref (ad (1 + d_140) 12), .ref (ad (1 + d_140) 3), .ref (ad (1 + d_140) 4), .int sd_157]) := (p_233 (1 + d_140) 0 (by omega)).trans c_225
              have hP : va_P D xcl (rp ad E230 RL) H := hP
              have hD : va_D A (rp ad E230 RL) := hD
              have hCj : ∀ t, t < 72 → (BS w231 t ↔ ((BS gb1 t ∨ t = 12 * z46 + d_140) ∨ tc (pst g) (12 * z46 + d_140) t)) := fun t ht => by
                rw [BS_join ht hp234, hCm t]
                have q := hCB1 z46 (by omega) z47 (by have q9 := hkk9; have q8 := i20_134; omega) t ht
                rw [hdm_140, hoc9] at q
                rw [← q]
              refine lv_iinc (k := 1) (x := (nI i)) (v := (nI (i + 1))) hx hb xd_Me_takeFirstSteps_107 hl rfl (xb_inc i 1) (Nat.le_of_ble_eq_true rfl) rfl (fun ls hl => ?_)
              have hl : lv_has ls 3 [(1, .int (nI (i + 1))), (2, .ref (ad (20 + z46) (10 + 10 * z47))), (0, .ref (ad (20 + n) (10 + 10 * k)))] := hl
              refine lv_goto (tgt := 2) hx hb xd_Me_takeFirstSteps_110 (by decide) ?_
              exact ih1 (i + 1, E230, (va_up fr1 i (some (ad (20 + z46) (10 + 10 * z47)))), ga1, w231) _ _ _ (show rs - (i + 1) < rs - i by omega) (lv_sub hl [0, 2] rfl) hP hD hS ⟨(show (i + 1) ≤ rs from by first | assumption | omega), (show E230 (20 + n) (11 + 10 * k) = .inl (kA 6, rs, .inr (.inr (.inr (.inr (va_up fr1 i (some (ad (20 + z46) (10 + 10 * z47)))))))) from c_235), (show E230 (20 + n) (15 + 10 * k) = .inl (kA 0, 6, .inl ga1) from c_236), (show E230 (20 + n) (16 + 10 * k) = .inl (kA 0, 6, .inl w231) from p_232), (show ∀ b2 o2, ¬ (b2 = 20 + n ∧ o2 = 11 + 10 * k) → ¬ (b2 = 20 + n ∧ o2 = 15 + 10 * k) → ¬ (b2 = 20 + n ∧ o2 = 16 + 10 * k) → E230 b2 o2 = E b2 o2 from fun b2 o2 h09 h19 h29 => by rw [p_233 b2 o2 (by omega), p_210 b2 o2 (by omega), fE186 b2 o2 (by omega), hfr b2 o2 (by omega) (by omega) (by omega)]), (show RQX g kA ad E230 RL nd n d (i + 1) (va_up fr1 i (some (ad (20 + z46) (10 + 10 * z47)))) from RQX_RU (RU3 (b := 20 + n) (by omega) hcA1 hcA5 hcA6 c_235 c_236 p_232 (fun b2 o2 h19 h29 h39 => by rw [p_233 b2 o2 (by omega), p_210 b2 o2 (by omega), fE186 b2 o2 (by omega)])) (RQX_add (by omega) z49 z50 z51 hRQ)), (show ∀ t, t < 72 → (BS ga1 t ↔ (BS ga t ∨ LSp g n d (i + 1) t)) from fun t ht => by rw [hL t ht, LSp_n (Or.inl (by rw [← hti9.2.2]; exact hc202))]), (show ∀ t, t < 72 → (BS w231 t ↔ (BS gb t ∨ CSp g n d (i + 1) t)) from fun t ht => by
        rw [hCj t ht, hC t ht, CSp_y (by rw [← hti9.2.1]; exact hc203) hlk9]
        constructor
        · rintro ((q | q) | q)
          · exact q.elim Or.inl (fun z => Or.inr (Or.inl z))
          · exact Or.inr (Or.inr (Or.inl q))
          · exact Or.inr (Or.inr (Or.inr ⟨hxn, q⟩))
        · rintro (q | q | q | q)
          · exact Or.inl (Or.inl (Or.inl q))
          · exact Or.inl (Or.inl (Or.inr q))
          · exact Or.inl (Or.inr q)
          · exact Or.inr q.2)⟩
        · refine lv_aload_n hx hb xd_Me_takeFirstSteps_53 rfl (lv_at hl 2 rfl) ?_
          refine px_get (D := D) (ci := 6) (v := .ref (ad (20 + n) (12 + 10 * k))) (C := xR_Me) (T := xT_Me) (N := 6) hx hb hT xi_Me hown hK.1 hP ym0 c_190 rfl 3 (by decide) (hT _ k5s_22) (fun _ h9 => h9) rfl xd_Me_takeFirstSteps_54 ?_
          refine lv_aload_n hx hb xd_Me_takeFirstSteps_57 rfl (lv_at hl 0 rfl) ?_
          have hFc := px_free hD hS hA
          refine va_callv (va_runV (As := [.ref (ad (20 + z46) (10 + 10 * z47))]) (rest := []) ⟨hx, hb, hml, hown, hT⟩ (xc_Re_mark l D kA H.size ad E184 RL (20 + n) (12 + 10 * k) (15 + 10 * k) ga1 z46 z47 d_140 (lyv ad lq_134) op_134 fd_157 nm_157 sd_157 ym2 c_191 ym4 c_188 m_142 c_198 m_136 c_197 m_159 c_201 (by first | assumption | omega) (by first | assumption | omega) (by first | assumption | omega)) (cwV 1 hT (wT_V k5s_18 k5s_19 k5s_20 k5s_21 k5s_17) rfl rfl rfl (by decide +kernel) ⟨Nat.le_of_ble_eq_true rfl, Nat.le_of_ble_eq_true rfl⟩) (px_preV hK hP hD ym2 c_191 rfl) rfl rfl hl.1 rfl (lv_room (Nat.le_of_ble_eq_true rfl)) xd_Me_takeFirstSteps_58 ⟨(Nat.le_of_ble_eq_true rfl), (Nat.le_of_ble_eq_true rfl)⟩) hS (fun q _ h => hFc q h) hFc (fun u250 t H1 locs ht hvm hp251 hB hz1 hk1 hS => ?_)
          obtain ⟨hP1, hD1⟩ := hB
          rw [ht] at hP1
          have hD1 := hD1.weaken (fun _ _ _ h => hFc _ h)
          generalize H1 = H at hP1 hS ⊢
          have hP := hP1
          have hD := hD1
          obtain ⟨E252, rfl⟩ : ∃ z, z = u250 := ⟨_, rfl⟩
          obtain ⟨w253, hp256, p_254, p_255⟩ := hp251
          have p_254 : E252 (20 + n) (15 + 10 * k) = .inl (kA 0, 6, .inl w253) := p_254
          have p_255 : (∀ b2 o2, ¬ (b2 = (20 + n) ∧ o2 = (15 + 10 * k)) → E252 b2 o2 = E184 b2 o2) := p_255
          have c_257 : E252 (20 + n) (11 + 10 * k) = .inl (kA 6, rs, .inr (.inr (.inr (.inr (va_up fr1 i (some (ad (20 + z46) (10 + 10 * z47)))))))) := (p_255 (20 + n) (11 + 10 * k) (by omega)).trans c_187
          have c_258 : E252 (20 + n) (16 + 10 * k) = .inl (kA 0, 6, .inl gb1) := (p_255 (20 + n) (16 + 10 * k) (by omega)).trans c_189
          have c_259 : E252 (20 + n) (10 + 10 * k) = .inr (6, [.ref (ad (20 + n) 0), .ref (ad (1 + d) 0), .ref (ad (20 + n) (11 + 10 * k)), .ref (ad (20 + n) (12 + 10 * k)), .ref (ad (20 + n) (13 + 10 * k)), .ref (ad (20 + n) (14 + 10 * k))]) := (p_255 (20 + n) (10 + 10 * k) (by omega)).trans c_190
          have c_260 : E252 (20 + n) (12 + 10 * k) = .inr (10, [.ref (ad (20 + n) (15 + 10 * k))]) := (p_255 (20 + n) (12 + 10 * k) (by omega)).trans c_191
          have c_261 : E252 (20 + n) (13 + 10 * k) = .inr (10, [.ref (ad (20 + n) (16 + 10 * k))]) := (p_255 (20 + n) (13 + 10 * k) (by omega)).trans c_192
          have c_262 : E252 (1 + d) 0 = .inr (7, [.int (nI d), .int fd_6, .int nm_6, .ref (ad (1 + d) 1), .ref (ad (1 + d) 9), .ref (ad (1 + d) 10), .ref (ad (1 + d) 2), .ref (ad (1 + d) 11), .ref (ad (1 + d) 12), .ref (ad (1 + d) 3), .ref (ad (1 + d) 4), .int sd_6]) := (p_255 (1 + d) 0 (by omega)).trans c_193
          have c_263 : E252 (1 + d) 11 = .inl (kA 2, 5, .inl tr_6) := (p_255 (1 + d) 11 (by omega)).trans c_194
          have c_264 : E252 (1 + d) 12 = .inl (kA 2, 5, .inl op_6) := (p_255 (1 + d) 12 (by omega)).trans c_195
          have c_265 : E252 (20 + n) 0 = .inr (5, [.int (nI n), (lyv ad lq_36), .ref (ad (20 + n) 1), .int op_36]) := (p_255 (20 + n) 0 (by omega)).trans c_196
          have c_266 : E252 (20 + z46) 0 = .inr (5, [.int (nI z46), (lyv ad lq_134), .ref (ad (20 + z46) 1), .int op_134]) := (p_255 (20 + z46) 0 (by omega)).trans c_197
          have c_267 : E252 (20 + z46) (10 + 10 * z47) = .inr (6, [.ref (ad (20 + z46) 0), .ref (ad (1 + d_140) 0), .ref (ad (20 + z46) (11 + 10 * z47)), .ref (ad (20 + z46) (12 + 10 * z47)), .ref (ad (20 + z46) (13 + 10 * z47)), .ref (ad (20 + z46) (14 + 10 * z47))]) := (p_255 (20 + z46) (10 + 10 * z47) (by omega)).trans c_198
          have c_268 : E252 (20 + z46) (13 + 10 * z47) = .inr (10, [.ref (ad (20 + z46) (16 + 10 * z47))]) := (p_255 (20 + z46) (13 + 10 * z47) (by omega)).trans c_199
          have c_269 : E252 (20 + z46) (16 + 10 * z47) = .inl (kA 0, 6, .inl g3_140) := (p_255 (20 + z46) (16 + 10 * z47) (by omega)).trans c_200
          have c_270 : E252 (1 + d_140) 0 = .inr (7, [.int (nI d_140), .int fd_157, .int nm_157, .ref (ad (1 + d_140) 1), .ref (ad (1 + d_140) 9), .ref (ad (1 + d_140) 10), .ref (ad (1 + d_140) 2), .ref (ad (1 + d_140) 11), .ref (ad (1 + d_140) 12), .ref (ad (1 + d_140) 3), .ref (ad (1 + d_140) 4), .int sd_157]) := (p_255 (1 + d_140) 0 (by omega)).trans c_201
          have hP : va_P D xcl (rp ad E252 RL) H := hP
          have hD : va_D A (rp ad E252 RL) := hD
          have hLm : ∀ t, BS w253 t ↔ (BS ga1 t ∨ t = 12 * z46 + d_140) := fun t => by rw [hp256]; exact BS_mark (by omega)
          refine lv_aload_n hx hb xd_Me_takeFirstSteps_61 rfl (lv_at hl 0 rfl) ?_
          refine lv_ifnull hx hb xd_Me_takeFirstSteps_62 ?_
          refine lv_aload_n hx hb xd_Me_takeFirstSteps_65 rfl (lv_at hl 2 rfl) ?_
          refine px_get (D := D) (ci := 6) (v := .ref (ad (1 + d) 0)) (C := xR_Me) (T := xT_Me) (N := 6) hx hb hT xi_Me hown hK.1 hP ym0 c_259 rfl 1 (by decide) (hT _ k5s_2) (fun _ h9 => h9) rfl xd_Me_takeFirstSteps_66 ?_
          refine px_get (D := D) (ci := 7) (v := .ref (ad (1 + d) 11)) (C := xR_Ds) (T := xT_Ds) (N := 12) hx hb hT xi_Ds hown hK.1 hP m_8 c_262 rfl 7 (by decide) (hT _ k5s_15) (fun _ h9 => h9) rfl xd_Me_takeFirstSteps_69 ?_
          refine lv_iload_n hx hb xd_Me_takeFirstSteps_72 rfl (lv_at hl 1 rfl) ?_
          refine px_zald (i := i) hx hb hK.1 hP m_30 c_263 2 rfl (by omega) (by decide) xd_Me_takeFirstSteps_73 ?_
          refine lv_if_eq (tgt := 107) hx hb xd_Me_takeFirstSteps_74 (by decide) (fun hc271 => ?_) (fun hc271 => ?_)
          · refine lv_iinc (k := 1) (x := (nI i)) (v := (nI (i + 1))) hx hb xd_Me_takeFirstSteps_107 hl rfl (xb_inc i 1) (Nat.le_of_ble_eq_true rfl) rfl (fun ls hl => ?_)
            have hl : lv_has ls 3 [(1, .int (nI (i + 1))), (2, .ref (ad (20 + z46) (10 + 10 * z47))), (0, .ref (ad (20 + n) (10 + 10 * k)))] := hl
            refine lv_goto (tgt := 2) hx hb xd_Me_takeFirstSteps_110 (by decide) ?_
            exact ih1 (i + 1, E252, (va_up fr1 i (some (ad (20 + z46) (10 + 10 * z47)))), w253, gb1) _ _ _ (show rs - (i + 1) < rs - i by omega) (lv_sub hl [0, 2] rfl) hP hD hS ⟨(show (i + 1) ≤ rs from by first | assumption | omega), (show E252 (20 + n) (11 + 10 * k) = .inl (kA 6, rs, .inr (.inr (.inr (.inr (va_up fr1 i (some (ad (20 + z46) (10 + 10 * z47)))))))) from c_257), (show E252 (20 + n) (15 + 10 * k) = .inl (kA 0, 6, .inl w253) from p_254), (show E252 (20 + n) (16 + 10 * k) = .inl (kA 0, 6, .inl gb1) from c_258), (show ∀ b2 o2, ¬ (b2 = 20 + n ∧ o2 = 11 + 10 * k) → ¬ (b2 = 20 + n ∧ o2 = 15 + 10 * k) → ¬ (b2 = 20 + n ∧ o2 = 16 + 10 * k) → E252 b2 o2 = E b2 o2 from fun b2 o2 h09 h19 h29 => by rw [p_255 b2 o2 (by omega), fE186 b2 o2 (by omega), hfr b2 o2 (by omega) (by omega) (by omega)]), (show RQX g kA ad E252 RL nd n d (i + 1) (va_up fr1 i (some (ad (20 + z46) (10 + 10 * z47)))) from RQX_RU (RU3 (b := 20 + n) (by omega) hcA1 hcA5 hcA6 c_257 p_254 c_258 (fun b2 o2 h19 h29 h39 => by rw [p_255 b2 o2 (by omega), fE186 b2 o2 (by omega)])) (RQX_add (by omega) z49 z50 z51 hRQ)), (show ∀ t, t < 72 → (BS w253 t ↔ (BS ga t ∨ LSp g n d (i + 1) t)) from fun t ht => by rw [hLm t, hL t ht, LSp_y (by rw [← hti9.2.2]; exact hc202) hlk9, or_assoc]), (show ∀ t, t < 72 → (BS gb1 t ↔ (BS gb t ∨ CSp g n d (i + 1) t)) from fun t ht => by rw [hC t ht, CSp_n (Or.inl (by rw [← hti9.2.1]; exact hc271))])⟩
          · refine lv_aload_n hx hb xd_Me_takeFirstSteps_77 rfl (lv_at hl 2 rfl) ?_
            refine px_get (D := D) (ci := 6) (v := .ref (ad (20 + n) (13 + 10 * k))) (C := xR_Me) (T := xT_Me) (N := 6) hx hb hT xi_Me hown hK.1 hP ym0 c_259 rfl 4 (by decide) (hT _ k5s_16) (fun _ h9 => h9) rfl xd_Me_takeFirstSteps_78 ?_
            refine lv_aload_n hx hb xd_Me_takeFirstSteps_81 rfl (lv_at hl 0 rfl) ?_
            have hFc := px_free hD hS hA
            refine va_callv (va_runV (As := [.ref (ad (20 + z46) (10 + 10 * z47))]) (rest := []) ⟨hx, hb, hml, hown, hT⟩ (xc_Re_mark l D kA H.size ad E252 RL (20 + n) (13 + 10 * k) (16 + 10 * k) gb1 z46 z47 d_140 (lyv ad lq_134) op_134 fd_157 nm_157 sd_157 ym3 c_261 ym5 c_258 m_142 c_267 m_136 c_266 m_159 c_270 (by first | assumption | omega) (by first | assumption | omega) (by first | assumption | omega)) (cwV 1 hT (wT_V k5s_18 k5s_19 k5s_20 k5s_21 k5s_17) rfl rfl rfl (by decide +kernel) ⟨Nat.le_of_ble_eq_true rfl, Nat.le_of_ble_eq_true rfl⟩) (px_preV hK hP hD ym3 c_261 rfl) rfl rfl hl.1 rfl (lv_room (Nat.le_of_ble_eq_true rfl)) xd_Me_takeFirstSteps_82 ⟨(Nat.le_of_ble_eq_true rfl), (Nat.le_of_ble_eq_true rfl)⟩) hS (fun q _ h => hFc q h) hFc (fun u273 t H1 locs ht hvm hp274 hB hz1 hk1 hS => ?_)
            obtain ⟨hP1, hD1⟩ := hB
            rw [ht] at hP1
            have hD1 := hD1.weaken (fun _ _ _ h => hFc _ h)
            generalize H1 = H at hP1 hS ⊢
            have hP := hP1
            have hD := hD1
            obtain ⟨E275, rfl⟩ : ∃ z, z = u273 := ⟨_, rfl⟩
            obtain ⟨w276, hp279, p_277, p_278⟩ := hp274
            have p_277 : E275 (20 + n) (16 + 10 * k) = .inl (kA 0, 6, .inl w276) := p_277
            have p_278 : (∀ b2 o2, ¬ (b2 = (20 + n) ∧ o2 = (16 + 10 * k)) → E275 b2 o2 = E252 b2 o2) := p_278
            have c_280 : E275 (20 + n) (15 + 10 * k) = .inl (kA 0, 6, .inl w253) := (p_278 (20 + n) (15 + 10 * k) (by omega)).trans p_254
            have c_281 : E275 (20 + n) (11 + 10 * k) = .inl (kA 6, rs, .inr (.inr (.inr (.inr (va_up fr1 i (some (ad (20 + z46) (10 + 10 * z47)))))))) := (p_278 (20 + n) (11 + 10 * k) (by omega)).trans c_257
            have c_282 : E275 (20 + n) (10 + 10 * k) = .inr (6, [.ref (ad (20 + n) 0), .ref (ad (1 + d) 0), .ref (ad (20 + n) (11 + 10 * k)), .ref (ad (20 + n) (12 + 10 * k)), .ref (ad (20 + n) (13 + 10 * k)), .ref (ad (20 + n) (14 + 10 * k))]) := (p_278 (20 + n) (10 + 10 * k) (by omega)).trans c_259
            have c_283 : E275 (20 + n) (12 + 10 * k) = .inr (10, [.ref (ad (20 + n) (15 + 10 * k))]) := (p_278 (20 + n) (12 + 10 * k) (by omega)).trans c_260
            have c_284 : E275 (20 + n) (13 + 10 * k) = .inr (10, [.ref (ad (20 + n) (16 + 10 * k))]) := (p_278 (20 + n) (13 + 10 * k) (by omega)).trans c_261
            have c_285 : E275 (1 + d) 0 = .inr (7, [.int (nI d), .int fd_6, .int nm_6, .ref (ad (1 + d) 1), .ref (ad (1 + d) 9), .ref (ad (1 + d) 10), .ref (ad (1 + d) 2), .ref (ad (1 + d) 11), .ref (ad (1 + d) 12), .ref (ad (1 + d) 3), .ref (ad (1 + d) 4), .int sd_6]) := (p_278 (1 + d) 0 (by omega)).trans c_262
            have c_286 : E275 (1 + d) 11 = .inl (kA 2, 5, .inl tr_6) := (p_278 (1 + d) 11 (by omega)).trans c_263
            have c_287 : E275 (1 + d) 12 = .inl (kA 2, 5, .inl op_6) := (p_278 (1 + d) 12 (by omega)).trans c_264
            have c_288 : E275 (20 + n) 0 = .inr (5, [.int (nI n), (lyv ad lq_36), .ref (ad (20 + n) 1), .int op_36]) := (p_278 (20 + n) 0 (by omega)).trans c_265
            have c_289 : E275 (20 + z46) 0 = .inr (5, [.int (nI z46), (lyv ad lq_134), .ref (ad (20 + z46) 1), .int op_134]) := (p_278 (20 + z46) 0 (by omega)).trans c_266
            have c_290 : E275 (20 + z46) (10 + 10 * z47) = .inr (6, [.ref (ad (20 + z46) 0), .ref (ad (1 + d_140) 0), .ref (ad (20 + z46) (11 + 10 * z47)), .ref (ad (20 + z46) (12 + 10 * z47)), .ref (ad (20 + z46) (13 + 10 * z47)), .ref (ad (20 + z46) (14 + 10 * z47))]) := (p_278 (20 + z46) (10 + 10 * z47) (by omega)).trans c_267
            have c_291 : E275 (20 + z46) (13 + 10 * z47) = .inr (10, [.ref (ad (20 + z46) (16 + 10 * z47))]) := (p_278 (20 + z46) (13 + 10 * z47) (by omega)).trans c_268
            have c_292 : E275 (20 + z46) (16 + 10 * z47) = .inl (kA 0, 6, .inl g3_140) := (p_278 (20 + z46) (16 + 10 * z47) (by omega)).trans c_269
            have c_293 : E275 (1 + d_140) 0 = .inr (7, [.int (nI d_140), .int fd_157, .int nm_157, .ref (ad (1 + d_140) 1), .ref (ad (1 + d_140) 9), .ref (ad (1 + d_140) 10), .ref (ad (1 + d_140) 2), .ref (ad (1 + d_140) 11), .ref (ad (1 + d_140) 12), .ref (ad (1 + d_140) 3), .ref (ad (1 + d_140) 4), .int sd_157]) := (p_278 (1 + d_140) 0 (by omega)).trans c_270
            have hP : va_P D xcl (rp ad E275 RL) H := hP
            have hD : va_D A (rp ad E275 RL) := hD
            have hCm : ∀ t, BS w276 t ↔ (BS gb1 t ∨ t = 12 * z46 + d_140) := fun t => by rw [hp279]; exact BS_mark (by omega)
            refine lv_aload_n hx hb xd_Me_takeFirstSteps_85 rfl (lv_at hl 0 rfl) ?_
            refine px_get (D := D) (ci := 6) (v := .ref (ad (20 + z46) 0)) (C := xR_Me) (T := xT_Me) (N := 6) hx hb hT xi_Me hown hK.1 hP m_142 c_290 rfl 0 (by decide) (hT _ k5s_1) (fun _ h9 => h9) rfl xd_Me_takeFirstSteps_86 ?_
            refine lv_aload_n hx hb xd_Me_takeFirstSteps_89 rfl (lv_at hl 2 rfl) ?_
            refine px_get (D := D) (ci := 6) (v := .ref (ad (20 + n) 0)) (C := xR_Me) (T := xT_Me) (N := 6) hx hb hT xi_Me hown hK.1 hP ym0 c_282 rfl 0 (by decide) (hT _ k5s_1) (fun _ h9 => h9) rfl xd_Me_takeFirstSteps_90 ?_
            refine lv_acmp_eq (rx := (some (ad (20 + z46) 0))) (ry := (some (ad (20 + n) 0))) (tgt := 107) hx hb xd_Me_takeFirstSteps_93 (by decide) (fun hc294 => ?_) (fun hc294 => ?_)
            · refine lv_iinc (k := 1) (x := (nI i)) (v := (nI (i + 1))) hx hb xd_Me_takeFirstSteps_107 hl rfl (xb_inc i 1) (Nat.le_of_ble_eq_true rfl) rfl (fun ls hl => ?_)
              have hl : lv_has ls 3 [(1, .int (nI (i + 1))), (2, .ref (ad (20 + z46) (10 + 10 * z47))), (0, .ref (ad (20 + n) (10 + 10 * k)))] := hl
              refine lv_goto (tgt := 2) hx hb xd_Me_takeFirstSteps_110 (by decide) ?_
              exact ih1 (i + 1, E275, (va_up fr1 i (some (ad (20 + z46) (10 + 10 * z47)))), w253, w276) _ _ _ (show rs - (i + 1) < rs - i by omega) (lv_sub hl [0, 2] rfl) hP hD hS ⟨(show (i + 1) ≤ rs from by first | assumption | omega), (show E275 (20 + n) (11 + 10 * k) = .inl (kA 6, rs, .inr (.inr (.inr (.inr (va_up fr1 i (some (ad (20 + z46) (10 + 10 * z47)))))))) from c_281), (show E275 (20 + n) (15 + 10 * k) = .inl (kA 0, 6, .inl w253) from c_280), (show E275 (20 + n) (16 + 10 * k) = .inl (kA 0, 6, .inl w276) from p_277), (show ∀ b2 o2, ¬ (b2 = 20 + n ∧ o2 = 11 + 10 * k) → ¬ (b2 = 20 + n ∧ o2 = 15 + 10 * k) → ¬ (b2 = 20 + n ∧ o2 = 16 + 10 * k) → E275 b2 o2 = E b2 o2 from fun b2 o2 h09 h19 h29 => by rw [p_278 b2 o2 (by omega), p_255 b2 o2 (by omega), fE186 b2 o2 (by omega), hfr b2 o2 (by omega) (by omega) (by omega)]), (show RQX g kA ad E275 RL nd n d (i + 1) (va_up fr1 i (some (ad (20 + z46) (10 + 10 * z47)))) from RQX_RU (RU3 (b := 20 + n) (by omega) hcA1 hcA5 hcA6 c_281 c_280 p_277 (fun b2 o2 h19 h29 h39 => by rw [p_278 b2 o2 (by omega), p_255 b2 o2 (by omega), fE186 b2 o2 (by omega)])) (RQX_add (by omega) z49 z50 z51 hRQ)), (show ∀ t, t < 72 → (BS w253 t ↔ (BS ga t ∨ LSp g n d (i + 1) t)) from fun t ht => by rw [hLm t, hL t ht, LSp_y (by rw [← hti9.2.2]; exact hc202) hlk9, or_assoc]), (show ∀ t, t < 72 → (BS w276 t ↔ (BS gb t ∨ CSp g n d (i + 1) t)) from fun t ht => by
        rw [hCm t, hC t ht, CSp_y (by rw [← hti9.2.1]; exact hc271) hlk9]
        constructor
        · rintro ((q | q) | q)
          · exact Or.inl q
          · exact Or.inr (Or.inl q)
          · exact Or.inr (Or.inr (Or.inl q))
        · rintro (q | q | q | q)
          · exact Or.inl (Or.inl q)
          · exact Or.inl (Or.inr q)
          · exact Or.inr q
          · exact absurd (show z46 = n from (by have q := (rp_inj hD m_136 m_38 (Option.some.inj hc294)).1; omega)) q.1)⟩
            · have hxn : ¬ z46 = n := fun e9 => hc294 (by rw [e9])
              refine lv_aload_n hx hb xd_Me_takeFirstSteps_96 rfl (lv_at hl 2 rfl) ?_
              refine px_get (D := D) (ci := 6) (v := .ref (ad (20 + n) (13 + 10 * k))) (C := xR_Me) (T := xT_Me) (N := 6) hx hb hT xi_Me hown hK.1 hP ym0 c_282 rfl 4 (by decide) (hT _ k5s_16) (fun _ h9 => h9) rfl xd_Me_takeFirstSteps_97 ?_
              refine lv_aload_n hx hb xd_Me_takeFirstSteps_100 rfl (lv_at hl 0 rfl) ?_
              refine px_get (D := D) (ci := 6) (v := .ref (ad (20 + z46) (13 + 10 * z47))) (C := xR_Me) (T := xT_Me) (N := 6) hx hb hT xi_Me hown hK.1 hP m_142 c_290 rfl 4 (by decide) (hT _ k5s_16) (fun _ h9 => h9) rfl xd_Me_takeFirstSteps_101 ?_
              have hFc := px_free hD hS hA
              refine va_callv (va_runV (As := [.ref (ad (20 + z46) (13 + 10 * z47))]) (rest := []) ⟨hx, hb, hml, hown, hT⟩ (xc_Re_joinX l D kA H.size ad E275 RL (20 + n) (13 + 10 * k) (16 + 10 * k) w276 (20 + z46) (13 + 10 * z47) (16 + 10 * z47) g3_140 ym3 c_284 ym5 p_277 m_148 c_291 m_154 c_292 (by first | assumption | omega) (by first | assumption | omega)) (cwV 1 hT (wT_V k5s_24 k5s_25 k5s_26 k5s_21 k5s_23) rfl rfl rfl (by decide +kernel) ⟨Nat.le_of_ble_eq_true rfl, Nat.le_of_ble_eq_true rfl⟩) (px_preV hK hP hD ym3 c_284 rfl) rfl rfl hl.1 rfl (lv_room (Nat.le_of_ble_eq_true rfl)) xd_Me_takeFirstSteps_104 ⟨(Nat.le_of_ble_eq_true rfl), (Nat.le_of_ble_eq_true rfl)⟩) hS (fun q _ h => hFc q h) hFc (fun u296 t H1 locs ht hvm hp297 hB hz1 hk1 hS => ?_)
              obtain ⟨hP1, hD1⟩ := hB
              rw [ht] at hP1
              have hD1 := hD1.weaken (fun _ _ _ h => hFc _ h)
              generalize H1 = H at hP1 hS ⊢
              have hP := hP1
              have hD := hD1
              obtain ⟨E298, rfl⟩ : ∃ z, z = u296 := ⟨_, rfl⟩
              obtain ⟨w299, hp302, p_300, p_301⟩ := hp297
              have p_300 : E298 (20 + n) (16 + 10 * k) = .inl (kA 0, 6, .inl w299) := p_300
              have p_301 : (∀ b2 o2, ¬ (b2 = (20 + n) ∧ o2 = (16 + 10 * k)) → E298 b2 o2 = E275 b2 o2) := p_301
              have c_303 : E298 (20 + n) (15 + 10 * k) = .inl (kA 0, 6, .inl w253) := (p_301 (20 + n) (15 + 10 * k) (by omega)).trans c_280
              have c_304 : E298 (20 + n) (11 + 10 * k) = .inl (kA 6, rs, .inr (.inr (.inr (.inr (va_up fr1 i (some (ad (20 + z46) (10 + 10 * z47)))))))) := (p_301 (20 + n) (11 + 10 * k) (by omega)).trans c_281
              have c_305 : E298 (20 + n) (10 + 10 * k) = .inr (6, [.ref (ad (20 + n) 0), .ref (ad (1 + d) 0), .ref (ad (20 + n) (11 + 10 * k)), .ref (ad (20 + n) (12 + 10 * k)), .ref (ad (20 + n) (13 + 10 * k)), .ref (ad (20 + n) (14 + 10 * k))]) := (p_301 (20 + n) (10 + 10 * k) (by omega)).trans c_282
              have c_306 : E298 (20 + n) (12 + 10 * k) = .inr (10, [.ref (ad (20 + n) (15 + 10 * k))]) := (p_301 (20 + n) (12 + 10 * k) (by omega)).trans c_283
              have c_307 : E298 (20 + n) (13 + 10 * k) = .inr (10, [.ref (ad (20 + n) (16 + 10 * k))]) := (p_301 (20 + n) (13 + 10 * k) (by omega)).trans c_284
              have c_308 : E298 (1 + d) 0 = .inr (7, [.int (nI d), .int fd_6, .int nm_6, .ref (ad (1 + d) 1), .ref (ad (1 + d) 9), .ref (ad (1 + d) 10), .ref (ad (1 + d) 2), .ref (ad (1 + d) 11), .ref (ad (1 + d) 12), .ref (ad (1 + d) 3), .ref (ad (1 + d) 4), .int sd_6]) := (p_301 (1 + d) 0 (by omega)).trans c_285
              have c_309 : E298 (1 + d) 11 = .inl (kA 2, 5, .inl tr_6) := (p_301 (1 + d) 11 (by omega)).trans c_286
              have c_310 : E298 (1 + d) 12 = .inl (kA 2, 5, .inl op_6) := (p_301 (1 + d) 12 (by omega)).trans c_287
              have c_311 : E298 (20 + n) 0 = .inr (5, [.int (nI n), (lyv ad lq_36), .ref (ad (20 + n) 1), .int op_36]) := (p_301 (20 + n) 0 (by omega)).trans c_288
              have c_312 : E298 (20 + z46) 0 = .inr (5, [.int (nI z46), (lyv ad lq_134), .ref (ad (20 + z46) 1), .int op_134]) := (p_301 (20 + z46) 0 (by omega)).trans c_289
              have c_313 : E298 (20 + z46) (10 + 10 * z47) = .inr (6, [.ref (ad (20 + z46) 0), .ref (ad (1 + d_140) 0), .ref (ad (20 + z46) (11 + 10 * z47)), .ref (ad (20 + z46) (12 + 10 * z47)), .ref (ad (20 + z46) (13 + 10 * z47)), .ref (ad (20 + z46) (14 + 10 * z47))]) := (p_301 (20 + z46) (10 + 10 * z47) (by omega)).trans c_290
              have c_314 : E298 (20 + z46) (13 + 10 * z47) = .inr (10, [.ref (ad (20 + z46) (16 + 10 * z47))]) := (p_301 (20 + z46) (13 + 10 * z47) (by omega)).trans c_291
              have c_315 : E298 (20 + z46) (16 + 10 * z47) = .inl (kA 0, 6, .inl g3_140) := (p_301 (20 + z46) (16 + 10 * z47) (by omega)).trans c_292
              have c_316 : E298 (1 + d_140) 0 = .inr (7, [.int (nI d_140), .int fd_157, .int nm_157, .ref (ad (1 + d_140) 1), .ref (ad (1 + d_140) 9), .ref (ad (1 + d_140) 10), .ref (ad (1 + d_140) 2), .ref (ad (1 + d_140) 11), .ref (ad (1 + d_140) 12), .ref (ad (1 + d_140) 3), .ref (ad (1 + d_140) 4), .int sd_157]) := (p_301 (1 + d_140) 0 (by omega)).trans c_293
              have hP : va_P D xcl (rp ad E298 RL) H := hP
              have hD : va_D A (rp ad E298 RL) := hD
              have hCj : ∀ t, t < 72 → (BS w299 t ↔ ((BS gb1 t ∨ t = 12 * z46 + d_140) ∨ tc (pst g) (12 * z46 + d_140) t)) := fun t ht => by
                rw [BS_join ht hp302, hCm t]
                have q := hCB1 z46 (by omega) z47 (by have q9 := hkk9; have q8 := i20_134; omega) t ht
                rw [hdm_140, hoc9] at q
                rw [← q]
              refine lv_iinc (k := 1) (x := (nI i)) (v := (nI (i + 1))) hx hb xd_Me_takeFirstSteps_107 hl rfl (xb_inc i 1) (Nat.le_of_ble_eq_true rfl) rfl (fun ls hl => ?_)
              have hl : lv_has ls 3 [(1, .int (nI (i + 1))), (2, .ref (ad (20 + z46) (10 + 10 * z47))), (0, .ref (ad (20 + n) (10 + 10 * k)))] := hl
              refine lv_goto (tgt := 2) hx hb xd_Me_takeFirstSteps_110 (by decide) ?_
              exact ih1 (i + 1, E298, (va_up fr1 i (some (ad (20 + z46) (10 + 10 * z47)))), w253, w299) _ _ _ (show rs - (i + 1) < rs - i by omega) (lv_sub hl [0, 2] rfl) hP hD hS ⟨(show (i + 1) ≤ rs from by first | assumption | omega), (show E298 (20 + n) (11 + 10 * k) = .inl (kA 6, rs, .inr (.inr (.inr (.inr (va_up fr1 i (some (ad (20 + z46) (10 + 10 * z47)))))))) from c_304), (show E298 (20 + n) (15 + 10 * k) = .inl (kA 0, 6, .inl w253) from c_303), (show E298 (20 + n) (16 + 10 * k) = .inl (kA 0, 6, .inl w299) from p_300), (show ∀ b2 o2, ¬ (b2 = 20 + n ∧ o2 = 11 + 10 * k) → ¬ (b2 = 20 + n ∧ o2 = 15 + 10 * k) → ¬ (b2 = 20 + n ∧ o2 = 16 + 10 * k) → E298 b2 o2 = E b2 o2 from fun b2 o2 h09 h19 h29 => by rw [p_301 b2 o2 (by omega), p_278 b2 o2 (by omega), p_255 b2 o2 (by omega), fE186 b2 o2 (by omega), hfr b2 o2 (by omega) (by omega) (by omega)]), (show RQX g kA ad E298 RL nd n d (i + 1) (va_up fr1 i (some (ad (20 + z46) (10 + 10 * z47)))) from RQX_RU (RU3 (b := 20 + n) (by omega) hcA1 hcA5 hcA6 c_304 c_303 p_300 (fun b2 o2 h19 h29 h39 => by rw [p_301 b2 o2 (by omega), p_278 b2 o2 (by omega), p_255 b2 o2 (by omega), fE186 b2 o2 (by omega)])) (RQX_add (by omega) z49 z50 z51 hRQ)), (show ∀ t, t < 72 → (BS w253 t ↔ (BS ga t ∨ LSp g n d (i + 1) t)) from fun t ht => by rw [hLm t, hL t ht, LSp_y (by rw [← hti9.2.2]; exact hc202) hlk9, or_assoc]), (show ∀ t, t < 72 → (BS w299 t ↔ (BS gb t ∨ CSp g n d (i + 1) t)) from fun t ht => by
        rw [hCj t ht, hC t ht, CSp_y (by rw [← hti9.2.1]; exact hc271) hlk9]
        constructor
        · rintro ((q | q) | q)
          · exact q.elim Or.inl (fun z => Or.inr (Or.inl z))
          · exact Or.inr (Or.inr (Or.inl q))
          · exact Or.inr (Or.inr (Or.inr ⟨hxn, q⟩))
        · rintro (q | q | q | q)
          · exact Or.inl (Or.inl (Or.inl q))
          · exact Or.inl (Or.inl (Or.inr q))
          · exact Or.inl (Or.inr q)
          · exact Or.inr q.2)⟩
