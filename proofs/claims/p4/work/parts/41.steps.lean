abbrev xb_Me_takeFirstSteps : ByteArray := prog_7_method_2_code
def xy_Me_takeFirstSteps : MethodName := ⟨"LayerDesk$Member", "takeFirstSteps", "()V"⟩
theorem xd_Me_takeFirstSteps_0 : decode xb_Me_takeFirstSteps 0 = .ok (.iconst 0, 1) := by decide +kernel
theorem xd_Me_takeFirstSteps_1 : decode xb_Me_takeFirstSteps 1 = .ok (.istore_n 1, 1) := by decide +kernel
theorem xd_Me_takeFirstSteps_2 : decode xb_Me_takeFirstSteps 2 = .ok (.iload_n 1, 1) := by decide +kernel
theorem xd_Me_takeFirstSteps_3 : decode xb_Me_takeFirstSteps 3 = .ok (.aload_n 0, 1) := by decide +kernel
theorem xd_Me_takeFirstSteps_4 : decode xb_Me_takeFirstSteps 4 = .ok (.getfield 44, 3) := by decide +kernel
theorem xd_Me_takeFirstSteps_7 : decode xb_Me_takeFirstSteps 7 = .ok (.arraylength, 1) := by decide +kernel
theorem xd_Me_takeFirstSteps_8 : decode xb_Me_takeFirstSteps 8 = .ok (.if_icmp .ge 105, 3) := by decide +kernel
theorem xd_Me_takeFirstSteps_11 : decode xb_Me_takeFirstSteps 11 = .ok (.aload_n 0, 1) := by decide +kernel
theorem xd_Me_takeFirstSteps_12 : decode xb_Me_takeFirstSteps 12 = .ok (.getfield 24, 3) := by decide +kernel
theorem xd_Me_takeFirstSteps_15 : decode xb_Me_takeFirstSteps 15 = .ok (.aload_n 0, 1) := by decide +kernel
theorem xd_Me_takeFirstSteps_16 : decode xb_Me_takeFirstSteps 16 = .ok (.getfield 28, 3) := by decide +kernel
theorem xd_Me_takeFirstSteps_19 : decode xb_Me_takeFirstSteps 19 = .ok (.getfield 32, 3) := by decide +kernel
theorem xd_Me_takeFirstSteps_22 : decode xb_Me_takeFirstSteps 22 = .ok (.iload_n 1, 1) := by decide +kernel
theorem xd_Me_takeFirstSteps_23 : decode xb_Me_takeFirstSteps 23 = .ok (.invokevirtual 47, 3) := by decide +kernel
theorem xd_Me_takeFirstSteps_26 : decode xb_Me_takeFirstSteps 26 = .ok (.invokevirtual 51, 3) := by decide +kernel
theorem xd_Me_takeFirstSteps_29 : decode xb_Me_takeFirstSteps 29 = .ok (.astore_n 2, 1) := by decide +kernel
theorem xd_Me_takeFirstSteps_30 : decode xb_Me_takeFirstSteps 30 = .ok (.aload_n 0, 1) := by decide +kernel
theorem xd_Me_takeFirstSteps_31 : decode xb_Me_takeFirstSteps 31 = .ok (.getfield 44, 3) := by decide +kernel
theorem xd_Me_takeFirstSteps_34 : decode xb_Me_takeFirstSteps 34 = .ok (.iload_n 1, 1) := by decide +kernel
theorem xd_Me_takeFirstSteps_35 : decode xb_Me_takeFirstSteps 35 = .ok (.aload_n 2, 1) := by decide +kernel
theorem xd_Me_takeFirstSteps_36 : decode xb_Me_takeFirstSteps 36 = .ok (.aastore, 1) := by decide +kernel
theorem xd_Me_takeFirstSteps_37 : decode xb_Me_takeFirstSteps 37 = .ok (.aload_n 2, 1) := by decide +kernel
theorem xd_Me_takeFirstSteps_38 : decode xb_Me_takeFirstSteps 38 = .ok (.ifnull 23, 3) := by decide +kernel
theorem xd_Me_takeFirstSteps_41 : decode xb_Me_takeFirstSteps 41 = .ok (.aload_n 0, 1) := by decide +kernel
theorem xd_Me_takeFirstSteps_42 : decode xb_Me_takeFirstSteps 42 = .ok (.getfield 28, 3) := by decide +kernel
theorem xd_Me_takeFirstSteps_45 : decode xb_Me_takeFirstSteps 45 = .ok (.getfield 57, 3) := by decide +kernel
theorem xd_Me_takeFirstSteps_48 : decode xb_Me_takeFirstSteps 48 = .ok (.iload_n 1, 1) := by decide +kernel
theorem xd_Me_takeFirstSteps_49 : decode xb_Me_takeFirstSteps 49 = .ok (.baload, 1) := by decide +kernel
theorem xd_Me_takeFirstSteps_50 : decode xb_Me_takeFirstSteps 50 = .ok (.ifCond .ne 11, 3) := by decide +kernel
theorem xd_Me_takeFirstSteps_53 : decode xb_Me_takeFirstSteps 53 = .ok (.aload_n 0, 1) := by decide +kernel
theorem xd_Me_takeFirstSteps_54 : decode xb_Me_takeFirstSteps 54 = .ok (.getfield 12, 3) := by decide +kernel
theorem xd_Me_takeFirstSteps_57 : decode xb_Me_takeFirstSteps 57 = .ok (.aload_n 2, 1) := by decide +kernel
theorem xd_Me_takeFirstSteps_58 : decode xb_Me_takeFirstSteps 58 = .ok (.invokevirtual 61, 3) := by decide +kernel
theorem xd_Me_takeFirstSteps_61 : decode xb_Me_takeFirstSteps 61 = .ok (.aload_n 2, 1) := by decide +kernel
theorem xd_Me_takeFirstSteps_62 : decode xb_Me_takeFirstSteps 62 = .ok (.ifnull 45, 3) := by decide +kernel
theorem xd_Me_takeFirstSteps_65 : decode xb_Me_takeFirstSteps 65 = .ok (.aload_n 0, 1) := by decide +kernel
theorem xd_Me_takeFirstSteps_66 : decode xb_Me_takeFirstSteps 66 = .ok (.getfield 28, 3) := by decide +kernel
theorem xd_Me_takeFirstSteps_69 : decode xb_Me_takeFirstSteps 69 = .ok (.getfield 65, 3) := by decide +kernel
theorem xd_Me_takeFirstSteps_72 : decode xb_Me_takeFirstSteps 72 = .ok (.iload_n 1, 1) := by decide +kernel
theorem xd_Me_takeFirstSteps_73 : decode xb_Me_takeFirstSteps 73 = .ok (.baload, 1) := by decide +kernel
theorem xd_Me_takeFirstSteps_74 : decode xb_Me_takeFirstSteps 74 = .ok (.ifCond .eq 33, 3) := by decide +kernel
theorem xd_Me_takeFirstSteps_77 : decode xb_Me_takeFirstSteps 77 = .ok (.aload_n 0, 1) := by decide +kernel
theorem xd_Me_takeFirstSteps_78 : decode xb_Me_takeFirstSteps 78 = .ok (.getfield 18, 3) := by decide +kernel
theorem xd_Me_takeFirstSteps_81 : decode xb_Me_takeFirstSteps 81 = .ok (.aload_n 2, 1) := by decide +kernel
theorem xd_Me_takeFirstSteps_82 : decode xb_Me_takeFirstSteps 82 = .ok (.invokevirtual 61, 3) := by decide +kernel
theorem xd_Me_takeFirstSteps_85 : decode xb_Me_takeFirstSteps 85 = .ok (.aload_n 2, 1) := by decide +kernel
theorem xd_Me_takeFirstSteps_86 : decode xb_Me_takeFirstSteps 86 = .ok (.getfield 24, 3) := by decide +kernel
theorem xd_Me_takeFirstSteps_89 : decode xb_Me_takeFirstSteps 89 = .ok (.aload_n 0, 1) := by decide +kernel
theorem xd_Me_takeFirstSteps_90 : decode xb_Me_takeFirstSteps 90 = .ok (.getfield 24, 3) := by decide +kernel
theorem xd_Me_takeFirstSteps_93 : decode xb_Me_takeFirstSteps 93 = .ok (.if_acmp .eq 14, 3) := by decide +kernel
theorem xd_Me_takeFirstSteps_96 : decode xb_Me_takeFirstSteps 96 = .ok (.aload_n 0, 1) := by decide +kernel
theorem xd_Me_takeFirstSteps_97 : decode xb_Me_takeFirstSteps 97 = .ok (.getfield 18, 3) := by decide +kernel
theorem xd_Me_takeFirstSteps_100 : decode xb_Me_takeFirstSteps 100 = .ok (.aload_n 2, 1) := by decide +kernel
theorem xd_Me_takeFirstSteps_101 : decode xb_Me_takeFirstSteps 101 = .ok (.getfield 18, 3) := by decide +kernel
theorem xd_Me_takeFirstSteps_104 : decode xb_Me_takeFirstSteps 104 = .ok (.invokevirtual 68, 3) := by decide +kernel
theorem xd_Me_takeFirstSteps_107 : decode xb_Me_takeFirstSteps 107 = .ok (.iinc 1 1, 3) := by decide +kernel
theorem xd_Me_takeFirstSteps_110 : decode xb_Me_takeFirstSteps 110 = .ok (.goto (-108), 3) := by decide +kernel
theorem xd_Me_takeFirstSteps_113 : decode xb_Me_takeFirstSteps 113 = .ok (.return_, 1) := by decide +kernel
theorem ys3_0 : (Cond.fieldLink "LayerDesk$Member" 44 "LayerDesk$Member" "required" "[LLayerDesk$Member;") ∈ wT := wT_t (List.mem_append_right _ (List.mem_append_right _ (List.mem_append_left _ (List.mem_of_getElem? (i := 186) rfl)))) rfl
theorem ys3_1 : (Cond.fieldLink "LayerDesk$Member" 24 "LayerDesk$Member" "home" "LLayerDesk$Layer;") ∈ wT := wT_t (List.mem_append_right _ (List.mem_append_right _ (List.mem_append_left _ (List.mem_of_getElem? (i := 179) rfl)))) rfl
theorem ys3_2 : (Cond.fieldLink "LayerDesk$Member" 28 "LayerDesk$Member" "descriptor" "LLayerDesk$Descriptor;") ∈ wT := wT_t (List.mem_append_right _ (List.mem_append_right _ (List.mem_append_left _ (List.mem_of_getElem? (i := 181) rfl)))) rfl
theorem ys3_3 : (Cond.fieldLink "LayerDesk$Member" 32 "LayerDesk$Descriptor" "required" "LLayerDesk$Names;") ∈ wT := wT_t (List.mem_append_right _ (List.mem_append_left _ (List.mem_of_getElem? (i := 67) rfl))) rfl
theorem ys3_4 : (Cond.code xy_Na_at xb_Na_at 2 (some .int)) ∈ wT := wT_t (List.mem_append_right _ (List.mem_append_right _ (List.mem_append_left _ (List.mem_of_getElem? (i := 93) rfl)))) rfl
theorem ys3_5 : (Cond.methodLink "LayerDesk$Member" 47 xy_Na_at) ∈ wT := wT_t (List.mem_append_right _ (List.mem_append_right _ (List.mem_append_left _ (List.mem_of_getElem? (i := 216) rfl)))) rfl
theorem ys3_6 : (Cond.instanceMethod xy_Na_at) ∈ wT := wT_t (List.mem_append_right _ (List.mem_append_right _ (List.mem_append_left _ (List.mem_of_getElem? (i := 91) rfl)))) rfl
theorem ys3_7 : (Cond.selects "LayerDesk$Names" xy_Na_at xy_Na_at) ∈ wT := wT_t (List.mem_append_right _ (List.mem_append_right _ (List.mem_append_left _ (List.mem_of_getElem? (i := 92) rfl)))) rfl
theorem ys3_8 : (Cond.initialized "LayerDesk$Names") ∈ wT := wT_t (List.mem_append_left _ (List.mem_of_getElem? (i := 11) rfl)) rfl
theorem ys3_9 : (Cond.code xy_Ly_lookUp xb_Ly_lookUp 4 (some (.object "LayerDesk$Member"))) ∈ wT := wT_t (List.mem_append_right _ (List.mem_append_right _ (List.mem_append_left _ (List.mem_of_getElem? (i := 85) rfl)))) rfl
theorem ys3_10 : (Cond.methodLink "LayerDesk$Member" 51 xy_Ly_lookUp) ∈ wT := wT_t (List.mem_append_right _ (List.mem_append_right _ (List.mem_append_left _ (List.mem_of_getElem? (i := 217) rfl)))) rfl
theorem ys3_11 : (Cond.instanceMethod xy_Ly_lookUp) ∈ wT := wT_t (List.mem_append_right _ (List.mem_append_right _ (List.mem_append_left _ (List.mem_of_getElem? (i := 83) rfl)))) rfl
theorem ys3_12 : (Cond.selects "LayerDesk$Layer" xy_Ly_lookUp xy_Ly_lookUp) ∈ wT := wT_t (List.mem_append_right _ (List.mem_append_right _ (List.mem_append_left _ (List.mem_of_getElem? (i := 84) rfl)))) rfl
theorem ys3_13 : (Cond.initialized "LayerDesk$Layer") ∈ wT := wT_t (List.mem_append_left _ (List.mem_of_getElem? (i := 19) rfl)) rfl
theorem ys3_14 : (Cond.fieldLink "LayerDesk$Member" 57 "LayerDesk$Descriptor" "optional" "[Z") ∈ wT := wT_t (List.mem_append_right _ (List.mem_append_left _ (List.mem_of_getElem? (i := 73) rfl))) rfl
theorem ys3_15 : (Cond.fieldLink "LayerDesk$Member" 65 "LayerDesk$Descriptor" "transitive" "[Z") ∈ wT := wT_t (List.mem_append_right _ (List.mem_append_left _ (List.mem_of_getElem? (i := 71) rfl))) rfl
theorem ys3_16 : (Cond.fieldLink "LayerDesk$Member" 18 "LayerDesk$Member" "carried" "LLayerDesk$Reach;") ∈ wT := wT_t (List.mem_append_right _ (List.mem_append_right _ (List.mem_append_left _ (List.mem_of_getElem? (i := 189) rfl)))) rfl
theorem ys3_17 : (Cond.code xy_Re_mark xb_Re_mark 2 none) ∈ wT := wT_t (List.mem_append_right _ (List.mem_append_right _ (List.mem_append_left _ (List.mem_of_getElem? (i := 221) rfl)))) rfl
theorem ys3_18 : (Cond.methodLink "LayerDesk$Member" 61 xy_Re_mark) ∈ wT := wT_t (List.mem_append_right _ (List.mem_append_right _ (List.mem_append_left _ (List.mem_of_getElem? (i := 218) rfl)))) rfl
theorem ys3_19 : (Cond.instanceMethod xy_Re_mark) ∈ wT := wT_t (List.mem_append_right _ (List.mem_append_right _ (List.mem_append_left _ (List.mem_of_getElem? (i := 219) rfl)))) rfl
theorem ys3_20 : (Cond.selects "LayerDesk$Reach" xy_Re_mark xy_Re_mark) ∈ wT := wT_t (List.mem_append_right _ (List.mem_append_right _ (List.mem_append_left _ (List.mem_of_getElem? (i := 220) rfl)))) rfl
theorem ys3_21 : (Cond.initialized "LayerDesk$Reach") ∈ wT := wT_t (List.mem_append_left _ (List.mem_of_getElem? (i := 21) rfl)) rfl
theorem ys3_22 : (Cond.fieldLink "LayerDesk$Member" 12 "LayerDesk$Member" "leading" "LLayerDesk$Reach;") ∈ wT := wT_t (List.mem_append_right _ (List.mem_append_right _ (List.mem_append_left _ (List.mem_of_getElem? (i := 187) rfl)))) rfl
theorem ys3_23 : (Cond.code xy_Re_join xb_Re_join 3 none) ∈ wT := wT_t (List.mem_append_right _ (List.mem_append_right _ (List.mem_append_left _ (List.mem_of_getElem? (i := 225) rfl)))) rfl
theorem ys3_24 : (Cond.methodLink "LayerDesk$Member" 68 xy_Re_join) ∈ wT := wT_t (List.mem_append_right _ (List.mem_append_right _ (List.mem_append_left _ (List.mem_of_getElem? (i := 222) rfl)))) rfl
theorem ys3_25 : (Cond.instanceMethod xy_Re_join) ∈ wT := wT_t (List.mem_append_right _ (List.mem_append_right _ (List.mem_append_left _ (List.mem_of_getElem? (i := 223) rfl)))) rfl
theorem ys3_26 : (Cond.selects "LayerDesk$Reach" xy_Re_join xy_Re_join) ∈ wT := wT_t (List.mem_append_right _ (List.mem_append_right _ (List.mem_append_left _ (List.mem_of_getElem? (i := 224) rfl)))) rfl
set_option maxHeartbeats 4000000 in
set_option maxRecDepth 100000 in
theorem xc_Me_takeFirstSteps (l : Launch) (D : va_G) (kA : Nat → ClassId) (sz : Nat) (ad : Nat → Nat → Nat) (E : Nat → Nat → va_E) (RL : List (Nat × Nat)) (nd : Nat) (nL : Nat) (n : Nat) (k : Nat) (d : Nat) (rs : Nat) (fr : Nat → Option Nat) (ga : Nat → Int32) (gb : Nat → Int32) (ym0 : (20 + n, 10 + 10 * k) ∈ RL) (yc0 : E (20 + n) (10 + 10 * k) = .inr (6, [.ref (ad (20 + n) 0), .ref (ad (1 + d) 0), .ref (ad (20 + n) (11 + 10 * k)), .ref (ad (20 + n) (12 + 10 * k)), .ref (ad (20 + n) (13 + 10 * k)), .ref (ad (20 + n) (14 + 10 * k))])) (ym1 : (20 + n, 11 + 10 * k) ∈ RL) (yc1 : E (20 + n) (11 + 10 * k) = .inl (kA 6, rs, .inr (.inr (.inr (.inr fr))))) (ym2 : (20 + n, 12 + 10 * k) ∈ RL) (yc2 : E (20 + n) (12 + 10 * k) = .inr (10, [.ref (ad (20 + n) (15 + 10 * k))])) (ym3 : (20 + n, 13 + 10 * k) ∈ RL) (yc3 : E (20 + n) (13 + 10 * k) = .inr (10, [.ref (ad (20 + n) (16 + 10 * k))])) (ym4 : (20 + n, 15 + 10 * k) ∈ RL) (yc4 : E (20 + n) (15 + 10 * k) = .inl (kA 0, 6, .inl ga)) (ym5 : (20 + n, 16 + 10 * k) ∈ RL) (yc5 : E (20 + n) (16 + 10 * k) = .inl (kA 0, 6, .inl gb)) (hDIs : DIs kA ad E RL nd) (hLIs : LIs kA ad E RL nd nL) (hnd12 : nd ≤ 12) (hnL : nL ≤ 6) (hn : n < nL) (hd : d < nd) (hrs : rs ≤ 5) : Met l xy_Me_takeFirstSteps (.code xy_Me_takeFirstSteps xb_Me_takeFirstSteps 3 none :: wT) { frames := 1, cells := 0, slots := 0, locals := 23 } (va_Pc [.ref (ad (20 + n) (10 + 10 * k))] (xPre D kA sz (rp ad E RL))) (va_Qv (fun (u : Nat → Nat → va_E) => ∃ fr2 : Nat → Option Nat, ∃ ga2 : Nat → Int32, ∃ gb2 : Nat → Int32, (RQ kA ad u RL nd n rs fr2) ∧ (u (20 + n) (11 + 10 * k) = .inl (kA 6, rs, .inr (.inr (.inr (.inr fr2))))) ∧ (u (20 + n) (15 + 10 * k) = .inl (kA 0, 6, .inl ga2)) ∧ (u (20 + n) (16 + 10 * k) = .inl (kA 0, 6, .inl gb2)) ∧ ((∀ b2 o2, ¬ (b2 = 20 + n ∧ o2 = 11 + 10 * k) → ¬ (b2 = 20 + n ∧ o2 = 15 + 10 * k) → ¬ (b2 = 20 + n ∧ o2 = 16 + 10 * k) → u b2 o2 = E b2 o2))) (fun (u : Nat → Nat → va_E) t => va_P D xcl (rp ad u RL) t.heap ∧ va_D (va_A (rp ad E RL) sz) (rp ad u RL)) (va_A (rp ad E RL) sz)) 0 0 (va_A (rp ad E RL) sz) := by
  refine Met.ofW (cc := xb_Me_takeFirstSteps) (maxL := 3) (ret := none) (by decide) rfl ?_
  intro p e s m args below meth c s₁ B hml hv
  obtain ⟨rfl, hsz, hP, hK, hD0⟩ := hv
  have hx := B.exec
  have hb := B.bytes
  have hr := B.returns
  have hT := x_hT B.pre
  have hown : s.vm.findClass xR_Me = some m.cls := findClass_of_methodNamed B.named
  have hlocks := B.notSynchronized
  subst hsz
  have hD := hD0.self (sz := s.heap.size)
  generalize hAe : va_A (rp ad E RL) s.heap.size = A at hD ⊢
  have hA : ∀ q : Nat, s.heap.size ≤ q → A q := fun q h => by rw [← hAe]; exact Or.inr h
  have hS : va_S A s.heap s.heap [] := va_S.rf
  have hl := lv_entry ([.ref (ad (20 + n) (10 + 10 * k))]) (n := 3) (Nat.le_of_ble_eq_true rfl)
  rw [lg_entry_eq]
  generalize (lg_sl ([.ref (ad (20 + n) (10 + 10 * k))]) ++ List.replicate (3 - (lg_sl ([.ref (ad (20 + n) (10 + 10 * k))])).length) Slot.unset).toArray = ls at hl ⊢
  have hl : lv_has ls 3 [(0, .ref (ad (20 + n) (10 + 10 * k)))] := hl
  have hP : va_P D xcl (rp ad E RL) s.heap := hP
  have hDIs0 := hDIs
  have hLIs0 := hLIs
  refine lv_iconst (v := 0) hx hb xd_Me_takeFirstSteps_0 (by decide) ?_
  refine lv_istore_n hx hb xd_Me_takeFirstSteps_1 rfl hl (Nat.le_of_ble_eq_true rfl) rfl (fun ls hl => ?_)
  have hl : lv_has ls 3 [(1, .int 0), (0, .ref (ad (20 + n) (10 + 10 * k)))] := hl
  refine xlab (σ := Nat × (Nat → Nat → va_E) × (Nat → Option Nat) × (Nat → Int32) × (Nat → Int32)) (ml := 3) 2 (fun (i, E1, fr1, ga1, gb1) => [(1, .int (nI i)), (0, .ref (ad (20 + n) (10 + 10 * k)))]) (fun (i, E1, fr1, ga1, gb1) => []) (fun (i, E1, fr1, ga1, gb1) => rp ad E1 RL) (fun (i, E1, fr1, ga1, gb1) => (i ≤ rs) ∧ (E1 (20 + n) (11 + 10 * k) = .inl (kA 6, rs, .inr (.inr (.inr (.inr fr1))))) ∧ (E1 (20 + n) (15 + 10 * k) = .inl (kA 0, 6, .inl ga1)) ∧ (E1 (20 + n) (16 + 10 * k) = .inl (kA 0, 6, .inl gb1)) ∧ (∀ b2 o2, ¬ (b2 = 20 + n ∧ o2 = 11 + 10 * k) → ¬ (b2 = 20 + n ∧ o2 = 15 + 10 * k) → ¬ (b2 = 20 + n ∧ o2 = 16 + 10 * k) → E1 b2 o2 = E b2 o2) ∧ (RQ kA ad E1 RL nd n i fr1)) (fun (i, E1, fr1, ga1, gb1) => rs - i) ?_ (0, E, fr, ga, gb) _ _ _ (lv_sub hl [0, 1] rfl) hP hD hS ⟨(show 0 ≤ rs from by first | assumption | omega), (show E (20 + n) (11 + 10 * k) = .inl (kA 6, rs, .inr (.inr (.inr (.inr fr)))) from yc1), (show E (20 + n) (15 + 10 * k) = .inl (kA 0, 6, .inl ga) from yc4), (show E (20 + n) (16 + 10 * k) = .inl (kA 0, 6, .inl gb) from yc5), (show ∀ b2 o2, ¬ (b2 = 20 + n ∧ o2 = 11 + 10 * k) → ¬ (b2 = 20 + n ∧ o2 = 15 + 10 * k) → ¬ (b2 = 20 + n ∧ o2 = 16 + 10 * k) → E b2 o2 = E b2 o2 from fun b2 o2 h09 h19 h29 => rfl), (show RQ kA ad E RL nd n 0 fr from fun j hj => absurd hj (by omega))⟩
  intro n9 ih1 a9 ls H locs hμ hl hP hD hS hI
  subst hμ
  obtain ⟨i, E1, fr1, ga1, gb1⟩ := a9
  obtain ⟨hi, hcA1, hcA5, hcA6, hfr, hRQ⟩ := hI
  have hi : i ≤ rs := hi
  have hcA1 : E1 (20 + n) (11 + 10 * k) = .inl (kA 6, rs, .inr (.inr (.inr (.inr fr1)))) := hcA1
  have hcA5 : E1 (20 + n) (15 + 10 * k) = .inl (kA 0, 6, .inl ga1) := hcA5
  have hcA6 : E1 (20 + n) (16 + 10 * k) = .inl (kA 0, 6, .inl gb1) := hcA6
  have hfr : ∀ b2 o2, ¬ (b2 = 20 + n ∧ o2 = 11 + 10 * k) → ¬ (b2 = 20 + n ∧ o2 = 15 + 10 * k) → ¬ (b2 = 20 + n ∧ o2 = 16 + 10 * k) → E1 b2 o2 = E b2 o2 := hfr
  have hRQ : RQ kA ad E1 RL nd n i fr1 := hRQ
  have hl : lv_has ls 3 [(1, .int (nI i)), (0, .ref (ad (20 + n) (10 + 10 * k)))] := hl
  have hP : va_P D xcl (rp ad E1 RL) H := hP
  have hD : va_D A (rp ad E1 RL) := hD
  have hRU : RU kA E E1 := RU3 (b := 20 + n) (by omega) yc1 yc4 yc5 hcA1 hcA5 hcA6 hfr
  have hDIs := DIs_RU hRU hnd12 hDIs0
  have hLIs := LIs_RU hRU hLIs0
  have c_2 : E1 (20 + n) (10 + 10 * k) = .inr (6, [.ref (ad (20 + n) 0), .ref (ad (1 + d) 0), .ref (ad (20 + n) (11 + 10 * k)), .ref (ad (20 + n) (12 + 10 * k)), .ref (ad (20 + n) (13 + 10 * k)), .ref (ad (20 + n) (14 + 10 * k))]) := (hfr (20 + n) (10 + 10 * k) (by omega) (by omega) (by omega)).trans yc0
  have c_3 : E1 (20 + n) (12 + 10 * k) = .inr (10, [.ref (ad (20 + n) (15 + 10 * k))]) := (hfr (20 + n) (12 + 10 * k) (by omega) (by omega) (by omega)).trans yc2
  have c_4 : E1 (20 + n) (13 + 10 * k) = .inr (10, [.ref (ad (20 + n) (16 + 10 * k))]) := (hfr (20 + n) (13 + 10 * k) (by omega) (by omega) (by omega)).trans yc3
  refine lv_iload_n hx hb xd_Me_takeFirstSteps_2 rfl (lv_at hl 0 rfl) ?_
  refine lv_aload_n hx hb xd_Me_takeFirstSteps_3 rfl (lv_at hl 1 rfl) ?_
  refine px_get (D := D) (ci := 6) (v := .ref (ad (20 + n) (11 + 10 * k))) (C := xR_Me) (T := xT_Me) (N := 6) hx hb hT xi_Me hown hK.1 hP ym0 c_2 rfl 2 (by decide) (hT _ ys3_0) (fun _ h9 => h9) rfl xd_Me_takeFirstSteps_4 ?_
  refine px_alen hx hb hK.1 hP ym1 hcA1 6 rfl xd_Me_takeFirstSteps_7 ?_
  refine W.eq (g2 := F0 m 8 ls [.int (nI rs), .int (nI i)]) rfl ?_
  refine xn_ge (a := i) (b := rs) (tgt := 113) hx hb xd_Me_takeFirstSteps_8 (by decide) (by omega) (by omega) (fun hc5 => ?_) (fun hc5 => ?_)
  · exact W.vret hx hb hr (fun t ht hW => ⟨⟨E1, rfl, ⟨fr1, ga1, gb1, (fun j hj => hRQ j (by omega)), hcA1, hcA5, hcA6, (fun b2 o2 h09 h19 h29 => by show E1 b2 o2 = _; rw [hfr b2 o2 (by omega) (by omega) (by omega)])⟩, by rw [ht]; exact hP, hD⟩, hS.F ht⟩) hS.2.2 xd_Me_takeFirstSteps_113
  · refine lv_aload_n hx hb xd_Me_takeFirstSteps_11 rfl (lv_at hl 1 rfl) ?_
    refine px_get (D := D) (ci := 6) (v := .ref (ad (20 + n) 0)) (C := xR_Me) (T := xT_Me) (N := 6) hx hb hT xi_Me hown hK.1 hP ym0 c_2 rfl 0 (by decide) (hT _ ys3_1) (fun _ h9 => h9) rfl xd_Me_takeFirstSteps_12 ?_
    refine lv_aload_n hx hb xd_Me_takeFirstSteps_15 rfl (lv_at hl 1 rfl) ?_
    refine px_get (D := D) (ci := 6) (v := .ref (ad (1 + d) 0)) (C := xR_Me) (T := xT_Me) (N := 6) hx hb hT xi_Me hown hK.1 hP ym0 c_2 rfl 1 (by decide) (hT _ ys3_2) (fun _ h9 => h9) rfl xd_Me_takeFirstSteps_16 ?_
    obtain ⟨hm_6, fd_6, nm_6, sd_6, k0_6, k1_6, k2_6, k3_6, f0_6, f1_6, f2_6, f3_6, fe_6, fo_6, tr_6, op_6, hk0_6, hk1_6, hk2_6, hk3_6, q0_6, q1_6, q2_6, q3_6, q4_6, q5_6, q6_6, q7_6, q8_6, q9_6, q10_6, q11_6, q12_6, hg_6⟩ := id (hDIs d (by omega))
    have c_7 : E1 (1 + d) 0 = .inr (7, [.int (nI d), .int fd_6, .int nm_6, .ref (ad (1 + d) 1), .ref (ad (1 + d) 9), .ref (ad (1 + d) 10), .ref (ad (1 + d) 2), .ref (ad (1 + d) 11), .ref (ad (1 + d) 12), .ref (ad (1 + d) 3), .ref (ad (1 + d) 4), .int sd_6]) := q0_6
    have m_8 : (1 + d, 0) ∈ RL := hm_6 0 (by omega)
    have c_9 : E1 (1 + d) 1 = .inr (8, [.ref (ad (1 + d) 5), .int (nI k0_6)]) := q1_6
    have m_10 : (1 + d, 1) ∈ RL := hm_6 1 (by omega)
    have c_11 : E1 (1 + d) 2 = .inr (8, [.ref (ad (1 + d) 6), .int (nI k1_6)]) := q2_6
    have m_12 : (1 + d, 2) ∈ RL := hm_6 2 (by omega)
    have c_13 : E1 (1 + d) 3 = .inr (8, [.ref (ad (1 + d) 7), .int (nI k2_6)]) := q3_6
    have m_14 : (1 + d, 3) ∈ RL := hm_6 3 (by omega)
    have c_15 : E1 (1 + d) 4 = .inr (8, [.ref (ad (1 + d) 8), .int (nI k3_6)]) := q4_6
    have m_16 : (1 + d, 4) ∈ RL := hm_6 4 (by omega)
    have c_17 : E1 (1 + d) 5 = .inl (kA 0, 6, .inl f0_6) := q5_6
    have m_18 : (1 + d, 5) ∈ RL := hm_6 5 (by omega)
    have c_19 : E1 (1 + d) 6 = .inl (kA 0, 5, .inl f1_6) := q6_6
    have m_20 : (1 + d, 6) ∈ RL := hm_6 6 (by omega)
    have c_21 : E1 (1 + d) 7 = .inl (kA 0, 3, .inl f2_6) := q7_6
    have m_22 : (1 + d, 7) ∈ RL := hm_6 7 (by omega)
    have c_23 : E1 (1 + d) 8 = .inl (kA 0, 3, .inl f3_6) := q8_6
    have m_24 : (1 + d, 8) ∈ RL := hm_6 8 (by omega)
    have c_25 : E1 (1 + d) 9 = .inl (kA 8, 6, .inr (.inr (.inr (.inr fe_6)))) := q9_6
    have m_26 : (1 + d, 9) ∈ RL := hm_6 9 (by omega)
    have c_27 : E1 (1 + d) 10 = .inl (kA 8, 6, .inr (.inr (.inr (.inr fo_6)))) := q10_6
    have m_28 : (1 + d, 10) ∈ RL := hm_6 10 (by omega)
    have c_29 : E1 (1 + d) 11 = .inl (kA 2, 5, .inl tr_6) := q11_6
    have m_30 : (1 + d, 11) ∈ RL := hm_6 11 (by omega)
    have c_31 : E1 (1 + d) 12 = .inl (kA 2, 5, .inl op_6) := q12_6
    have m_32 : (1 + d, 12) ∈ RL := hm_6 12 (by omega)
    have hg_6 : ∀ w9, w9 < k0_6 → fe_6 w9 = some (ad (1 + d) (20 + 3 * w9)) ∧ fo_6 w9 = some (ad (1 + d) (38 + 3 * w9)) ∧ GI kA (ad (1 + d)) (E1 (1 + d)) (fun o => (1 + d, o) ∈ RL) (20 + 3 * w9) (21 + 3 * w9) (22 + 3 * w9) ∧ GI kA (ad (1 + d)) (E1 (1 + d)) (fun o => (1 + d, o) ∈ RL) (38 + 3 * w9) (39 + 3 * w9) (40 + 3 * w9) := hg_6
    refine px_get (D := D) (ci := 7) (v := .ref (ad (1 + d) 2)) (C := xR_Ds) (T := xT_Ds) (N := 12) hx hb hT xi_Ds hown hK.1 hP m_8 c_7 rfl 6 (by decide) (hT _ ys3_3) (fun _ h9 => h9) rfl xd_Me_takeFirstSteps_19 ?_
    refine lv_iload_n hx hb xd_Me_takeFirstSteps_22 rfl (lv_at hl 0 rfl) ?_
    have hFc := px_free hD hS hA
    refine va_calli (va_runV (As := [.int (nI i)]) (rest := [.ref (ad (20 + n) 0)]) ⟨hx, hb, hml, hown, hT⟩ (xc_Na_at l D kA H.size ad E1 RL (1 + d) 2 6 5 k1_6 f1_6 i m_12 c_11 m_20 c_19 (by first | assumption | omega) (by first | assumption | omega) (by first | assumption | omega)) (cwV 1 hT (wT_V ys3_5 ys3_6 ys3_7 ys3_8 ys3_4) rfl rfl rfl (by decide +kernel) ⟨Nat.le_of_ble_eq_true rfl, Nat.le_of_ble_eq_true rfl⟩) (px_preV hK hP hD m_12 c_11 rfl) rfl rfl hl.1 rfl (lv_room (Nat.le_of_ble_eq_true rfl)) xd_Me_takeFirstSteps_23 ⟨(Nat.le_of_ble_eq_true rfl), (Nat.le_of_ble_eq_true rfl)⟩) hS (fun q _ h => hFc q h) hFc (fun r33 u34 t H1 locs ht hvm hp35 hB hz1 hk1 hS => ?_)
    obtain ⟨hP1, hD1⟩ := hB
    rw [ht] at hP1
    have hD1 := hD1.weaken (fun _ _ _ h => hFc _ h)
    generalize H1 = H at hP1 hS ⊢
    have hP := hP1
    have hD := hD1
    have hP : va_P D xcl (rp ad E1 RL) H := hP
    have hD : va_D A (rp ad E1 RL) := hD
    have hFc := px_free hD hS hA
    obtain ⟨m0_36, m1_36, pv_36, op_36, mk_36, fm_36, hmk_36, hpv_36, q0_36, q1_36, hk_36⟩ := id (hLIs n (by omega))
    have c_37 : E1 (20 + n) 0 = .inr (5, [.int (nI n), pv_36, .ref (ad (20 + n) 1), .int op_36]) := q0_36
    have m_38 : (20 + n, 0) ∈ RL := m0_36
    have c_39 : E1 (20 + n) 1 = .inl (kA 6, mk_36, .inr (.inr (.inr (.inr fm_36)))) := q1_36
    have m_40 : (20 + n, 1) ∈ RL := m1_36
    refine va_callq (va_runV (As := [.int r33]) (rest := []) ⟨hx, hb, hml, hown, hT⟩ (xc_Ly_lookUp l D kA H.size ad E1 RL nd nL n r33 (by first | assumption | omega) (by first | assumption | omega) (by first | assumption | omega) (by first | assumption | omega)) (cwV 1 hT (wT_V ys3_10 ys3_11 ys3_12 ys3_13 ys3_9) rfl rfl rfl (by decide +kernel) ⟨Nat.le_of_ble_eq_true rfl, Nat.le_of_ble_eq_true rfl⟩) (px_preV hK hP hD m_38 c_37 rfl) rfl rfl hl.1 rfl (lv_room (Nat.le_of_ble_eq_true rfl)) xd_Me_takeFirstSteps_26 ⟨(Nat.le_of_ble_eq_true rfl), (Nat.le_of_ble_eq_true rfl)⟩) hS (fun q _ h => hFc q h) hFc (fun r41 u42 t H1 locs ht hvm hp43 hB hz1 hk1 hS => ?_)
    obtain ⟨hP1, hD1⟩ := hB
    rw [ht] at hP1
    have hD1 := hD1.weaken (fun _ _ _ h => hFc _ h)
    generalize H1 = H at hP1 hS ⊢
    have hP := hP1
    have hD := hD1
    have hP : va_P D xcl (rp ad E1 RL) H := hP
    have hD : va_D A (rp ad E1 RL) := hD
    rcases hp43 with rfl | ⟨z44, z45, z46, rfl, z47⟩
    · refine W.eq (g2 := F0 m 29 ls [.null]) rfl ?_
      refine lv_astore_nN hx hb xd_Me_takeFirstSteps_29 rfl hl (Nat.le_of_ble_eq_true rfl) rfl (fun ls hl => ?_)
      have hl : lv_has ls 3 [(2, .null), (1, .int (nI i)), (0, .ref (ad (20 + n) (10 + 10 * k)))] := hl
      refine lv_aload_n hx hb xd_Me_takeFirstSteps_30 rfl (lv_at hl 2 rfl) ?_
      refine px_get (D := D) (ci := 6) (v := .ref (ad (20 + n) (11 + 10 * k))) (C := xR_Me) (T := xT_Me) (N := 6) hx hb hT xi_Me hown hK.1 hP ym0 c_2 rfl 2 (by decide) (hT _ ys3_0) (fun _ h9 => h9) rfl xd_Me_takeFirstSteps_31 ?_
      refine lv_iload_n hx hb xd_Me_takeFirstSteps_34 rfl (lv_at hl 1 rfl) ?_
      refine lv_aload_nN hx hb xd_Me_takeFirstSteps_35 rfl (lv_at hl 0 rfl) ?_
      refine px_aastN (i := i) hx hb hK.1 hP hD hS ym1 hcA1 6 rfl (by omega) (by omega) xd_Me_takeFirstSteps_36 (fun H locs hP hD hS => ?_)
      have hP : va_P D xcl (rp ad (up2 E1 (20 + n) (11 + 10 * k) (.inl (kA 6, rs, .inr (.inr (.inr (.inr (va_up fr1 i none))))))) RL) H := hP
      have hD : va_D A (rp ad (up2 E1 (20 + n) (11 + 10 * k) (.inl (kA 6, rs, .inr (.inr (.inr (.inr (va_up fr1 i none))))))) RL) := hD
      generalize hE49 : up2 E1 (20 + n) (11 + 10 * k) (.inl (kA 6, rs, .inr (.inr (.inr (.inr (va_up fr1 i none)))))) = E48 at hP hD
      have fE50 : ∀ b2 o2, ¬ (b2 = 20 + n ∧ o2 = 11 + 10 * k) → E48 b2 o2 = E1 b2 o2 := fun b2 o2 h9 => by rw [← hE49]; exact up2_ne (by omega)
      have c_51 : E48 (20 + n) (11 + 10 * k) = .inl (kA 6, rs, .inr (.inr (.inr (.inr (va_up fr1 i none))))) := by rw [← hE49]; exact up2_eq
      have c_52 : E48 (20 + n) (15 + 10 * k) = .inl (kA 0, 6, .inl ga1) := (fE50 (20 + n) (15 + 10 * k) (by omega)).trans hcA5
      have c_53 : E48 (20 + n) (16 + 10 * k) = .inl (kA 0, 6, .inl gb1) := (fE50 (20 + n) (16 + 10 * k) (by omega)).trans hcA6
      have c_54 : E48 (20 + n) (10 + 10 * k) = .inr (6, [.ref (ad (20 + n) 0), .ref (ad (1 + d) 0), .ref (ad (20 + n) (11 + 10 * k)), .ref (ad (20 + n) (12 + 10 * k)), .ref (ad (20 + n) (13 + 10 * k)), .ref (ad (20 + n) (14 + 10 * k))]) := (fE50 (20 + n) (10 + 10 * k) (by omega)).trans c_2
      have c_55 : E48 (20 + n) (12 + 10 * k) = .inr (10, [.ref (ad (20 + n) (15 + 10 * k))]) := (fE50 (20 + n) (12 + 10 * k) (by omega)).trans c_3
      have c_56 : E48 (20 + n) (13 + 10 * k) = .inr (10, [.ref (ad (20 + n) (16 + 10 * k))]) := (fE50 (20 + n) (13 + 10 * k) (by omega)).trans c_4
      have c_57 : E48 (1 + d) 0 = .inr (7, [.int (nI d), .int fd_6, .int nm_6, .ref (ad (1 + d) 1), .ref (ad (1 + d) 9), .ref (ad (1 + d) 10), .ref (ad (1 + d) 2), .ref (ad (1 + d) 11), .ref (ad (1 + d) 12), .ref (ad (1 + d) 3), .ref (ad (1 + d) 4), .int sd_6]) := (fE50 (1 + d) 0 (by omega)).trans c_7
      have c_58 : E48 (1 + d) 11 = .inl (kA 2, 5, .inl tr_6) := (fE50 (1 + d) 11 (by omega)).trans c_29
      have c_59 : E48 (1 + d) 12 = .inl (kA 2, 5, .inl op_6) := (fE50 (1 + d) 12 (by omega)).trans c_31
      have c_60 : E48 (20 + n) 0 = .inr (5, [.int (nI n), pv_36, .ref (ad (20 + n) 1), .int op_36]) := (fE50 (20 + n) 0 (by omega)).trans c_37
      refine lv_aload_nN hx hb xd_Me_takeFirstSteps_37 rfl (lv_at hl 0 rfl) ?_
      refine lv_ifnullN (tgt := 61) hx hb xd_Me_takeFirstSteps_38 (by decide) ?_
      refine lv_aload_nN hx hb xd_Me_takeFirstSteps_61 rfl (lv_at hl 0 rfl) ?_
      refine lv_ifnullN (tgt := 107) hx hb xd_Me_takeFirstSteps_62 (by decide) ?_
      refine lv_iinc (k := 1) (x := (nI i)) (v := (nI (i + 1))) hx hb xd_Me_takeFirstSteps_107 hl rfl (xb_inc i 1) (Nat.le_of_ble_eq_true rfl) rfl (fun ls hl => ?_)
      have hl : lv_has ls 3 [(1, .int (nI (i + 1))), (2, .null), (0, .ref (ad (20 + n) (10 + 10 * k)))] := hl
      refine lv_goto (tgt := 2) hx hb xd_Me_takeFirstSteps_110 (by decide) ?_
      exact ih1 (i + 1, E48, (va_up fr1 i none), ga1, gb1) _ _ _ (show rs - (i + 1) < rs - i by omega) (lv_sub hl [0, 2] rfl) hP hD hS ⟨(show (i + 1) ≤ rs from by first | assumption | omega), (show E48 (20 + n) (11 + 10 * k) = .inl (kA 6, rs, .inr (.inr (.inr (.inr (va_up fr1 i none))))) from c_51), (show E48 (20 + n) (15 + 10 * k) = .inl (kA 0, 6, .inl ga1) from c_52), (show E48 (20 + n) (16 + 10 * k) = .inl (kA 0, 6, .inl gb1) from c_53), (show ∀ b2 o2, ¬ (b2 = 20 + n ∧ o2 = 11 + 10 * k) → ¬ (b2 = 20 + n ∧ o2 = 15 + 10 * k) → ¬ (b2 = 20 + n ∧ o2 = 16 + 10 * k) → E48 b2 o2 = E b2 o2 from fun b2 o2 h09 h19 h29 => by rw [fE50 b2 o2 (by omega), hfr b2 o2 (by omega) (by omega) (by omega)]), (show RQ kA ad E48 RL nd n (i + 1) (va_up fr1 i none) from RQ_RU (RU3 (b := 20 + n) (by omega) hcA1 hcA5 hcA6 c_51 c_52 c_53 (fun b2 o2 h19 h29 h39 => by rw [fE50 b2 o2 (by omega)])) (RQ_addN hRQ))⟩
    · refine W.eq (g2 := F0 m 29 ls [.ref (ad (20 + z44) (10 + 10 * z45))]) rfl ?_
      refine lv_astore_n hx hb xd_Me_takeFirstSteps_29 rfl hl (Nat.le_of_ble_eq_true rfl) rfl (fun ls hl => ?_)
      have hl : lv_has ls 3 [(2, .ref (ad (20 + z44) (10 + 10 * z45))), (1, .int (nI i)), (0, .ref (ad (20 + n) (10 + 10 * k)))] := hl
      by_cases hxk : z44 = n ∧ z45 = k
      · obtain ⟨hxk1, hxk2⟩ := hxk
        rw [hxk1, hxk2] at hl
        have hl : lv_has ls 3 [(2, .ref (ad (20 + n) (10 + 10 * k))), (1, .int (nI i)), (0, .ref (ad (20 + n) (10 + 10 * k)))] := hl
        rw [hxk1, hxk2] at z47
        refine lv_aload_n hx hb xd_Me_takeFirstSteps_30 rfl (lv_at hl 2 rfl) ?_
        refine px_get (D := D) (ci := 6) (v := .ref (ad (20 + n) (11 + 10 * k))) (C := xR_Me) (T := xT_Me) (N := 6) hx hb hT xi_Me hown hK.1 hP ym0 c_2 rfl 2 (by decide) (hT _ ys3_0) (fun _ h9 => h9) rfl xd_Me_takeFirstSteps_31 ?_
        refine lv_iload_n hx hb xd_Me_takeFirstSteps_34 rfl (lv_at hl 1 rfl) ?_
        refine lv_aload_n hx hb xd_Me_takeFirstSteps_35 rfl (lv_at hl 0 rfl) ?_
        refine px_aast (i := i) (r := (xR_Me, xT_Me, 6)) hx hb hK.1 hP hD hS ym1 hcA1 6 rfl ym0 c_2 rfl (by omega) (by omega) xd_Me_takeFirstSteps_36 (fun H locs hP hD hS => ?_)
        have hP : va_P D xcl (rp ad (up2 E1 (20 + n) (11 + 10 * k) (.inl (kA 6, rs, .inr (.inr (.inr (.inr (va_up fr1 i (some (ad (20 + n) (10 + 10 * k)))))))))) RL) H := hP
        have hD : va_D A (rp ad (up2 E1 (20 + n) (11 + 10 * k) (.inl (kA 6, rs, .inr (.inr (.inr (.inr (va_up fr1 i (some (ad (20 + n) (10 + 10 * k)))))))))) RL) := hD
        generalize hE62 : up2 E1 (20 + n) (11 + 10 * k) (.inl (kA 6, rs, .inr (.inr (.inr (.inr (va_up fr1 i (some (ad (20 + n) (10 + 10 * k))))))))) = E61 at hP hD
        have fE63 : ∀ b2 o2, ¬ (b2 = 20 + n ∧ o2 = 11 + 10 * k) → E61 b2 o2 = E1 b2 o2 := fun b2 o2 h9 => by rw [← hE62]; exact up2_ne (by omega)
        have c_64 : E61 (20 + n) (11 + 10 * k) = .inl (kA 6, rs, .inr (.inr (.inr (.inr (va_up fr1 i (some (ad (20 + n) (10 + 10 * k)))))))) := by rw [← hE62]; exact up2_eq
        have c_65 : E61 (20 + n) (15 + 10 * k) = .inl (kA 0, 6, .inl ga1) := (fE63 (20 + n) (15 + 10 * k) (by omega)).trans hcA5
        have c_66 : E61 (20 + n) (16 + 10 * k) = .inl (kA 0, 6, .inl gb1) := (fE63 (20 + n) (16 + 10 * k) (by omega)).trans hcA6
        have c_67 : E61 (20 + n) (10 + 10 * k) = .inr (6, [.ref (ad (20 + n) 0), .ref (ad (1 + d) 0), .ref (ad (20 + n) (11 + 10 * k)), .ref (ad (20 + n) (12 + 10 * k)), .ref (ad (20 + n) (13 + 10 * k)), .ref (ad (20 + n) (14 + 10 * k))]) := (fE63 (20 + n) (10 + 10 * k) (by omega)).trans c_2
        have c_68 : E61 (20 + n) (12 + 10 * k) = .inr (10, [.ref (ad (20 + n) (15 + 10 * k))]) := (fE63 (20 + n) (12 + 10 * k) (by omega)).trans c_3
        have c_69 : E61 (20 + n) (13 + 10 * k) = .inr (10, [.ref (ad (20 + n) (16 + 10 * k))]) := (fE63 (20 + n) (13 + 10 * k) (by omega)).trans c_4
        have c_70 : E61 (1 + d) 0 = .inr (7, [.int (nI d), .int fd_6, .int nm_6, .ref (ad (1 + d) 1), .ref (ad (1 + d) 9), .ref (ad (1 + d) 10), .ref (ad (1 + d) 2), .ref (ad (1 + d) 11), .ref (ad (1 + d) 12), .ref (ad (1 + d) 3), .ref (ad (1 + d) 4), .int sd_6]) := (fE63 (1 + d) 0 (by omega)).trans c_7
        have c_71 : E61 (1 + d) 11 = .inl (kA 2, 5, .inl tr_6) := (fE63 (1 + d) 11 (by omega)).trans c_29
        have c_72 : E61 (1 + d) 12 = .inl (kA 2, 5, .inl op_6) := (fE63 (1 + d) 12 (by omega)).trans c_31
        have c_73 : E61 (20 + n) 0 = .inr (5, [.int (nI n), pv_36, .ref (ad (20 + n) 1), .int op_36]) := (fE63 (20 + n) 0 (by omega)).trans c_37
        refine lv_aload_n hx hb xd_Me_takeFirstSteps_37 rfl (lv_at hl 0 rfl) ?_
        refine lv_ifnull hx hb xd_Me_takeFirstSteps_38 ?_
        refine lv_aload_n hx hb xd_Me_takeFirstSteps_41 rfl (lv_at hl 2 rfl) ?_
        refine px_get (D := D) (ci := 6) (v := .ref (ad (1 + d) 0)) (C := xR_Me) (T := xT_Me) (N := 6) hx hb hT xi_Me hown hK.1 hP ym0 c_67 rfl 1 (by decide) (hT _ ys3_2) (fun _ h9 => h9) rfl xd_Me_takeFirstSteps_42 ?_
        refine px_get (D := D) (ci := 7) (v := .ref (ad (1 + d) 12)) (C := xR_Ds) (T := xT_Ds) (N := 12) hx hb hT xi_Ds hown hK.1 hP m_8 c_70 rfl 8 (by decide) (hT _ ys3_14) (fun _ h9 => h9) rfl xd_Me_takeFirstSteps_45 ?_
        refine lv_iload_n hx hb xd_Me_takeFirstSteps_48 rfl (lv_at hl 1 rfl) ?_
        refine px_zald (i := i) hx hb hK.1 hP m_32 c_72 2 rfl (by omega) (by decide) xd_Me_takeFirstSteps_49 ?_
        refine lv_if_ne (tgt := 61) hx hb xd_Me_takeFirstSteps_50 (by decide) (fun hc74 => ?_) (fun hc74 => ?_)
        · refine lv_aload_n hx hb xd_Me_takeFirstSteps_61 rfl (lv_at hl 0 rfl) ?_
          refine lv_ifnull hx hb xd_Me_takeFirstSteps_62 ?_
          refine lv_aload_n hx hb xd_Me_takeFirstSteps_65 rfl (lv_at hl 2 rfl) ?_
          refine px_get (D := D) (ci := 6) (v := .ref (ad (1 + d) 0)) (C := xR_Me) (T := xT_Me) (N := 6) hx hb hT xi_Me hown hK.1 hP ym0 c_67 rfl 1 (by decide) (hT _ ys3_2) (fun _ h9 => h9) rfl xd_Me_takeFirstSteps_66 ?_
          refine px_get (D := D) (ci := 7) (v := .ref (ad (1 + d) 11)) (C := xR_Ds) (T := xT_Ds) (N := 12) hx hb hT xi_Ds hown hK.1 hP m_8 c_70 rfl 7 (by decide) (hT _ ys3_15) (fun _ h9 => h9) rfl xd_Me_takeFirstSteps_69 ?_
          refine lv_iload_n hx hb xd_Me_takeFirstSteps_72 rfl (lv_at hl 1 rfl) ?_
          refine px_zald (i := i) hx hb hK.1 hP m_30 c_71 2 rfl (by omega) (by decide) xd_Me_takeFirstSteps_73 ?_
          refine lv_if_eq (tgt := 107) hx hb xd_Me_takeFirstSteps_74 (by decide) (fun hc75 => ?_) (fun hc75 => ?_)
          · refine lv_iinc (k := 1) (x := (nI i)) (v := (nI (i + 1))) hx hb xd_Me_takeFirstSteps_107 hl rfl (xb_inc i 1) (Nat.le_of_ble_eq_true rfl) rfl (fun ls hl => ?_)
            have hl : lv_has ls 3 [(1, .int (nI (i + 1))), (2, .ref (ad (20 + n) (10 + 10 * k))), (0, .ref (ad (20 + n) (10 + 10 * k)))] := hl
            refine lv_goto (tgt := 2) hx hb xd_Me_takeFirstSteps_110 (by decide) ?_
            exact ih1 (i + 1, E61, (va_up fr1 i (some (ad (20 + n) (10 + 10 * k)))), ga1, gb1) _ _ _ (show rs - (i + 1) < rs - i by omega) (lv_sub hl [0, 2] rfl) hP hD hS ⟨(show (i + 1) ≤ rs from by first | assumption | omega), (show E61 (20 + n) (11 + 10 * k) = .inl (kA 6, rs, .inr (.inr (.inr (.inr (va_up fr1 i (some (ad (20 + n) (10 + 10 * k)))))))) from c_64), (show E61 (20 + n) (15 + 10 * k) = .inl (kA 0, 6, .inl ga1) from c_65), (show E61 (20 + n) (16 + 10 * k) = .inl (kA 0, 6, .inl gb1) from c_66), (show ∀ b2 o2, ¬ (b2 = 20 + n ∧ o2 = 11 + 10 * k) → ¬ (b2 = 20 + n ∧ o2 = 15 + 10 * k) → ¬ (b2 = 20 + n ∧ o2 = 16 + 10 * k) → E61 b2 o2 = E b2 o2 from fun b2 o2 h09 h19 h29 => by rw [fE63 b2 o2 (by omega), hfr b2 o2 (by omega) (by omega) (by omega)]), (show RQ kA ad E61 RL nd n (i + 1) (va_up fr1 i (some (ad (20 + n) (10 + 10 * k)))) from RQ_RU (RU3 (b := 20 + n) (by omega) hcA1 hcA5 hcA6 c_64 c_65 c_66 (fun b2 o2 h19 h29 h39 => by rw [fE63 b2 o2 (by omega)])) (RQ_add hRQ (Nat.le_refl _) z47))⟩
          · refine lv_aload_n hx hb xd_Me_takeFirstSteps_77 rfl (lv_at hl 2 rfl) ?_
            refine px_get (D := D) (ci := 6) (v := .ref (ad (20 + n) (13 + 10 * k))) (C := xR_Me) (T := xT_Me) (N := 6) hx hb hT xi_Me hown hK.1 hP ym0 c_67 rfl 4 (by decide) (hT _ ys3_16) (fun _ h9 => h9) rfl xd_Me_takeFirstSteps_78 ?_
            refine lv_aload_n hx hb xd_Me_takeFirstSteps_81 rfl (lv_at hl 0 rfl) ?_
            have hFc := px_free hD hS hA
            refine va_callv (va_runV (As := [.ref (ad (20 + n) (10 + 10 * k))]) (rest := []) ⟨hx, hb, hml, hown, hT⟩ (xc_Re_mark l D kA H.size ad E61 RL (20 + n) (13 + 10 * k) (16 + 10 * k) gb1 n k d pv_36 op_36 fd_6 nm_6 sd_6 ym3 c_69 ym5 c_66 ym0 c_67 m_38 c_73 m_8 c_70 (by first | assumption | omega) (by first | assumption | omega) (by first | assumption | omega)) (cwV 1 hT (wT_V ys3_18 ys3_19 ys3_20 ys3_21 ys3_17) rfl rfl rfl (by decide +kernel) ⟨Nat.le_of_ble_eq_true rfl, Nat.le_of_ble_eq_true rfl⟩) (px_preV hK hP hD ym3 c_69 rfl) rfl rfl hl.1 rfl (lv_room (Nat.le_of_ble_eq_true rfl)) xd_Me_takeFirstSteps_82 ⟨(Nat.le_of_ble_eq_true rfl), (Nat.le_of_ble_eq_true rfl)⟩) hS (fun q _ h => hFc q h) hFc (fun u77 t H1 locs ht hvm hp78 hB hz1 hk1 hS => ?_)
            obtain ⟨hP1, hD1⟩ := hB
            rw [ht] at hP1
            have hD1 := hD1.weaken (fun _ _ _ h => hFc _ h)
            generalize H1 = H at hP1 hS ⊢
            have hP := hP1
            have hD := hD1
            obtain ⟨E79, rfl⟩ : ∃ z, z = u77 := ⟨_, rfl⟩
            obtain ⟨w80, hp83, p_81, p_82⟩ := hp78
            have p_81 : E79 (20 + n) (16 + 10 * k) = .inl (kA 0, 6, .inl w80) := p_81
            have p_82 : (∀ b2 o2, ¬ (b2 = (20 + n) ∧ o2 = (16 + 10 * k)) → E79 b2 o2 = E61 b2 o2) := p_82
            have c_84 : E79 (20 + n) (11 + 10 * k) = .inl (kA 6, rs, .inr (.inr (.inr (.inr (va_up fr1 i (some (ad (20 + n) (10 + 10 * k)))))))) := (p_82 (20 + n) (11 + 10 * k) (by omega)).trans c_64
            have c_85 : E79 (20 + n) (15 + 10 * k) = .inl (kA 0, 6, .inl ga1) := (p_82 (20 + n) (15 + 10 * k) (by omega)).trans c_65
            have c_86 : E79 (20 + n) (10 + 10 * k) = .inr (6, [.ref (ad (20 + n) 0), .ref (ad (1 + d) 0), .ref (ad (20 + n) (11 + 10 * k)), .ref (ad (20 + n) (12 + 10 * k)), .ref (ad (20 + n) (13 + 10 * k)), .ref (ad (20 + n) (14 + 10 * k))]) := (p_82 (20 + n) (10 + 10 * k) (by omega)).trans c_67
            have c_87 : E79 (20 + n) (12 + 10 * k) = .inr (10, [.ref (ad (20 + n) (15 + 10 * k))]) := (p_82 (20 + n) (12 + 10 * k) (by omega)).trans c_68
            have c_88 : E79 (20 + n) (13 + 10 * k) = .inr (10, [.ref (ad (20 + n) (16 + 10 * k))]) := (p_82 (20 + n) (13 + 10 * k) (by omega)).trans c_69
            have c_89 : E79 (1 + d) 0 = .inr (7, [.int (nI d), .int fd_6, .int nm_6, .ref (ad (1 + d) 1), .ref (ad (1 + d) 9), .ref (ad (1 + d) 10), .ref (ad (1 + d) 2), .ref (ad (1 + d) 11), .ref (ad (1 + d) 12), .ref (ad (1 + d) 3), .ref (ad (1 + d) 4), .int sd_6]) := (p_82 (1 + d) 0 (by omega)).trans c_70
            have c_90 : E79 (1 + d) 11 = .inl (kA 2, 5, .inl tr_6) := (p_82 (1 + d) 11 (by omega)).trans c_71
            have c_91 : E79 (1 + d) 12 = .inl (kA 2, 5, .inl op_6) := (p_82 (1 + d) 12 (by omega)).trans c_72
            have c_92 : E79 (20 + n) 0 = .inr (5, [.int (nI n), pv_36, .ref (ad (20 + n) 1), .int op_36]) := (p_82 (20 + n) 0 (by omega)).trans c_73
            have hP : va_P D xcl (rp ad E79 RL) H := hP
            have hD : va_D A (rp ad E79 RL) := hD
            refine lv_aload_n hx hb xd_Me_takeFirstSteps_85 rfl (lv_at hl 0 rfl) ?_
            refine px_get (D := D) (ci := 6) (v := .ref (ad (20 + n) 0)) (C := xR_Me) (T := xT_Me) (N := 6) hx hb hT xi_Me hown hK.1 hP ym0 c_86 rfl 0 (by decide) (hT _ ys3_1) (fun _ h9 => h9) rfl xd_Me_takeFirstSteps_86 ?_
            refine lv_aload_n hx hb xd_Me_takeFirstSteps_89 rfl (lv_at hl 2 rfl) ?_
            refine px_get (D := D) (ci := 6) (v := .ref (ad (20 + n) 0)) (C := xR_Me) (T := xT_Me) (N := 6) hx hb hT xi_Me hown hK.1 hP ym0 c_86 rfl 0 (by decide) (hT _ ys3_1) (fun _ h9 => h9) rfl xd_Me_takeFirstSteps_90 ?_
            refine lv_acmp_eq (rx := (some (ad (20 + n) 0))) (ry := (some (ad (20 + n) 0))) (tgt := 107) hx hb xd_Me_takeFirstSteps_93 (by decide) (fun _ => ?_) (fun hc93 => absurd rfl hc93)
            refine lv_iinc (k := 1) (x := (nI i)) (v := (nI (i + 1))) hx hb xd_Me_takeFirstSteps_107 hl rfl (xb_inc i 1) (Nat.le_of_ble_eq_true rfl) rfl (fun ls hl => ?_)
            have hl : lv_has ls 3 [(1, .int (nI (i + 1))), (2, .ref (ad (20 + n) (10 + 10 * k))), (0, .ref (ad (20 + n) (10 + 10 * k)))] := hl
            refine lv_goto (tgt := 2) hx hb xd_Me_takeFirstSteps_110 (by decide) ?_
            exact ih1 (i + 1, E79, (va_up fr1 i (some (ad (20 + n) (10 + 10 * k)))), ga1, w80) _ _ _ (show rs - (i + 1) < rs - i by omega) (lv_sub hl [0, 2] rfl) hP hD hS ⟨(show (i + 1) ≤ rs from by first | assumption | omega), (show E79 (20 + n) (11 + 10 * k) = .inl (kA 6, rs, .inr (.inr (.inr (.inr (va_up fr1 i (some (ad (20 + n) (10 + 10 * k)))))))) from c_84), (show E79 (20 + n) (15 + 10 * k) = .inl (kA 0, 6, .inl ga1) from c_85), (show E79 (20 + n) (16 + 10 * k) = .inl (kA 0, 6, .inl w80) from p_81), (show ∀ b2 o2, ¬ (b2 = 20 + n ∧ o2 = 11 + 10 * k) → ¬ (b2 = 20 + n ∧ o2 = 15 + 10 * k) → ¬ (b2 = 20 + n ∧ o2 = 16 + 10 * k) → E79 b2 o2 = E b2 o2 from fun b2 o2 h09 h19 h29 => by rw [p_82 b2 o2 (by omega), fE63 b2 o2 (by omega), hfr b2 o2 (by omega) (by omega) (by omega)]), (show RQ kA ad E79 RL nd n (i + 1) (va_up fr1 i (some (ad (20 + n) (10 + 10 * k)))) from RQ_RU (RU3 (b := 20 + n) (by omega) hcA1 hcA5 hcA6 c_84 c_85 p_81 (fun b2 o2 h19 h29 h39 => by rw [p_82 b2 o2 (by omega), fE63 b2 o2 (by omega)])) (RQ_add hRQ (Nat.le_refl _) z47))⟩
        · refine lv_aload_n hx hb xd_Me_takeFirstSteps_53 rfl (lv_at hl 2 rfl) ?_
          refine px_get (D := D) (ci := 6) (v := .ref (ad (20 + n) (12 + 10 * k))) (C := xR_Me) (T := xT_Me) (N := 6) hx hb hT xi_Me hown hK.1 hP ym0 c_67 rfl 3 (by decide) (hT _ ys3_22) (fun _ h9 => h9) rfl xd_Me_takeFirstSteps_54 ?_
          refine lv_aload_n hx hb xd_Me_takeFirstSteps_57 rfl (lv_at hl 0 rfl) ?_
          have hFc := px_free hD hS hA
          refine va_callv (va_runV (As := [.ref (ad (20 + n) (10 + 10 * k))]) (rest := []) ⟨hx, hb, hml, hown, hT⟩ (xc_Re_mark l D kA H.size ad E61 RL (20 + n) (12 + 10 * k) (15 + 10 * k) ga1 n k d pv_36 op_36 fd_6 nm_6 sd_6 ym2 c_68 ym4 c_65 ym0 c_67 m_38 c_73 m_8 c_70 (by first | assumption | omega) (by first | assumption | omega) (by first | assumption | omega)) (cwV 1 hT (wT_V ys3_18 ys3_19 ys3_20 ys3_21 ys3_17) rfl rfl rfl (by decide +kernel) ⟨Nat.le_of_ble_eq_true rfl, Nat.le_of_ble_eq_true rfl⟩) (px_preV hK hP hD ym2 c_68 rfl) rfl rfl hl.1 rfl (lv_room (Nat.le_of_ble_eq_true rfl)) xd_Me_takeFirstSteps_58 ⟨(Nat.le_of_ble_eq_true rfl), (Nat.le_of_ble_eq_true rfl)⟩) hS (fun q _ h => hFc q h) hFc (fun u95 t H1 locs ht hvm hp96 hB hz1 hk1 hS => ?_)
          obtain ⟨hP1, hD1⟩ := hB
          rw [ht] at hP1
          have hD1 := hD1.weaken (fun _ _ _ h => hFc _ h)
          generalize H1 = H at hP1 hS ⊢
          have hP := hP1
          have hD := hD1
          obtain ⟨E97, rfl⟩ : ∃ z, z = u95 := ⟨_, rfl⟩
          obtain ⟨w98, hp101, p_99, p_100⟩ := hp96
          have p_99 : E97 (20 + n) (15 + 10 * k) = .inl (kA 0, 6, .inl w98) := p_99
          have p_100 : (∀ b2 o2, ¬ (b2 = (20 + n) ∧ o2 = (15 + 10 * k)) → E97 b2 o2 = E61 b2 o2) := p_100
          have c_102 : E97 (20 + n) (11 + 10 * k) = .inl (kA 6, rs, .inr (.inr (.inr (.inr (va_up fr1 i (some (ad (20 + n) (10 + 10 * k)))))))) := (p_100 (20 + n) (11 + 10 * k) (by omega)).trans c_64
          have c_103 : E97 (20 + n) (16 + 10 * k) = .inl (kA 0, 6, .inl gb1) := (p_100 (20 + n) (16 + 10 * k) (by omega)).trans c_66
          have c_104 : E97 (20 + n) (10 + 10 * k) = .inr (6, [.ref (ad (20 + n) 0), .ref (ad (1 + d) 0), .ref (ad (20 + n) (11 + 10 * k)), .ref (ad (20 + n) (12 + 10 * k)), .ref (ad (20 + n) (13 + 10 * k)), .ref (ad (20 + n) (14 + 10 * k))]) := (p_100 (20 + n) (10 + 10 * k) (by omega)).trans c_67
          have c_105 : E97 (20 + n) (12 + 10 * k) = .inr (10, [.ref (ad (20 + n) (15 + 10 * k))]) := (p_100 (20 + n) (12 + 10 * k) (by omega)).trans c_68
          have c_106 : E97 (20 + n) (13 + 10 * k) = .inr (10, [.ref (ad (20 + n) (16 + 10 * k))]) := (p_100 (20 + n) (13 + 10 * k) (by omega)).trans c_69
          have c_107 : E97 (1 + d) 0 = .inr (7, [.int (nI d), .int fd_6, .int nm_6, .ref (ad (1 + d) 1), .ref (ad (1 + d) 9), .ref (ad (1 + d) 10), .ref (ad (1 + d) 2), .ref (ad (1 + d) 11), .ref (ad (1 + d) 12), .ref (ad (1 + d) 3), .ref (ad (1 + d) 4), .int sd_6]) := (p_100 (1 + d) 0 (by omega)).trans c_70
          have c_108 : E97 (1 + d) 11 = .inl (kA 2, 5, .inl tr_6) := (p_100 (1 + d) 11 (by omega)).trans c_71
          have c_109 : E97 (1 + d) 12 = .inl (kA 2, 5, .inl op_6) := (p_100 (1 + d) 12 (by omega)).trans c_72
          have c_110 : E97 (20 + n) 0 = .inr (5, [.int (nI n), pv_36, .ref (ad (20 + n) 1), .int op_36]) := (p_100 (20 + n) 0 (by omega)).trans c_73
          have hP : va_P D xcl (rp ad E97 RL) H := hP
          have hD : va_D A (rp ad E97 RL) := hD
          refine lv_aload_n hx hb xd_Me_takeFirstSteps_61 rfl (lv_at hl 0 rfl) ?_
          refine lv_ifnull hx hb xd_Me_takeFirstSteps_62 ?_
          refine lv_aload_n hx hb xd_Me_takeFirstSteps_65 rfl (lv_at hl 2 rfl) ?_
          refine px_get (D := D) (ci := 6) (v := .ref (ad (1 + d) 0)) (C := xR_Me) (T := xT_Me) (N := 6) hx hb hT xi_Me hown hK.1 hP ym0 c_104 rfl 1 (by decide) (hT _ ys3_2) (fun _ h9 => h9) rfl xd_Me_takeFirstSteps_66 ?_
          refine px_get (D := D) (ci := 7) (v := .ref (ad (1 + d) 11)) (C := xR_Ds) (T := xT_Ds) (N := 12) hx hb hT xi_Ds hown hK.1 hP m_8 c_107 rfl 7 (by decide) (hT _ ys3_15) (fun _ h9 => h9) rfl xd_Me_takeFirstSteps_69 ?_
          refine lv_iload_n hx hb xd_Me_takeFirstSteps_72 rfl (lv_at hl 1 rfl) ?_
          refine px_zald (i := i) hx hb hK.1 hP m_30 c_108 2 rfl (by omega) (by decide) xd_Me_takeFirstSteps_73 ?_
          refine lv_if_eq (tgt := 107) hx hb xd_Me_takeFirstSteps_74 (by decide) (fun hc111 => ?_) (fun hc111 => ?_)
          · refine lv_iinc (k := 1) (x := (nI i)) (v := (nI (i + 1))) hx hb xd_Me_takeFirstSteps_107 hl rfl (xb_inc i 1) (Nat.le_of_ble_eq_true rfl) rfl (fun ls hl => ?_)
            have hl : lv_has ls 3 [(1, .int (nI (i + 1))), (2, .ref (ad (20 + n) (10 + 10 * k))), (0, .ref (ad (20 + n) (10 + 10 * k)))] := hl
            refine lv_goto (tgt := 2) hx hb xd_Me_takeFirstSteps_110 (by decide) ?_
            exact ih1 (i + 1, E97, (va_up fr1 i (some (ad (20 + n) (10 + 10 * k)))), w98, gb1) _ _ _ (show rs - (i + 1) < rs - i by omega) (lv_sub hl [0, 2] rfl) hP hD hS ⟨(show (i + 1) ≤ rs from by first | assumption | omega), (show E97 (20 + n) (11 + 10 * k) = .inl (kA 6, rs, .inr (.inr (.inr (.inr (va_up fr1 i (some (ad (20 + n) (10 + 10 * k)))))))) from c_102), (show E97 (20 + n) (15 + 10 * k) = .inl (kA 0, 6, .inl w98) from p_99), (show E97 (20 + n) (16 + 10 * k) = .inl (kA 0, 6, .inl gb1) from c_103), (show ∀ b2 o2, ¬ (b2 = 20 + n ∧ o2 = 11 + 10 * k) → ¬ (b2 = 20 + n ∧ o2 = 15 + 10 * k) → ¬ (b2 = 20 + n ∧ o2 = 16 + 10 * k) → E97 b2 o2 = E b2 o2 from fun b2 o2 h09 h19 h29 => by rw [p_100 b2 o2 (by omega), fE63 b2 o2 (by omega), hfr b2 o2 (by omega) (by omega) (by omega)]), (show RQ kA ad E97 RL nd n (i + 1) (va_up fr1 i (some (ad (20 + n) (10 + 10 * k)))) from RQ_RU (RU3 (b := 20 + n) (by omega) hcA1 hcA5 hcA6 c_102 p_99 c_103 (fun b2 o2 h19 h29 h39 => by rw [p_100 b2 o2 (by omega), fE63 b2 o2 (by omega)])) (RQ_add hRQ (Nat.le_refl _) z47))⟩
          · refine lv_aload_n hx hb xd_Me_takeFirstSteps_77 rfl (lv_at hl 2 rfl) ?_
            refine px_get (D := D) (ci := 6) (v := .ref (ad (20 + n) (13 + 10 * k))) (C := xR_Me) (T := xT_Me) (N := 6) hx hb hT xi_Me hown hK.1 hP ym0 c_104 rfl 4 (by decide) (hT _ ys3_16) (fun _ h9 => h9) rfl xd_Me_takeFirstSteps_78 ?_
            refine lv_aload_n hx hb xd_Me_takeFirstSteps_81 rfl (lv_at hl 0 rfl) ?_
            have hFc := px_free hD hS hA
            refine va_callv (va_runV (As := [.ref (ad (20 + n) (10 + 10 * k))]) (rest := []) ⟨hx, hb, hml, hown, hT⟩ (xc_Re_mark l D kA H.size ad E97 RL (20 + n) (13 + 10 * k) (16 + 10 * k) gb1 n k d pv_36 op_36 fd_6 nm_6 sd_6 ym3 c_106 ym5 c_103 ym0 c_104 m_38 c_110 m_8 c_107 (by first | assumption | omega) (by first | assumption | omega) (by first | assumption | omega)) (cwV 1 hT (wT_V ys3_18 ys3_19 ys3_20 ys3_21 ys3_17) rfl rfl rfl (by decide +kernel) ⟨Nat.le_of_ble_eq_true rfl, Nat.le_of_ble_eq_true rfl⟩) (px_preV hK hP hD ym3 c_106 rfl) rfl rfl hl.1 rfl (lv_room (Nat.le_of_ble_eq_true rfl)) xd_Me_takeFirstSteps_82 ⟨(Nat.le_of_ble_eq_true rfl), (Nat.le_of_ble_eq_true rfl)⟩) hS (fun q _ h => hFc q h) hFc (fun u113 t H1 locs ht hvm hp114 hB hz1 hk1 hS => ?_)
            obtain ⟨hP1, hD1⟩ := hB
            rw [ht] at hP1
            have hD1 := hD1.weaken (fun _ _ _ h => hFc _ h)
            generalize H1 = H at hP1 hS ⊢
            have hP := hP1
            have hD := hD1
            obtain ⟨E115, rfl⟩ : ∃ z, z = u113 := ⟨_, rfl⟩
            obtain ⟨w116, hp119, p_117, p_118⟩ := hp114
            have p_117 : E115 (20 + n) (16 + 10 * k) = .inl (kA 0, 6, .inl w116) := p_117
            have p_118 : (∀ b2 o2, ¬ (b2 = (20 + n) ∧ o2 = (16 + 10 * k)) → E115 b2 o2 = E97 b2 o2) := p_118
            have c_120 : E115 (20 + n) (15 + 10 * k) = .inl (kA 0, 6, .inl w98) := (p_118 (20 + n) (15 + 10 * k) (by omega)).trans p_99
            have c_121 : E115 (20 + n) (11 + 10 * k) = .inl (kA 6, rs, .inr (.inr (.inr (.inr (va_up fr1 i (some (ad (20 + n) (10 + 10 * k)))))))) := (p_118 (20 + n) (11 + 10 * k) (by omega)).trans c_102
            have c_122 : E115 (20 + n) (10 + 10 * k) = .inr (6, [.ref (ad (20 + n) 0), .ref (ad (1 + d) 0), .ref (ad (20 + n) (11 + 10 * k)), .ref (ad (20 + n) (12 + 10 * k)), .ref (ad (20 + n) (13 + 10 * k)), .ref (ad (20 + n) (14 + 10 * k))]) := (p_118 (20 + n) (10 + 10 * k) (by omega)).trans c_104
            have c_123 : E115 (20 + n) (12 + 10 * k) = .inr (10, [.ref (ad (20 + n) (15 + 10 * k))]) := (p_118 (20 + n) (12 + 10 * k) (by omega)).trans c_105
            have c_124 : E115 (20 + n) (13 + 10 * k) = .inr (10, [.ref (ad (20 + n) (16 + 10 * k))]) := (p_118 (20 + n) (13 + 10 * k) (by omega)).trans c_106
            have c_125 : E115 (1 + d) 0 = .inr (7, [.int (nI d), .int fd_6, .int nm_6, .ref (ad (1 + d) 1), .ref (ad (1 + d) 9), .ref (ad (1 + d) 10), .ref (ad (1 + d) 2), .ref (ad (1 + d) 11), .ref (ad (1 + d) 12), .ref (ad (1 + d) 3), .ref (ad (1 + d) 4), .int sd_6]) := (p_118 (1 + d) 0 (by omega)).trans c_107
            have c_126 : E115 (1 + d) 11 = .inl (kA 2, 5, .inl tr_6) := (p_118 (1 + d) 11 (by omega)).trans c_108
            have c_127 : E115 (1 + d) 12 = .inl (kA 2, 5, .inl op_6) := (p_118 (1 + d) 12 (by omega)).trans c_109
            have c_128 : E115 (20 + n) 0 = .inr (5, [.int (nI n), pv_36, .ref (ad (20 + n) 1), .int op_36]) := (p_118 (20 + n) 0 (by omega)).trans c_110
            have hP : va_P D xcl (rp ad E115 RL) H := hP
            have hD : va_D A (rp ad E115 RL) := hD
            refine lv_aload_n hx hb xd_Me_takeFirstSteps_85 rfl (lv_at hl 0 rfl) ?_
            refine px_get (D := D) (ci := 6) (v := .ref (ad (20 + n) 0)) (C := xR_Me) (T := xT_Me) (N := 6) hx hb hT xi_Me hown hK.1 hP ym0 c_122 rfl 0 (by decide) (hT _ ys3_1) (fun _ h9 => h9) rfl xd_Me_takeFirstSteps_86 ?_
            refine lv_aload_n hx hb xd_Me_takeFirstSteps_89 rfl (lv_at hl 2 rfl) ?_
            refine px_get (D := D) (ci := 6) (v := .ref (ad (20 + n) 0)) (C := xR_Me) (T := xT_Me) (N := 6) hx hb hT xi_Me hown hK.1 hP ym0 c_122 rfl 0 (by decide) (hT _ ys3_1) (fun _ h9 => h9) rfl xd_Me_takeFirstSteps_90 ?_
            refine lv_acmp_eq (rx := (some (ad (20 + n) 0))) (ry := (some (ad (20 + n) 0))) (tgt := 107) hx hb xd_Me_takeFirstSteps_93 (by decide) (fun _ => ?_) (fun hc129 => absurd rfl hc129)
            refine lv_iinc (k := 1) (x := (nI i)) (v := (nI (i + 1))) hx hb xd_Me_takeFirstSteps_107 hl rfl (xb_inc i 1) (Nat.le_of_ble_eq_true rfl) rfl (fun ls hl => ?_)
            have hl : lv_has ls 3 [(1, .int (nI (i + 1))), (2, .ref (ad (20 + n) (10 + 10 * k))), (0, .ref (ad (20 + n) (10 + 10 * k)))] := hl
            refine lv_goto (tgt := 2) hx hb xd_Me_takeFirstSteps_110 (by decide) ?_
            exact ih1 (i + 1, E115, (va_up fr1 i (some (ad (20 + n) (10 + 10 * k)))), w98, w116) _ _ _ (show rs - (i + 1) < rs - i by omega) (lv_sub hl [0, 2] rfl) hP hD hS ⟨(show (i + 1) ≤ rs from by first | assumption | omega), (show E115 (20 + n) (11 + 10 * k) = .inl (kA 6, rs, .inr (.inr (.inr (.inr (va_up fr1 i (some (ad (20 + n) (10 + 10 * k)))))))) from c_121), (show E115 (20 + n) (15 + 10 * k) = .inl (kA 0, 6, .inl w98) from c_120), (show E115 (20 + n) (16 + 10 * k) = .inl (kA 0, 6, .inl w116) from p_117), (show ∀ b2 o2, ¬ (b2 = 20 + n ∧ o2 = 11 + 10 * k) → ¬ (b2 = 20 + n ∧ o2 = 15 + 10 * k) → ¬ (b2 = 20 + n ∧ o2 = 16 + 10 * k) → E115 b2 o2 = E b2 o2 from fun b2 o2 h09 h19 h29 => by rw [p_118 b2 o2 (by omega), p_100 b2 o2 (by omega), fE63 b2 o2 (by omega), hfr b2 o2 (by omega) (by omega) (by omega)]), (show RQ kA ad E115 RL nd n (i + 1) (va_up fr1 i (some (ad (20 + n) (10 + 10 * k)))) from RQ_RU (RU3 (b := 20 + n) (by omega) hcA1 hcA5 hcA6 c_121 c_120 p_117 (fun b2 o2 h19 h29 h39 => by rw [p_118 b2 o2 (by omega), p_100 b2 o2 (by omega), fE63 b2 o2 (by omega)])) (RQ_add hRQ (Nat.le_refl _) z47))⟩
      · obtain ⟨hm_130, d_130, rs_130, fr_130, g2_130, g3_130, g4_130, hd_130, hrs_130, q0_130, q1_130, q2_130, q3_130, q4_130, q5_130, q6_130, q7_130⟩ := id z47
        have c_131 : E1 (20 + z44) (10 + 10 * z45) = .inr (6, [.ref (ad (20 + z44) 0), .ref (ad (1 + d_130) 0), .ref (ad (20 + z44) (11 + 10 * z45)), .ref (ad (20 + z44) (12 + 10 * z45)), .ref (ad (20 + z44) (13 + 10 * z45)), .ref (ad (20 + z44) (14 + 10 * z45))]) := q0_130
        have m_132 : (20 + z44, 10 + 10 * z45) ∈ RL := hm_130 0 (by omega)
        have c_133 : E1 (20 + z44) (11 + 10 * z45) = .inl (kA 6, rs_130, .inr (.inr (.inr (.inr fr_130)))) := q1_130
        have m_134 : (20 + z44, 11 + 10 * z45) ∈ RL := hm_130 1 (by omega)
        have c_135 : E1 (20 + z44) (12 + 10 * z45) = .inr (10, [.ref (ad (20 + z44) (15 + 10 * z45))]) := q2_130
        have m_136 : (20 + z44, 12 + 10 * z45) ∈ RL := hm_130 2 (by omega)
        have c_137 : E1 (20 + z44) (13 + 10 * z45) = .inr (10, [.ref (ad (20 + z44) (16 + 10 * z45))]) := q3_130
        have m_138 : (20 + z44, 13 + 10 * z45) ∈ RL := hm_130 3 (by omega)
        have c_139 : E1 (20 + z44) (14 + 10 * z45) = .inr (10, [.ref (ad (20 + z44) (17 + 10 * z45))]) := q4_130
        have m_140 : (20 + z44, 14 + 10 * z45) ∈ RL := hm_130 4 (by omega)
        have c_141 : E1 (20 + z44) (15 + 10 * z45) = .inl (kA 0, 6, .inl g2_130) := q5_130
        have m_142 : (20 + z44, 15 + 10 * z45) ∈ RL := hm_130 5 (by omega)
        have c_143 : E1 (20 + z44) (16 + 10 * z45) = .inl (kA 0, 6, .inl g3_130) := q6_130
        have m_144 : (20 + z44, 16 + 10 * z45) ∈ RL := hm_130 6 (by omega)
        have c_145 : E1 (20 + z44) (17 + 10 * z45) = .inl (kA 0, 6, .inl g4_130) := q7_130
        have m_146 : (20 + z44, 17 + 10 * z45) ∈ RL := hm_130 7 (by omega)
        obtain ⟨m0_147, m1_147, pv_147, op_147, mk_147, fm_147, hmk_147, hpv_147, q0_147, q1_147, hk_147⟩ := id (hLIs z44 (by omega))
        have c_148 : E1 (20 + z44) 0 = .inr (5, [.int (nI z44), pv_147, .ref (ad (20 + z44) 1), .int op_147]) := q0_147
        have m_149 : (20 + z44, 0) ∈ RL := m0_147
        have c_150 : E1 (20 + z44) 1 = .inl (kA 6, mk_147, .inr (.inr (.inr (.inr fm_147)))) := q1_147
        have m_151 : (20 + z44, 1) ∈ RL := m1_147
        obtain ⟨hm_152, fd_152, nm_152, sd_152, k0_152, k1_152, k2_152, k3_152, f0_152, f1_152, f2_152, f3_152, fe_152, fo_152, tr_152, op_152, hk0_152, hk1_152, hk2_152, hk3_152, q0_152, q1_152, q2_152, q3_152, q4_152, q5_152, q6_152, q7_152, q8_152, q9_152, q10_152, q11_152, q12_152, hg_152⟩ := id (hDIs d_130 (by omega))
        have c_153 : E1 (1 + d_130) 0 = .inr (7, [.int (nI d_130), .int fd_152, .int nm_152, .ref (ad (1 + d_130) 1), .ref (ad (1 + d_130) 9), .ref (ad (1 + d_130) 10), .ref (ad (1 + d_130) 2), .ref (ad (1 + d_130) 11), .ref (ad (1 + d_130) 12), .ref (ad (1 + d_130) 3), .ref (ad (1 + d_130) 4), .int sd_152]) := q0_152
        have m_154 : (1 + d_130, 0) ∈ RL := hm_152 0 (by omega)
        have c_155 : E1 (1 + d_130) 1 = .inr (8, [.ref (ad (1 + d_130) 5), .int (nI k0_152)]) := q1_152
        have m_156 : (1 + d_130, 1) ∈ RL := hm_152 1 (by omega)
        have c_157 : E1 (1 + d_130) 2 = .inr (8, [.ref (ad (1 + d_130) 6), .int (nI k1_152)]) := q2_152
        have m_158 : (1 + d_130, 2) ∈ RL := hm_152 2 (by omega)
        have c_159 : E1 (1 + d_130) 3 = .inr (8, [.ref (ad (1 + d_130) 7), .int (nI k2_152)]) := q3_152
        have m_160 : (1 + d_130, 3) ∈ RL := hm_152 3 (by omega)
        have c_161 : E1 (1 + d_130) 4 = .inr (8, [.ref (ad (1 + d_130) 8), .int (nI k3_152)]) := q4_152
        have m_162 : (1 + d_130, 4) ∈ RL := hm_152 4 (by omega)
        have c_163 : E1 (1 + d_130) 5 = .inl (kA 0, 6, .inl f0_152) := q5_152
        have m_164 : (1 + d_130, 5) ∈ RL := hm_152 5 (by omega)
        have c_165 : E1 (1 + d_130) 6 = .inl (kA 0, 5, .inl f1_152) := q6_152
        have m_166 : (1 + d_130, 6) ∈ RL := hm_152 6 (by omega)
        have c_167 : E1 (1 + d_130) 7 = .inl (kA 0, 3, .inl f2_152) := q7_152
        have m_168 : (1 + d_130, 7) ∈ RL := hm_152 7 (by omega)
        have c_169 : E1 (1 + d_130) 8 = .inl (kA 0, 3, .inl f3_152) := q8_152
        have m_170 : (1 + d_130, 8) ∈ RL := hm_152 8 (by omega)
        have c_171 : E1 (1 + d_130) 9 = .inl (kA 8, 6, .inr (.inr (.inr (.inr fe_152)))) := q9_152
        have m_172 : (1 + d_130, 9) ∈ RL := hm_152 9 (by omega)
        have c_173 : E1 (1 + d_130) 10 = .inl (kA 8, 6, .inr (.inr (.inr (.inr fo_152)))) := q10_152
        have m_174 : (1 + d_130, 10) ∈ RL := hm_152 10 (by omega)
        have c_175 : E1 (1 + d_130) 11 = .inl (kA 2, 5, .inl tr_152) := q11_152
        have m_176 : (1 + d_130, 11) ∈ RL := hm_152 11 (by omega)
        have c_177 : E1 (1 + d_130) 12 = .inl (kA 2, 5, .inl op_152) := q12_152
        have m_178 : (1 + d_130, 12) ∈ RL := hm_152 12 (by omega)
        have hg_152 : ∀ w9, w9 < k0_152 → fe_152 w9 = some (ad (1 + d_130) (20 + 3 * w9)) ∧ fo_152 w9 = some (ad (1 + d_130) (38 + 3 * w9)) ∧ GI kA (ad (1 + d_130)) (E1 (1 + d_130)) (fun o => (1 + d_130, o) ∈ RL) (20 + 3 * w9) (21 + 3 * w9) (22 + 3 * w9) ∧ GI kA (ad (1 + d_130)) (E1 (1 + d_130)) (fun o => (1 + d_130, o) ∈ RL) (38 + 3 * w9) (39 + 3 * w9) (40 + 3 * w9) := hg_152
        refine lv_aload_n hx hb xd_Me_takeFirstSteps_30 rfl (lv_at hl 2 rfl) ?_
        refine px_get (D := D) (ci := 6) (v := .ref (ad (20 + n) (11 + 10 * k))) (C := xR_Me) (T := xT_Me) (N := 6) hx hb hT xi_Me hown hK.1 hP ym0 c_2 rfl 2 (by decide) (hT _ ys3_0) (fun _ h9 => h9) rfl xd_Me_takeFirstSteps_31 ?_
        refine lv_iload_n hx hb xd_Me_takeFirstSteps_34 rfl (lv_at hl 1 rfl) ?_
        refine lv_aload_n hx hb xd_Me_takeFirstSteps_35 rfl (lv_at hl 0 rfl) ?_
        refine px_aast (i := i) (r := (xR_Me, xT_Me, 6)) hx hb hK.1 hP hD hS ym1 hcA1 6 rfl m_132 c_131 rfl (by omega) (by omega) xd_Me_takeFirstSteps_36 (fun H locs hP hD hS => ?_)
        have hP : va_P D xcl (rp ad (up2 E1 (20 + n) (11 + 10 * k) (.inl (kA 6, rs, .inr (.inr (.inr (.inr (va_up fr1 i (some (ad (20 + z44) (10 + 10 * z45)))))))))) RL) H := hP
        have hD : va_D A (rp ad (up2 E1 (20 + n) (11 + 10 * k) (.inl (kA 6, rs, .inr (.inr (.inr (.inr (va_up fr1 i (some (ad (20 + z44) (10 + 10 * z45)))))))))) RL) := hD
        generalize hE180 : up2 E1 (20 + n) (11 + 10 * k) (.inl (kA 6, rs, .inr (.inr (.inr (.inr (va_up fr1 i (some (ad (20 + z44) (10 + 10 * z45))))))))) = E179 at hP hD
        have fE181 : ∀ b2 o2, ¬ (b2 = 20 + n ∧ o2 = 11 + 10 * k) → E179 b2 o2 = E1 b2 o2 := fun b2 o2 h9 => by rw [← hE180]; exact up2_ne (by omega)
        have c_182 : E179 (20 + n) (11 + 10 * k) = .inl (kA 6, rs, .inr (.inr (.inr (.inr (va_up fr1 i (some (ad (20 + z44) (10 + 10 * z45)))))))) := by rw [← hE180]; exact up2_eq
        have c_183 : E179 (20 + n) (15 + 10 * k) = .inl (kA 0, 6, .inl ga1) := (fE181 (20 + n) (15 + 10 * k) (by omega)).trans hcA5
        have c_184 : E179 (20 + n) (16 + 10 * k) = .inl (kA 0, 6, .inl gb1) := (fE181 (20 + n) (16 + 10 * k) (by omega)).trans hcA6
        have c_185 : E179 (20 + n) (10 + 10 * k) = .inr (6, [.ref (ad (20 + n) 0), .ref (ad (1 + d) 0), .ref (ad (20 + n) (11 + 10 * k)), .ref (ad (20 + n) (12 + 10 * k)), .ref (ad (20 + n) (13 + 10 * k)), .ref (ad (20 + n) (14 + 10 * k))]) := (fE181 (20 + n) (10 + 10 * k) (by omega)).trans c_2
        have c_186 : E179 (20 + n) (12 + 10 * k) = .inr (10, [.ref (ad (20 + n) (15 + 10 * k))]) := (fE181 (20 + n) (12 + 10 * k) (by omega)).trans c_3
        have c_187 : E179 (20 + n) (13 + 10 * k) = .inr (10, [.ref (ad (20 + n) (16 + 10 * k))]) := (fE181 (20 + n) (13 + 10 * k) (by omega)).trans c_4
        have c_188 : E179 (1 + d) 0 = .inr (7, [.int (nI d), .int fd_6, .int nm_6, .ref (ad (1 + d) 1), .ref (ad (1 + d) 9), .ref (ad (1 + d) 10), .ref (ad (1 + d) 2), .ref (ad (1 + d) 11), .ref (ad (1 + d) 12), .ref (ad (1 + d) 3), .ref (ad (1 + d) 4), .int sd_6]) := (fE181 (1 + d) 0 (by omega)).trans c_7
        have c_189 : E179 (1 + d) 11 = .inl (kA 2, 5, .inl tr_6) := (fE181 (1 + d) 11 (by omega)).trans c_29
        have c_190 : E179 (1 + d) 12 = .inl (kA 2, 5, .inl op_6) := (fE181 (1 + d) 12 (by omega)).trans c_31
        have c_191 : E179 (20 + n) 0 = .inr (5, [.int (nI n), pv_36, .ref (ad (20 + n) 1), .int op_36]) := (fE181 (20 + n) 0 (by omega)).trans c_37
        have c_192 : E179 (20 + z44) (10 + 10 * z45) = .inr (6, [.ref (ad (20 + z44) 0), .ref (ad (1 + d_130) 0), .ref (ad (20 + z44) (11 + 10 * z45)), .ref (ad (20 + z44) (12 + 10 * z45)), .ref (ad (20 + z44) (13 + 10 * z45)), .ref (ad (20 + z44) (14 + 10 * z45))]) := (fE181 (20 + z44) (10 + 10 * z45) (by omega)).trans c_131
        have c_193 : E179 (20 + z44) (13 + 10 * z45) = .inr (10, [.ref (ad (20 + z44) (16 + 10 * z45))]) := (fE181 (20 + z44) (13 + 10 * z45) (by omega)).trans c_137
        have c_194 : E179 (20 + z44) (16 + 10 * z45) = .inl (kA 0, 6, .inl g3_130) := (fE181 (20 + z44) (16 + 10 * z45) (by omega)).trans c_143
        have c_195 : E179 (20 + z44) 0 = .inr (5, [.int (nI z44), pv_147, .ref (ad (20 + z44) 1), .int op_147]) := (fE181 (20 + z44) 0 (by omega)).trans c_148
        have c_196 : E179 (1 + d_130) 0 = .inr (7, [.int (nI d_130), .int fd_152, .int nm_152, .ref (ad (1 + d_130) 1), .ref (ad (1 + d_130) 9), .ref (ad (1 + d_130) 10), .ref (ad (1 + d_130) 2), .ref (ad (1 + d_130) 11), .ref (ad (1 + d_130) 12), .ref (ad (1 + d_130) 3), .ref (ad (1 + d_130) 4), .int sd_152]) := (fE181 (1 + d_130) 0 (by omega)).trans c_153
        refine lv_aload_n hx hb xd_Me_takeFirstSteps_37 rfl (lv_at hl 0 rfl) ?_
        refine lv_ifnull hx hb xd_Me_takeFirstSteps_38 ?_
        refine lv_aload_n hx hb xd_Me_takeFirstSteps_41 rfl (lv_at hl 2 rfl) ?_
        refine px_get (D := D) (ci := 6) (v := .ref (ad (1 + d) 0)) (C := xR_Me) (T := xT_Me) (N := 6) hx hb hT xi_Me hown hK.1 hP ym0 c_185 rfl 1 (by decide) (hT _ ys3_2) (fun _ h9 => h9) rfl xd_Me_takeFirstSteps_42 ?_
        refine px_get (D := D) (ci := 7) (v := .ref (ad (1 + d) 12)) (C := xR_Ds) (T := xT_Ds) (N := 12) hx hb hT xi_Ds hown hK.1 hP m_8 c_188 rfl 8 (by decide) (hT _ ys3_14) (fun _ h9 => h9) rfl xd_Me_takeFirstSteps_45 ?_
        refine lv_iload_n hx hb xd_Me_takeFirstSteps_48 rfl (lv_at hl 1 rfl) ?_
        refine px_zald (i := i) hx hb hK.1 hP m_32 c_190 2 rfl (by omega) (by decide) xd_Me_takeFirstSteps_49 ?_
        refine lv_if_ne (tgt := 61) hx hb xd_Me_takeFirstSteps_50 (by decide) (fun hc197 => ?_) (fun hc197 => ?_)
        · refine lv_aload_n hx hb xd_Me_takeFirstSteps_61 rfl (lv_at hl 0 rfl) ?_
          refine lv_ifnull hx hb xd_Me_takeFirstSteps_62 ?_
          refine lv_aload_n hx hb xd_Me_takeFirstSteps_65 rfl (lv_at hl 2 rfl) ?_
          refine px_get (D := D) (ci := 6) (v := .ref (ad (1 + d) 0)) (C := xR_Me) (T := xT_Me) (N := 6) hx hb hT xi_Me hown hK.1 hP ym0 c_185 rfl 1 (by decide) (hT _ ys3_2) (fun _ h9 => h9) rfl xd_Me_takeFirstSteps_66 ?_
          refine px_get (D := D) (ci := 7) (v := .ref (ad (1 + d) 11)) (C := xR_Ds) (T := xT_Ds) (N := 12) hx hb hT xi_Ds hown hK.1 hP m_8 c_188 rfl 7 (by decide) (hT _ ys3_15) (fun _ h9 => h9) rfl xd_Me_takeFirstSteps_69 ?_
          refine lv_iload_n hx hb xd_Me_takeFirstSteps_72 rfl (lv_at hl 1 rfl) ?_
          refine px_zald (i := i) hx hb hK.1 hP m_30 c_189 2 rfl (by omega) (by decide) xd_Me_takeFirstSteps_73 ?_
          refine lv_if_eq (tgt := 107) hx hb xd_Me_takeFirstSteps_74 (by decide) (fun hc198 => ?_) (fun hc198 => ?_)
          · refine lv_iinc (k := 1) (x := (nI i)) (v := (nI (i + 1))) hx hb xd_Me_takeFirstSteps_107 hl rfl (xb_inc i 1) (Nat.le_of_ble_eq_true rfl) rfl (fun ls hl => ?_)
            have hl : lv_has ls 3 [(1, .int (nI (i + 1))), (2, .ref (ad (20 + z44) (10 + 10 * z45))), (0, .ref (ad (20 + n) (10 + 10 * k)))] := hl
            refine lv_goto (tgt := 2) hx hb xd_Me_takeFirstSteps_110 (by decide) ?_
            exact ih1 (i + 1, E179, (va_up fr1 i (some (ad (20 + z44) (10 + 10 * z45)))), ga1, gb1) _ _ _ (show rs - (i + 1) < rs - i by omega) (lv_sub hl [0, 2] rfl) hP hD hS ⟨(show (i + 1) ≤ rs from by first | assumption | omega), (show E179 (20 + n) (11 + 10 * k) = .inl (kA 6, rs, .inr (.inr (.inr (.inr (va_up fr1 i (some (ad (20 + z44) (10 + 10 * z45)))))))) from c_182), (show E179 (20 + n) (15 + 10 * k) = .inl (kA 0, 6, .inl ga1) from c_183), (show E179 (20 + n) (16 + 10 * k) = .inl (kA 0, 6, .inl gb1) from c_184), (show ∀ b2 o2, ¬ (b2 = 20 + n ∧ o2 = 11 + 10 * k) → ¬ (b2 = 20 + n ∧ o2 = 15 + 10 * k) → ¬ (b2 = 20 + n ∧ o2 = 16 + 10 * k) → E179 b2 o2 = E b2 o2 from fun b2 o2 h09 h19 h29 => by rw [fE181 b2 o2 (by omega), hfr b2 o2 (by omega) (by omega) (by omega)]), (show RQ kA ad E179 RL nd n (i + 1) (va_up fr1 i (some (ad (20 + z44) (10 + 10 * z45)))) from RQ_RU (RU3 (b := 20 + n) (by omega) hcA1 hcA5 hcA6 c_182 c_183 c_184 (fun b2 o2 h19 h29 h39 => by rw [fE181 b2 o2 (by omega)])) (RQ_add hRQ (by omega) z47))⟩
          · refine lv_aload_n hx hb xd_Me_takeFirstSteps_77 rfl (lv_at hl 2 rfl) ?_
            refine px_get (D := D) (ci := 6) (v := .ref (ad (20 + n) (13 + 10 * k))) (C := xR_Me) (T := xT_Me) (N := 6) hx hb hT xi_Me hown hK.1 hP ym0 c_185 rfl 4 (by decide) (hT _ ys3_16) (fun _ h9 => h9) rfl xd_Me_takeFirstSteps_78 ?_
            refine lv_aload_n hx hb xd_Me_takeFirstSteps_81 rfl (lv_at hl 0 rfl) ?_
            have hFc := px_free hD hS hA
            refine va_callv (va_runV (As := [.ref (ad (20 + z44) (10 + 10 * z45))]) (rest := []) ⟨hx, hb, hml, hown, hT⟩ (xc_Re_mark l D kA H.size ad E179 RL (20 + n) (13 + 10 * k) (16 + 10 * k) gb1 z44 z45 d_130 pv_147 op_147 fd_152 nm_152 sd_152 ym3 c_187 ym5 c_184 m_132 c_192 m_149 c_195 m_154 c_196 (by first | assumption | omega) (by first | assumption | omega) (by first | assumption | omega)) (cwV 1 hT (wT_V ys3_18 ys3_19 ys3_20 ys3_21 ys3_17) rfl rfl rfl (by decide +kernel) ⟨Nat.le_of_ble_eq_true rfl, Nat.le_of_ble_eq_true rfl⟩) (px_preV hK hP hD ym3 c_187 rfl) rfl rfl hl.1 rfl (lv_room (Nat.le_of_ble_eq_true rfl)) xd_Me_takeFirstSteps_82 ⟨(Nat.le_of_ble_eq_true rfl), (Nat.le_of_ble_eq_true rfl)⟩) hS (fun q _ h => hFc q h) hFc (fun u200 t H1 locs ht hvm hp201 hB hz1 hk1 hS => ?_)
            obtain ⟨hP1, hD1⟩ := hB
            rw [ht] at hP1
            have hD1 := hD1.weaken (fun _ _ _ h => hFc _ h)
            generalize H1 = H at hP1 hS ⊢
            have hP := hP1
            have hD := hD1
            obtain ⟨E202, rfl⟩ : ∃ z, z = u200 := ⟨_, rfl⟩
            obtain ⟨w203, hp206, p_204, p_205⟩ := hp201
            have p_204 : E202 (20 + n) (16 + 10 * k) = .inl (kA 0, 6, .inl w203) := p_204
            have p_205 : (∀ b2 o2, ¬ (b2 = (20 + n) ∧ o2 = (16 + 10 * k)) → E202 b2 o2 = E179 b2 o2) := p_205
            have c_207 : E202 (20 + n) (11 + 10 * k) = .inl (kA 6, rs, .inr (.inr (.inr (.inr (va_up fr1 i (some (ad (20 + z44) (10 + 10 * z45)))))))) := (p_205 (20 + n) (11 + 10 * k) (by omega)).trans c_182
            have c_208 : E202 (20 + n) (15 + 10 * k) = .inl (kA 0, 6, .inl ga1) := (p_205 (20 + n) (15 + 10 * k) (by omega)).trans c_183
            have c_209 : E202 (20 + n) (10 + 10 * k) = .inr (6, [.ref (ad (20 + n) 0), .ref (ad (1 + d) 0), .ref (ad (20 + n) (11 + 10 * k)), .ref (ad (20 + n) (12 + 10 * k)), .ref (ad (20 + n) (13 + 10 * k)), .ref (ad (20 + n) (14 + 10 * k))]) := (p_205 (20 + n) (10 + 10 * k) (by omega)).trans c_185
            have c_210 : E202 (20 + n) (12 + 10 * k) = .inr (10, [.ref (ad (20 + n) (15 + 10 * k))]) := (p_205 (20 + n) (12 + 10 * k) (by omega)).trans c_186
            have c_211 : E202 (20 + n) (13 + 10 * k) = .inr (10, [.ref (ad (20 + n) (16 + 10 * k))]) := (p_205 (20 + n) (13 + 10 * k) (by omega)).trans c_187
            have c_212 : E202 (1 + d) 0 = .inr (7, [.int (nI d), .int fd_6, .int nm_6, .ref (ad (1 + d) 1), .ref (ad (1 + d) 9), .ref (ad (1 + d) 10), .ref (ad (1 + d) 2), .ref (ad (1 + d) 11), .ref (ad (1 + d) 12), .ref (ad (1 + d) 3), .ref (ad (1 + d) 4), .int sd_6]) := (p_205 (1 + d) 0 (by omega)).trans c_188
            have c_213 : E202 (1 + d) 11 = .inl (kA 2, 5, .inl tr_6) := (p_205 (1 + d) 11 (by omega)).trans c_189
            have c_214 : E202 (1 + d) 12 = .inl (kA 2, 5, .inl op_6) := (p_205 (1 + d) 12 (by omega)).trans c_190
            have c_215 : E202 (20 + n) 0 = .inr (5, [.int (nI n), pv_36, .ref (ad (20 + n) 1), .int op_36]) := (p_205 (20 + n) 0 (by omega)).trans c_191
            have c_216 : E202 (20 + z44) (10 + 10 * z45) = .inr (6, [.ref (ad (20 + z44) 0), .ref (ad (1 + d_130) 0), .ref (ad (20 + z44) (11 + 10 * z45)), .ref (ad (20 + z44) (12 + 10 * z45)), .ref (ad (20 + z44) (13 + 10 * z45)), .ref (ad (20 + z44) (14 + 10 * z45))]) := (p_205 (20 + z44) (10 + 10 * z45) (by omega)).trans c_192
            have c_217 : E202 (20 + z44) (13 + 10 * z45) = .inr (10, [.ref (ad (20 + z44) (16 + 10 * z45))]) := (p_205 (20 + z44) (13 + 10 * z45) (by omega)).trans c_193
            have c_218 : E202 (20 + z44) (16 + 10 * z45) = .inl (kA 0, 6, .inl g3_130) := (p_205 (20 + z44) (16 + 10 * z45) (by omega)).trans c_194
            have c_219 : E202 (20 + z44) 0 = .inr (5, [.int (nI z44), pv_147, .ref (ad (20 + z44) 1), .int op_147]) := (p_205 (20 + z44) 0 (by omega)).trans c_195
            have c_220 : E202 (1 + d_130) 0 = .inr (7, [.int (nI d_130), .int fd_152, .int nm_152, .ref (ad (1 + d_130) 1), .ref (ad (1 + d_130) 9), .ref (ad (1 + d_130) 10), .ref (ad (1 + d_130) 2), .ref (ad (1 + d_130) 11), .ref (ad (1 + d_130) 12), .ref (ad (1 + d_130) 3), .ref (ad (1 + d_130) 4), .int sd_152]) := (p_205 (1 + d_130) 0 (by omega)).trans c_196
            have hP : va_P D xcl (rp ad E202 RL) H := hP
            have hD : va_D A (rp ad E202 RL) := hD
            refine lv_aload_n hx hb xd_Me_takeFirstSteps_85 rfl (lv_at hl 0 rfl) ?_
            refine px_get (D := D) (ci := 6) (v := .ref (ad (20 + z44) 0)) (C := xR_Me) (T := xT_Me) (N := 6) hx hb hT xi_Me hown hK.1 hP m_132 c_216 rfl 0 (by decide) (hT _ ys3_1) (fun _ h9 => h9) rfl xd_Me_takeFirstSteps_86 ?_
            refine lv_aload_n hx hb xd_Me_takeFirstSteps_89 rfl (lv_at hl 2 rfl) ?_
            refine px_get (D := D) (ci := 6) (v := .ref (ad (20 + n) 0)) (C := xR_Me) (T := xT_Me) (N := 6) hx hb hT xi_Me hown hK.1 hP ym0 c_209 rfl 0 (by decide) (hT _ ys3_1) (fun _ h9 => h9) rfl xd_Me_takeFirstSteps_90 ?_
            refine lv_acmp_eq (rx := (some (ad (20 + z44) 0))) (ry := (some (ad (20 + n) 0))) (tgt := 107) hx hb xd_Me_takeFirstSteps_93 (by decide) (fun hc221 => ?_) (fun hc221 => ?_)
            · refine lv_iinc (k := 1) (x := (nI i)) (v := (nI (i + 1))) hx hb xd_Me_takeFirstSteps_107 hl rfl (xb_inc i 1) (Nat.le_of_ble_eq_true rfl) rfl (fun ls hl => ?_)
              have hl : lv_has ls 3 [(1, .int (nI (i + 1))), (2, .ref (ad (20 + z44) (10 + 10 * z45))), (0, .ref (ad (20 + n) (10 + 10 * k)))] := hl
              refine lv_goto (tgt := 2) hx hb xd_Me_takeFirstSteps_110 (by decide) ?_
              exact ih1 (i + 1, E202, (va_up fr1 i (some (ad (20 + z44) (10 + 10 * z45)))), ga1, w203) _ _ _ (show rs - (i + 1) < rs - i by omega) (lv_sub hl [0, 2] rfl) hP hD hS ⟨(show (i + 1) ≤ rs from by first | assumption | omega), (show E202 (20 + n) (11 + 10 * k) = .inl (kA 6, rs, .inr (.inr (.inr (.inr (va_up fr1 i (some (ad (20 + z44) (10 + 10 * z45)))))))) from c_207), (show E202 (20 + n) (15 + 10 * k) = .inl (kA 0, 6, .inl ga1) from c_208), (show E202 (20 + n) (16 + 10 * k) = .inl (kA 0, 6, .inl w203) from p_204), (show ∀ b2 o2, ¬ (b2 = 20 + n ∧ o2 = 11 + 10 * k) → ¬ (b2 = 20 + n ∧ o2 = 15 + 10 * k) → ¬ (b2 = 20 + n ∧ o2 = 16 + 10 * k) → E202 b2 o2 = E b2 o2 from fun b2 o2 h09 h19 h29 => by rw [p_205 b2 o2 (by omega), fE181 b2 o2 (by omega), hfr b2 o2 (by omega) (by omega) (by omega)]), (show RQ kA ad E202 RL nd n (i + 1) (va_up fr1 i (some (ad (20 + z44) (10 + 10 * z45)))) from RQ_RU (RU3 (b := 20 + n) (by omega) hcA1 hcA5 hcA6 c_207 c_208 p_204 (fun b2 o2 h19 h29 h39 => by rw [p_205 b2 o2 (by omega), fE181 b2 o2 (by omega)])) (RQ_add hRQ (by omega) z47))⟩
            · have hxn : ¬ z44 = n := fun e9 => hc221 (by rw [e9])
              refine lv_aload_n hx hb xd_Me_takeFirstSteps_96 rfl (lv_at hl 2 rfl) ?_
              refine px_get (D := D) (ci := 6) (v := .ref (ad (20 + n) (13 + 10 * k))) (C := xR_Me) (T := xT_Me) (N := 6) hx hb hT xi_Me hown hK.1 hP ym0 c_209 rfl 4 (by decide) (hT _ ys3_16) (fun _ h9 => h9) rfl xd_Me_takeFirstSteps_97 ?_
              refine lv_aload_n hx hb xd_Me_takeFirstSteps_100 rfl (lv_at hl 0 rfl) ?_
              refine px_get (D := D) (ci := 6) (v := .ref (ad (20 + z44) (13 + 10 * z45))) (C := xR_Me) (T := xT_Me) (N := 6) hx hb hT xi_Me hown hK.1 hP m_132 c_216 rfl 4 (by decide) (hT _ ys3_16) (fun _ h9 => h9) rfl xd_Me_takeFirstSteps_101 ?_
              have hFc := px_free hD hS hA
              refine va_callv (va_runV (As := [.ref (ad (20 + z44) (13 + 10 * z45))]) (rest := []) ⟨hx, hb, hml, hown, hT⟩ (xc_Re_join l D kA H.size ad E202 RL (20 + n) (13 + 10 * k) (16 + 10 * k) w203 (20 + z44) (13 + 10 * z45) (16 + 10 * z45) g3_130 ym3 c_211 ym5 p_204 m_138 c_217 m_144 c_218 (by first | assumption | omega) (by first | assumption | omega)) (cwV 1 hT (wT_V ys3_24 ys3_25 ys3_26 ys3_21 ys3_23) rfl rfl rfl (by decide +kernel) ⟨Nat.le_of_ble_eq_true rfl, Nat.le_of_ble_eq_true rfl⟩) (px_preV hK hP hD ym3 c_211 rfl) rfl rfl hl.1 rfl (lv_room (Nat.le_of_ble_eq_true rfl)) xd_Me_takeFirstSteps_104 ⟨(Nat.le_of_ble_eq_true rfl), (Nat.le_of_ble_eq_true rfl)⟩) hS (fun q _ h => hFc q h) hFc (fun u223 t H1 locs ht hvm hp224 hB hz1 hk1 hS => ?_)
              obtain ⟨hP1, hD1⟩ := hB
              rw [ht] at hP1
              have hD1 := hD1.weaken (fun _ _ _ h => hFc _ h)
              generalize H1 = H at hP1 hS ⊢
              have hP := hP1
              have hD := hD1
              obtain ⟨E225, rfl⟩ : ∃ z, z = u223 := ⟨_, rfl⟩
              obtain ⟨w226, hp229, p_227, p_228⟩ := hp224
              have p_227 : E225 (20 + n) (16 + 10 * k) = .inl (kA 0, 6, .inl w226) := p_227
              have p_228 : (∀ b2 o2, ¬ (b2 = (20 + n) ∧ o2 = (16 + 10 * k)) → E225 b2 o2 = E202 b2 o2) := p_228
              have c_230 : E225 (20 + n) (11 + 10 * k) = .inl (kA 6, rs, .inr (.inr (.inr (.inr (va_up fr1 i (some (ad (20 + z44) (10 + 10 * z45)))))))) := (p_228 (20 + n) (11 + 10 * k) (by omega)).trans c_207
              have c_231 : E225 (20 + n) (15 + 10 * k) = .inl (kA 0, 6, .inl ga1) := (p_228 (20 + n) (15 + 10 * k) (by omega)).trans c_208
              have c_232 : E225 (20 + n) (10 + 10 * k) = .inr (6, [.ref (ad (20 + n) 0), .ref (ad (1 + d) 0), .ref (ad (20 + n) (11 + 10 * k)), .ref (ad (20 + n) (12 + 10 * k)), .ref (ad (20 + n) (13 + 10 * k)), .ref (ad (20 + n) (14 + 10 * k))]) := (p_228 (20 + n) (10 + 10 * k) (by omega)).trans c_209
              have c_233 : E225 (20 + n) (12 + 10 * k) = .inr (10, [.ref (ad (20 + n) (15 + 10 * k))]) := (p_228 (20 + n) (12 + 10 * k) (by omega)).trans c_210
              have c_234 : E225 (20 + n) (13 + 10 * k) = .inr (10, [.ref (ad (20 + n) (16 + 10 * k))]) := (p_228 (20 + n) (13 + 10 * k) (by omega)).trans c_211
              have c_235 : E225 (1 + d) 0 = .inr (7, [.int (nI d), .int fd_6, .int nm_6, .ref (ad (1 + d) 1), .ref (ad (1 + d) 9), .ref (ad (1 + d) 10), .ref (ad (1 + d) 2), .ref (ad (1 + d) 11), .ref (ad (1 + d) 12), .ref (ad (1 + d) 3), .ref (ad (1 + d) 4), .int sd_6]) := (p_228 (1 + d) 0 (by omega)).trans c_212
              have c_236 : E225 (1 + d) 11 = .inl (kA 2, 5, .inl tr_6) := (p_228 (1 + d) 11 (by omega)).trans c_213
              have c_237 : E225 (1 + d) 12 = .inl (kA 2, 5, .inl op_6) := (p_228 (1 + d) 12 (by omega)).trans c_214
              have c_238 : E225 (20 + n) 0 = .inr (5, [.int (nI n), pv_36, .ref (ad (20 + n) 1), .int op_36]) := (p_228 (20 + n) 0 (by omega)).trans c_215
              have c_239 : E225 (20 + z44) (10 + 10 * z45) = .inr (6, [.ref (ad (20 + z44) 0), .ref (ad (1 + d_130) 0), .ref (ad (20 + z44) (11 + 10 * z45)), .ref (ad (20 + z44) (12 + 10 * z45)), .ref (ad (20 + z44) (13 + 10 * z45)), .ref (ad (20 + z44) (14 + 10 * z45))]) := (p_228 (20 + z44) (10 + 10 * z45) (by omega)).trans c_216
              have c_240 : E225 (20 + z44) (13 + 10 * z45) = .inr (10, [.ref (ad (20 + z44) (16 + 10 * z45))]) := (p_228 (20 + z44) (13 + 10 * z45) (by omega)).trans c_217
              have c_241 : E225 (20 + z44) (16 + 10 * z45) = .inl (kA 0, 6, .inl g3_130) := (p_228 (20 + z44) (16 + 10 * z45) (by omega)).trans c_218
              have c_242 : E225 (20 + z44) 0 = .inr (5, [.int (nI z44), pv_147, .ref (ad (20 + z44) 1), .int op_147]) := (p_228 (20 + z44) 0 (by omega)).trans c_219
              have c_243 : E225 (1 + d_130) 0 = .inr (7, [.int (nI d_130), .int fd_152, .int nm_152, .ref (ad (1 + d_130) 1), .ref (ad (1 + d_130) 9), .ref (ad (1 + d_130) 10), .ref (ad (1 + d_130) 2), .ref (ad (1 + d_130) 11), .ref (ad (1 + d_130) 12), .ref (ad (1 + d_130) 3), .ref (ad (1 + d_130) 4), .int sd_152]) := (p_228 (1 + d_130) 0 (by omega)).trans c_220
              have hP : va_P D xcl (rp ad E225 RL) H := hP
              have hD : va_D A (rp ad E225 RL) := hD
              refine lv_iinc (k := 1) (x := (nI i)) (v := (nI (i + 1))) hx hb xd_Me_takeFirstSteps_107 hl rfl (xb_inc i 1) (Nat.le_of_ble_eq_true rfl) rfl (fun ls hl => ?_)
              have hl : lv_has ls 3 [(1, .int (nI (i + 1))), (2, .ref (ad (20 + z44) (10 + 10 * z45))), (0, .ref (ad (20 + n) (10 + 10 * k)))] := hl
              refine lv_goto (tgt := 2) hx hb xd_Me_takeFirstSteps_110 (by decide) ?_
              exact ih1 (i + 1, E225, (va_up fr1 i (some (ad (20 + z44) (10 + 10 * z45)))), ga1, w226) _ _ _ (show rs - (i + 1) < rs - i by omega) (lv_sub hl [0, 2] rfl) hP hD hS ⟨(show (i + 1) ≤ rs from by first | assumption | omega), (show E225 (20 + n) (11 + 10 * k) = .inl (kA 6, rs, .inr (.inr (.inr (.inr (va_up fr1 i (some (ad (20 + z44) (10 + 10 * z45)))))))) from c_230), (show E225 (20 + n) (15 + 10 * k) = .inl (kA 0, 6, .inl ga1) from c_231), (show E225 (20 + n) (16 + 10 * k) = .inl (kA 0, 6, .inl w226) from p_227), (show ∀ b2 o2, ¬ (b2 = 20 + n ∧ o2 = 11 + 10 * k) → ¬ (b2 = 20 + n ∧ o2 = 15 + 10 * k) → ¬ (b2 = 20 + n ∧ o2 = 16 + 10 * k) → E225 b2 o2 = E b2 o2 from fun b2 o2 h09 h19 h29 => by rw [p_228 b2 o2 (by omega), p_205 b2 o2 (by omega), fE181 b2 o2 (by omega), hfr b2 o2 (by omega) (by omega) (by omega)]), (show RQ kA ad E225 RL nd n (i + 1) (va_up fr1 i (some (ad (20 + z44) (10 + 10 * z45)))) from RQ_RU (RU3 (b := 20 + n) (by omega) hcA1 hcA5 hcA6 c_230 c_231 p_227 (fun b2 o2 h19 h29 h39 => by rw [p_228 b2 o2 (by omega), p_205 b2 o2 (by omega), fE181 b2 o2 (by omega)])) (RQ_add hRQ (by omega) z47))⟩
        · refine lv_aload_n hx hb xd_Me_takeFirstSteps_53 rfl (lv_at hl 2 rfl) ?_
          refine px_get (D := D) (ci := 6) (v := .ref (ad (20 + n) (12 + 10 * k))) (C := xR_Me) (T := xT_Me) (N := 6) hx hb hT xi_Me hown hK.1 hP ym0 c_185 rfl 3 (by decide) (hT _ ys3_22) (fun _ h9 => h9) rfl xd_Me_takeFirstSteps_54 ?_
          refine lv_aload_n hx hb xd_Me_takeFirstSteps_57 rfl (lv_at hl 0 rfl) ?_
          have hFc := px_free hD hS hA
          refine va_callv (va_runV (As := [.ref (ad (20 + z44) (10 + 10 * z45))]) (rest := []) ⟨hx, hb, hml, hown, hT⟩ (xc_Re_mark l D kA H.size ad E179 RL (20 + n) (12 + 10 * k) (15 + 10 * k) ga1 z44 z45 d_130 pv_147 op_147 fd_152 nm_152 sd_152 ym2 c_186 ym4 c_183 m_132 c_192 m_149 c_195 m_154 c_196 (by first | assumption | omega) (by first | assumption | omega) (by first | assumption | omega)) (cwV 1 hT (wT_V ys3_18 ys3_19 ys3_20 ys3_21 ys3_17) rfl rfl rfl (by decide +kernel) ⟨Nat.le_of_ble_eq_true rfl, Nat.le_of_ble_eq_true rfl⟩) (px_preV hK hP hD ym2 c_186 rfl) rfl rfl hl.1 rfl (lv_room (Nat.le_of_ble_eq_true rfl)) xd_Me_takeFirstSteps_58 ⟨(Nat.le_of_ble_eq_true rfl), (Nat.le_of_ble_eq_true rfl)⟩) hS (fun q _ h => hFc q h) hFc (fun u245 t H1 locs ht hvm hp246 hB hz1 hk1 hS => ?_)
          obtain ⟨hP1, hD1⟩ := hB
          rw [ht] at hP1
          have hD1 := hD1.weaken (fun _ _ _ h => hFc _ h)
          generalize H1 = H at hP1 hS ⊢
          have hP := hP1
          have hD := hD1
          obtain ⟨E247, rfl⟩ : ∃ z, z = u245 := ⟨_, rfl⟩
          obtain ⟨w248, hp251, p_249, p_250⟩ := hp246
          have p_249 : E247 (20 + n) (15 + 10 * k) = .inl (kA 0, 6, .inl w248) := p_249
          have p_250 : (∀ b2 o2, ¬ (b2 = (20 + n) ∧ o2 = (15 + 10 * k)) → E247 b2 o2 = E179 b2 o2) := p_250
          have c_252 : E247 (20 + n) (11 + 10 * k) = .inl (kA 6, rs, .inr (.inr (.inr (.inr (va_up fr1 i (some (ad (20 + z44) (10 + 10 * z45)))))))) := (p_250 (20 + n) (11 + 10 * k) (by omega)).trans c_182
          have c_253 : E247 (20 + n) (16 + 10 * k) = .inl (kA 0, 6, .inl gb1) := (p_250 (20 + n) (16 + 10 * k) (by omega)).trans c_184
          have c_254 : E247 (20 + n) (10 + 10 * k) = .inr (6, [.ref (ad (20 + n) 0), .ref (ad (1 + d) 0), .ref (ad (20 + n) (11 + 10 * k)), .ref (ad (20 + n) (12 + 10 * k)), .ref (ad (20 + n) (13 + 10 * k)), .ref (ad (20 + n) (14 + 10 * k))]) := (p_250 (20 + n) (10 + 10 * k) (by omega)).trans c_185
          have c_255 : E247 (20 + n) (12 + 10 * k) = .inr (10, [.ref (ad (20 + n) (15 + 10 * k))]) := (p_250 (20 + n) (12 + 10 * k) (by omega)).trans c_186
          have c_256 : E247 (20 + n) (13 + 10 * k) = .inr (10, [.ref (ad (20 + n) (16 + 10 * k))]) := (p_250 (20 + n) (13 + 10 * k) (by omega)).trans c_187
          have c_257 : E247 (1 + d) 0 = .inr (7, [.int (nI d), .int fd_6, .int nm_6, .ref (ad (1 + d) 1), .ref (ad (1 + d) 9), .ref (ad (1 + d) 10), .ref (ad (1 + d) 2), .ref (ad (1 + d) 11), .ref (ad (1 + d) 12), .ref (ad (1 + d) 3), .ref (ad (1 + d) 4), .int sd_6]) := (p_250 (1 + d) 0 (by omega)).trans c_188
          have c_258 : E247 (1 + d) 11 = .inl (kA 2, 5, .inl tr_6) := (p_250 (1 + d) 11 (by omega)).trans c_189
          have c_259 : E247 (1 + d) 12 = .inl (kA 2, 5, .inl op_6) := (p_250 (1 + d) 12 (by omega)).trans c_190
          have c_260 : E247 (20 + n) 0 = .inr (5, [.int (nI n), pv_36, .ref (ad (20 + n) 1), .int op_36]) := (p_250 (20 + n) 0 (by omega)).trans c_191
          have c_261 : E247 (20 + z44) (10 + 10 * z45) = .inr (6, [.ref (ad (20 + z44) 0), .ref (ad (1 + d_130) 0), .ref (ad (20 + z44) (11 + 10 * z45)), .ref (ad (20 + z44) (12 + 10 * z45)), .ref (ad (20 + z44) (13 + 10 * z45)), .ref (ad (20 + z44) (14 + 10 * z45))]) := (p_250 (20 + z44) (10 + 10 * z45) (by omega)).trans c_192
          have c_262 : E247 (20 + z44) (13 + 10 * z45) = .inr (10, [.ref (ad (20 + z44) (16 + 10 * z45))]) := (p_250 (20 + z44) (13 + 10 * z45) (by omega)).trans c_193
          have c_263 : E247 (20 + z44) (16 + 10 * z45) = .inl (kA 0, 6, .inl g3_130) := (p_250 (20 + z44) (16 + 10 * z45) (by omega)).trans c_194
          have c_264 : E247 (20 + z44) 0 = .inr (5, [.int (nI z44), pv_147, .ref (ad (20 + z44) 1), .int op_147]) := (p_250 (20 + z44) 0 (by omega)).trans c_195
          have c_265 : E247 (1 + d_130) 0 = .inr (7, [.int (nI d_130), .int fd_152, .int nm_152, .ref (ad (1 + d_130) 1), .ref (ad (1 + d_130) 9), .ref (ad (1 + d_130) 10), .ref (ad (1 + d_130) 2), .ref (ad (1 + d_130) 11), .ref (ad (1 + d_130) 12), .ref (ad (1 + d_130) 3), .ref (ad (1 + d_130) 4), .int sd_152]) := (p_250 (1 + d_130) 0 (by omega)).trans c_196
          have hP : va_P D xcl (rp ad E247 RL) H := hP
          have hD : va_D A (rp ad E247 RL) := hD
          refine lv_aload_n hx hb xd_Me_takeFirstSteps_61 rfl (lv_at hl 0 rfl) ?_
          refine lv_ifnull hx hb xd_Me_takeFirstSteps_62 ?_
          refine lv_aload_n hx hb xd_Me_takeFirstSteps_65 rfl (lv_at hl 2 rfl) ?_
          refine px_get (D := D) (ci := 6) (v := .ref (ad (1 + d) 0)) (C := xR_Me) (T := xT_Me) (N := 6) hx hb hT xi_Me hown hK.1 hP ym0 c_254 rfl 1 (by decide) (hT _ ys3_2) (fun _ h9 => h9) rfl xd_Me_takeFirstSteps_66 ?_
          refine px_get (D := D) (ci := 7) (v := .ref (ad (1 + d) 11)) (C := xR_Ds) (T := xT_Ds) (N := 12) hx hb hT xi_Ds hown hK.1 hP m_8 c_257 rfl 7 (by decide) (hT _ ys3_15) (fun _ h9 => h9) rfl xd_Me_takeFirstSteps_69 ?_
          refine lv_iload_n hx hb xd_Me_takeFirstSteps_72 rfl (lv_at hl 1 rfl) ?_
          refine px_zald (i := i) hx hb hK.1 hP m_30 c_258 2 rfl (by omega) (by decide) xd_Me_takeFirstSteps_73 ?_
          refine lv_if_eq (tgt := 107) hx hb xd_Me_takeFirstSteps_74 (by decide) (fun hc266 => ?_) (fun hc266 => ?_)
          · refine lv_iinc (k := 1) (x := (nI i)) (v := (nI (i + 1))) hx hb xd_Me_takeFirstSteps_107 hl rfl (xb_inc i 1) (Nat.le_of_ble_eq_true rfl) rfl (fun ls hl => ?_)
            have hl : lv_has ls 3 [(1, .int (nI (i + 1))), (2, .ref (ad (20 + z44) (10 + 10 * z45))), (0, .ref (ad (20 + n) (10 + 10 * k)))] := hl
            refine lv_goto (tgt := 2) hx hb xd_Me_takeFirstSteps_110 (by decide) ?_
            exact ih1 (i + 1, E247, (va_up fr1 i (some (ad (20 + z44) (10 + 10 * z45)))), w248, gb1) _ _ _ (show rs - (i + 1) < rs - i by omega) (lv_sub hl [0, 2] rfl) hP hD hS ⟨(show (i + 1) ≤ rs from by first | assumption | omega), (show E247 (20 + n) (11 + 10 * k) = .inl (kA 6, rs, .inr (.inr (.inr (.inr (va_up fr1 i (some (ad (20 + z44) (10 + 10 * z45)))))))) from c_252), (show E247 (20 + n) (15 + 10 * k) = .inl (kA 0, 6, .inl w248) from p_249), (show E247 (20 + n) (16 + 10 * k) = .inl (kA 0, 6, .inl gb1) from c_253), (show ∀ b2 o2, ¬ (b2 = 20 + n ∧ o2 = 11 + 10 * k) → ¬ (b2 = 20 + n ∧ o2 = 15 + 10 * k) → ¬ (b2 = 20 + n ∧ o2 = 16 + 10 * k) → E247 b2 o2 = E b2 o2 from fun b2 o2 h09 h19 h29 => by rw [p_250 b2 o2 (by omega), fE181 b2 o2 (by omega), hfr b2 o2 (by omega) (by omega) (by omega)]), (show RQ kA ad E247 RL nd n (i + 1) (va_up fr1 i (some (ad (20 + z44) (10 + 10 * z45)))) from RQ_RU (RU3 (b := 20 + n) (by omega) hcA1 hcA5 hcA6 c_252 p_249 c_253 (fun b2 o2 h19 h29 h39 => by rw [p_250 b2 o2 (by omega), fE181 b2 o2 (by omega)])) (RQ_add hRQ (by omega) z47))⟩
          · refine lv_aload_n hx hb xd_Me_takeFirstSteps_77 rfl (lv_at hl 2 rfl) ?_
            refine px_get (D := D) (ci := 6) (v := .ref (ad (20 + n) (13 + 10 * k))) (C := xR_Me) (T := xT_Me) (N := 6) hx hb hT xi_Me hown hK.1 hP ym0 c_254 rfl 4 (by decide) (hT _ ys3_16) (fun _ h9 => h9) rfl xd_Me_takeFirstSteps_78 ?_
            refine lv_aload_n hx hb xd_Me_takeFirstSteps_81 rfl (lv_at hl 0 rfl) ?_
            have hFc := px_free hD hS hA
            refine va_callv (va_runV (As := [.ref (ad (20 + z44) (10 + 10 * z45))]) (rest := []) ⟨hx, hb, hml, hown, hT⟩ (xc_Re_mark l D kA H.size ad E247 RL (20 + n) (13 + 10 * k) (16 + 10 * k) gb1 z44 z45 d_130 pv_147 op_147 fd_152 nm_152 sd_152 ym3 c_256 ym5 c_253 m_132 c_261 m_149 c_264 m_154 c_265 (by first | assumption | omega) (by first | assumption | omega) (by first | assumption | omega)) (cwV 1 hT (wT_V ys3_18 ys3_19 ys3_20 ys3_21 ys3_17) rfl rfl rfl (by decide +kernel) ⟨Nat.le_of_ble_eq_true rfl, Nat.le_of_ble_eq_true rfl⟩) (px_preV hK hP hD ym3 c_256 rfl) rfl rfl hl.1 rfl (lv_room (Nat.le_of_ble_eq_true rfl)) xd_Me_takeFirstSteps_82 ⟨(Nat.le_of_ble_eq_true rfl), (Nat.le_of_ble_eq_true rfl)⟩) hS (fun q _ h => hFc q h) hFc (fun u268 t H1 locs ht hvm hp269 hB hz1 hk1 hS => ?_)
            obtain ⟨hP1, hD1⟩ := hB
            rw [ht] at hP1
            have hD1 := hD1.weaken (fun _ _ _ h => hFc _ h)
            generalize H1 = H at hP1 hS ⊢
            have hP := hP1
            have hD := hD1
            obtain ⟨E270, rfl⟩ : ∃ z, z = u268 := ⟨_, rfl⟩
            obtain ⟨w271, hp274, p_272, p_273⟩ := hp269
            have p_272 : E270 (20 + n) (16 + 10 * k) = .inl (kA 0, 6, .inl w271) := p_272
            have p_273 : (∀ b2 o2, ¬ (b2 = (20 + n) ∧ o2 = (16 + 10 * k)) → E270 b2 o2 = E247 b2 o2) := p_273
            have c_275 : E270 (20 + n) (15 + 10 * k) = .inl (kA 0, 6, .inl w248) := (p_273 (20 + n) (15 + 10 * k) (by omega)).trans p_249
            have c_276 : E270 (20 + n) (11 + 10 * k) = .inl (kA 6, rs, .inr (.inr (.inr (.inr (va_up fr1 i (some (ad (20 + z44) (10 + 10 * z45)))))))) := (p_273 (20 + n) (11 + 10 * k) (by omega)).trans c_252
            have c_277 : E270 (20 + n) (10 + 10 * k) = .inr (6, [.ref (ad (20 + n) 0), .ref (ad (1 + d) 0), .ref (ad (20 + n) (11 + 10 * k)), .ref (ad (20 + n) (12 + 10 * k)), .ref (ad (20 + n) (13 + 10 * k)), .ref (ad (20 + n) (14 + 10 * k))]) := (p_273 (20 + n) (10 + 10 * k) (by omega)).trans c_254
            have c_278 : E270 (20 + n) (12 + 10 * k) = .inr (10, [.ref (ad (20 + n) (15 + 10 * k))]) := (p_273 (20 + n) (12 + 10 * k) (by omega)).trans c_255
            have c_279 : E270 (20 + n) (13 + 10 * k) = .inr (10, [.ref (ad (20 + n) (16 + 10 * k))]) := (p_273 (20 + n) (13 + 10 * k) (by omega)).trans c_256
            have c_280 : E270 (1 + d) 0 = .inr (7, [.int (nI d), .int fd_6, .int nm_6, .ref (ad (1 + d) 1), .ref (ad (1 + d) 9), .ref (ad (1 + d) 10), .ref (ad (1 + d) 2), .ref (ad (1 + d) 11), .ref (ad (1 + d) 12), .ref (ad (1 + d) 3), .ref (ad (1 + d) 4), .int sd_6]) := (p_273 (1 + d) 0 (by omega)).trans c_257
            have c_281 : E270 (1 + d) 11 = .inl (kA 2, 5, .inl tr_6) := (p_273 (1 + d) 11 (by omega)).trans c_258
            have c_282 : E270 (1 + d) 12 = .inl (kA 2, 5, .inl op_6) := (p_273 (1 + d) 12 (by omega)).trans c_259
            have c_283 : E270 (20 + n) 0 = .inr (5, [.int (nI n), pv_36, .ref (ad (20 + n) 1), .int op_36]) := (p_273 (20 + n) 0 (by omega)).trans c_260
            have c_284 : E270 (20 + z44) (10 + 10 * z45) = .inr (6, [.ref (ad (20 + z44) 0), .ref (ad (1 + d_130) 0), .ref (ad (20 + z44) (11 + 10 * z45)), .ref (ad (20 + z44) (12 + 10 * z45)), .ref (ad (20 + z44) (13 + 10 * z45)), .ref (ad (20 + z44) (14 + 10 * z45))]) := (p_273 (20 + z44) (10 + 10 * z45) (by omega)).trans c_261
            have c_285 : E270 (20 + z44) (13 + 10 * z45) = .inr (10, [.ref (ad (20 + z44) (16 + 10 * z45))]) := (p_273 (20 + z44) (13 + 10 * z45) (by omega)).trans c_262
            have c_286 : E270 (20 + z44) (16 + 10 * z45) = .inl (kA 0, 6, .inl g3_130) := (p_273 (20 + z44) (16 + 10 * z45) (by omega)).trans c_263
            have c_287 : E270 (20 + z44) 0 = .inr (5, [.int (nI z44), pv_147, .ref (ad (20 + z44) 1), .int op_147]) := (p_273 (20 + z44) 0 (by omega)).trans c_264
            have c_288 : E270 (1 + d_130) 0 = .inr (7, [.int (nI d_130), .int fd_152, .int nm_152, .ref (ad (1 + d_130) 1), .ref (ad (1 + d_130) 9), .ref (ad (1 + d_130) 10), .ref (ad (1 + d_130) 2), .ref (ad (1 + d_130) 11), .ref (ad (1 + d_130) 12), .ref (ad (1 + d_130) 3), .ref (ad (1 + d_130) 4), .int sd_152]) := (p_273 (1 + d_130) 0 (by omega)).trans c_265
            have hP : va_P D xcl (rp ad E270 RL) H := hP
            have hD : va_D A (rp ad E270 RL) := hD
            refine lv_aload_n hx hb xd_Me_takeFirstSteps_85 rfl (lv_at hl 0 rfl) ?_
            refine px_get (D := D) (ci := 6) (v := .ref (ad (20 + z44) 0)) (C := xR_Me) (T := xT_Me) (N := 6) hx hb hT xi_Me hown hK.1 hP m_132 c_284 rfl 0 (by decide) (hT _ ys3_1) (fun _ h9 => h9) rfl xd_Me_takeFirstSteps_86 ?_
            refine lv_aload_n hx hb xd_Me_takeFirstSteps_89 rfl (lv_at hl 2 rfl) ?_
            refine px_get (D := D) (ci := 6) (v := .ref (ad (20 + n) 0)) (C := xR_Me) (T := xT_Me) (N := 6) hx hb hT xi_Me hown hK.1 hP ym0 c_277 rfl 0 (by decide) (hT _ ys3_1) (fun _ h9 => h9) rfl xd_Me_takeFirstSteps_90 ?_
            refine lv_acmp_eq (rx := (some (ad (20 + z44) 0))) (ry := (some (ad (20 + n) 0))) (tgt := 107) hx hb xd_Me_takeFirstSteps_93 (by decide) (fun hc289 => ?_) (fun hc289 => ?_)
            · refine lv_iinc (k := 1) (x := (nI i)) (v := (nI (i + 1))) hx hb xd_Me_takeFirstSteps_107 hl rfl (xb_inc i 1) (Nat.le_of_ble_eq_true rfl) rfl (fun ls hl => ?_)
              have hl : lv_has ls 3 [(1, .int (nI (i + 1))), (2, .ref (ad (20 + z44) (10 + 10 * z45))), (0, .ref (ad (20 + n) (10 + 10 * k)))] := hl
              refine lv_goto (tgt := 2) hx hb xd_Me_takeFirstSteps_110 (by decide) ?_
              exact ih1 (i + 1, E270, (va_up fr1 i (some (ad (20 + z44) (10 + 10 * z45)))), w248, w271) _ _ _ (show rs - (i + 1) < rs - i by omega) (lv_sub hl [0, 2] rfl) hP hD hS ⟨(show (i + 1) ≤ rs from by first | assumption | omega), (show E270 (20 + n) (11 + 10 * k) = .inl (kA 6, rs, .inr (.inr (.inr (.inr (va_up fr1 i (some (ad (20 + z44) (10 + 10 * z45)))))))) from c_276), (show E270 (20 + n) (15 + 10 * k) = .inl (kA 0, 6, .inl w248) from c_275), (show E270 (20 + n) (16 + 10 * k) = .inl (kA 0, 6, .inl w271) from p_272), (show ∀ b2 o2, ¬ (b2 = 20 + n ∧ o2 = 11 + 10 * k) → ¬ (b2 = 20 + n ∧ o2 = 15 + 10 * k) → ¬ (b2 = 20 + n ∧ o2 = 16 + 10 * k) → E270 b2 o2 = E b2 o2 from fun b2 o2 h09 h19 h29 => by rw [p_273 b2 o2 (by omega), p_250 b2 o2 (by omega), fE181 b2 o2 (by omega), hfr b2 o2 (by omega) (by omega) (by omega)]), (show RQ kA ad E270 RL nd n (i + 1) (va_up fr1 i (some (ad (20 + z44) (10 + 10 * z45)))) from RQ_RU (RU3 (b := 20 + n) (by omega) hcA1 hcA5 hcA6 c_276 c_275 p_272 (fun b2 o2 h19 h29 h39 => by rw [p_273 b2 o2 (by omega), p_250 b2 o2 (by omega), fE181 b2 o2 (by omega)])) (RQ_add hRQ (by omega) z47))⟩
            · have hxn : ¬ z44 = n := fun e9 => hc289 (by rw [e9])
              refine lv_aload_n hx hb xd_Me_takeFirstSteps_96 rfl (lv_at hl 2 rfl) ?_
              refine px_get (D := D) (ci := 6) (v := .ref (ad (20 + n) (13 + 10 * k))) (C := xR_Me) (T := xT_Me) (N := 6) hx hb hT xi_Me hown hK.1 hP ym0 c_277 rfl 4 (by decide) (hT _ ys3_16) (fun _ h9 => h9) rfl xd_Me_takeFirstSteps_97 ?_
              refine lv_aload_n hx hb xd_Me_takeFirstSteps_100 rfl (lv_at hl 0 rfl) ?_
              refine px_get (D := D) (ci := 6) (v := .ref (ad (20 + z44) (13 + 10 * z45))) (C := xR_Me) (T := xT_Me) (N := 6) hx hb hT xi_Me hown hK.1 hP m_132 c_284 rfl 4 (by decide) (hT _ ys3_16) (fun _ h9 => h9) rfl xd_Me_takeFirstSteps_101 ?_
              have hFc := px_free hD hS hA
              refine va_callv (va_runV (As := [.ref (ad (20 + z44) (13 + 10 * z45))]) (rest := []) ⟨hx, hb, hml, hown, hT⟩ (xc_Re_join l D kA H.size ad E270 RL (20 + n) (13 + 10 * k) (16 + 10 * k) w271 (20 + z44) (13 + 10 * z45) (16 + 10 * z45) g3_130 ym3 c_279 ym5 p_272 m_138 c_285 m_144 c_286 (by first | assumption | omega) (by first | assumption | omega)) (cwV 1 hT (wT_V ys3_24 ys3_25 ys3_26 ys3_21 ys3_23) rfl rfl rfl (by decide +kernel) ⟨Nat.le_of_ble_eq_true rfl, Nat.le_of_ble_eq_true rfl⟩) (px_preV hK hP hD ym3 c_279 rfl) rfl rfl hl.1 rfl (lv_room (Nat.le_of_ble_eq_true rfl)) xd_Me_takeFirstSteps_104 ⟨(Nat.le_of_ble_eq_true rfl), (Nat.le_of_ble_eq_true rfl)⟩) hS (fun q _ h => hFc q h) hFc (fun u291 t H1 locs ht hvm hp292 hB hz1 hk1 hS => ?_)
              obtain ⟨hP1, hD1⟩ := hB
              rw [ht] at hP1
              have hD1 := hD1.weaken (fun _ _ _ h => hFc _ h)
              generalize H1 = H at hP1 hS ⊢
              have hP := hP1
              have hD := hD1
              obtain ⟨E293, rfl⟩ : ∃ z, z = u291 := ⟨_, rfl⟩
              obtain ⟨w294, hp297, p_295, p_296⟩ := hp292
              have p_295 : E293 (20 + n) (16 + 10 * k) = .inl (kA 0, 6, .inl w294) := p_295
              have p_296 : (∀ b2 o2, ¬ (b2 = (20 + n) ∧ o2 = (16 + 10 * k)) → E293 b2 o2 = E270 b2 o2) := p_296
              have c_298 : E293 (20 + n) (15 + 10 * k) = .inl (kA 0, 6, .inl w248) := (p_296 (20 + n) (15 + 10 * k) (by omega)).trans c_275
              have c_299 : E293 (20 + n) (11 + 10 * k) = .inl (kA 6, rs, .inr (.inr (.inr (.inr (va_up fr1 i (some (ad (20 + z44) (10 + 10 * z45)))))))) := (p_296 (20 + n) (11 + 10 * k) (by omega)).trans c_276
              have c_300 : E293 (20 + n) (10 + 10 * k) = .inr (6, [.ref (ad (20 + n) 0), .ref (ad (1 + d) 0), .ref (ad (20 + n) (11 + 10 * k)), .ref (ad (20 + n) (12 + 10 * k)), .ref (ad (20 + n) (13 + 10 * k)), .ref (ad (20 + n) (14 + 10 * k))]) := (p_296 (20 + n) (10 + 10 * k) (by omega)).trans c_277
              have c_301 : E293 (20 + n) (12 + 10 * k) = .inr (10, [.ref (ad (20 + n) (15 + 10 * k))]) := (p_296 (20 + n) (12 + 10 * k) (by omega)).trans c_278
              have c_302 : E293 (20 + n) (13 + 10 * k) = .inr (10, [.ref (ad (20 + n) (16 + 10 * k))]) := (p_296 (20 + n) (13 + 10 * k) (by omega)).trans c_279
              have c_303 : E293 (1 + d) 0 = .inr (7, [.int (nI d), .int fd_6, .int nm_6, .ref (ad (1 + d) 1), .ref (ad (1 + d) 9), .ref (ad (1 + d) 10), .ref (ad (1 + d) 2), .ref (ad (1 + d) 11), .ref (ad (1 + d) 12), .ref (ad (1 + d) 3), .ref (ad (1 + d) 4), .int sd_6]) := (p_296 (1 + d) 0 (by omega)).trans c_280
              have c_304 : E293 (1 + d) 11 = .inl (kA 2, 5, .inl tr_6) := (p_296 (1 + d) 11 (by omega)).trans c_281
              have c_305 : E293 (1 + d) 12 = .inl (kA 2, 5, .inl op_6) := (p_296 (1 + d) 12 (by omega)).trans c_282
              have c_306 : E293 (20 + n) 0 = .inr (5, [.int (nI n), pv_36, .ref (ad (20 + n) 1), .int op_36]) := (p_296 (20 + n) 0 (by omega)).trans c_283
              have c_307 : E293 (20 + z44) (10 + 10 * z45) = .inr (6, [.ref (ad (20 + z44) 0), .ref (ad (1 + d_130) 0), .ref (ad (20 + z44) (11 + 10 * z45)), .ref (ad (20 + z44) (12 + 10 * z45)), .ref (ad (20 + z44) (13 + 10 * z45)), .ref (ad (20 + z44) (14 + 10 * z45))]) := (p_296 (20 + z44) (10 + 10 * z45) (by omega)).trans c_284
              have c_308 : E293 (20 + z44) (13 + 10 * z45) = .inr (10, [.ref (ad (20 + z44) (16 + 10 * z45))]) := (p_296 (20 + z44) (13 + 10 * z45) (by omega)).trans c_285
              have c_309 : E293 (20 + z44) (16 + 10 * z45) = .inl (kA 0, 6, .inl g3_130) := (p_296 (20 + z44) (16 + 10 * z45) (by omega)).trans c_286
              have c_310 : E293 (20 + z44) 0 = .inr (5, [.int (nI z44), pv_147, .ref (ad (20 + z44) 1), .int op_147]) := (p_296 (20 + z44) 0 (by omega)).trans c_287
              have c_311 : E293 (1 + d_130) 0 = .inr (7, [.int (nI d_130), .int fd_152, .int nm_152, .ref (ad (1 + d_130) 1), .ref (ad (1 + d_130) 9), .ref (ad (1 + d_130) 10), .ref (ad (1 + d_130) 2), .ref (ad (1 + d_130) 11), .ref (ad (1 + d_130) 12), .ref (ad (1 + d_130) 3), .ref (ad (1 + d_130) 4), .int sd_152]) := (p_296 (1 + d_130) 0 (by omega)).trans c_288
              have hP : va_P D xcl (rp ad E293 RL) H := hP
              have hD : va_D A (rp ad E293 RL) := hD
              refine lv_iinc (k := 1) (x := (nI i)) (v := (nI (i + 1))) hx hb xd_Me_takeFirstSteps_107 hl rfl (xb_inc i 1) (Nat.le_of_ble_eq_true rfl) rfl (fun ls hl => ?_)
              have hl : lv_has ls 3 [(1, .int (nI (i + 1))), (2, .ref (ad (20 + z44) (10 + 10 * z45))), (0, .ref (ad (20 + n) (10 + 10 * k)))] := hl
              refine lv_goto (tgt := 2) hx hb xd_Me_takeFirstSteps_110 (by decide) ?_
              exact ih1 (i + 1, E293, (va_up fr1 i (some (ad (20 + z44) (10 + 10 * z45)))), w248, w294) _ _ _ (show rs - (i + 1) < rs - i by omega) (lv_sub hl [0, 2] rfl) hP hD hS ⟨(show (i + 1) ≤ rs from by first | assumption | omega), (show E293 (20 + n) (11 + 10 * k) = .inl (kA 6, rs, .inr (.inr (.inr (.inr (va_up fr1 i (some (ad (20 + z44) (10 + 10 * z45)))))))) from c_299), (show E293 (20 + n) (15 + 10 * k) = .inl (kA 0, 6, .inl w248) from c_298), (show E293 (20 + n) (16 + 10 * k) = .inl (kA 0, 6, .inl w294) from p_295), (show ∀ b2 o2, ¬ (b2 = 20 + n ∧ o2 = 11 + 10 * k) → ¬ (b2 = 20 + n ∧ o2 = 15 + 10 * k) → ¬ (b2 = 20 + n ∧ o2 = 16 + 10 * k) → E293 b2 o2 = E b2 o2 from fun b2 o2 h09 h19 h29 => by rw [p_296 b2 o2 (by omega), p_273 b2 o2 (by omega), p_250 b2 o2 (by omega), fE181 b2 o2 (by omega), hfr b2 o2 (by omega) (by omega) (by omega)]), (show RQ kA ad E293 RL nd n (i + 1) (va_up fr1 i (some (ad (20 + z44) (10 + 10 * z45)))) from RQ_RU (RU3 (b := 20 + n) (by omega) hcA1 hcA5 hcA6 c_299 c_298 p_295 (fun b2 o2 h19 h29 h39 => by rw [p_296 b2 o2 (by omega), p_273 b2 o2 (by omega), p_250 b2 o2 (by omega), fE181 b2 o2 (by omega)])) (RQ_add hRQ (by omega) z47))⟩
