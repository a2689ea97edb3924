abbrev xb_Ly_connect : ByteArray := prog_5_method_5_code
def xy_Ly_connect : MethodName := ⟨"LayerDesk$Layer", "connect", "()V"⟩
theorem xd_Ly_connect_0 : decode xb_Ly_connect 0 = .ok (.aload_n 0, 1) := by decide +kernel
theorem xd_Ly_connect_1 : decode xb_Ly_connect 1 = .ok (.getfield 19, 3) := by decide +kernel
theorem xd_Ly_connect_4 : decode xb_Ly_connect 4 = .ok (.arraylength, 1) := by decide +kernel
theorem xd_Ly_connect_5 : decode xb_Ly_connect 5 = .ok (.anewarray 47, 3) := by decide +kernel
theorem xd_Ly_connect_8 : decode xb_Ly_connect 8 = .ok (.astore_n 1, 1) := by decide +kernel
theorem xd_Ly_connect_9 : decode xb_Ly_connect 9 = .ok (.aload_n 0, 1) := by decide +kernel
theorem xd_Ly_connect_10 : decode xb_Ly_connect 10 = .ok (.getfield 19, 3) := by decide +kernel
theorem xd_Ly_connect_13 : decode xb_Ly_connect 13 = .ok (.arraylength, 1) := by decide +kernel
theorem xd_Ly_connect_14 : decode xb_Ly_connect 14 = .ok (.anewarray 47, 3) := by decide +kernel
theorem xd_Ly_connect_17 : decode xb_Ly_connect 17 = .ok (.astore_n 2, 1) := by decide +kernel
theorem xd_Ly_connect_18 : decode xb_Ly_connect 18 = .ok (.iconst 0, 1) := by decide +kernel
theorem xd_Ly_connect_19 : decode xb_Ly_connect 19 = .ok (.istore_n 3, 1) := by decide +kernel
theorem xd_Ly_connect_20 : decode xb_Ly_connect 20 = .ok (.iload_n 3, 1) := by decide +kernel
theorem xd_Ly_connect_21 : decode xb_Ly_connect 21 = .ok (.aload_n 0, 1) := by decide +kernel
theorem xd_Ly_connect_22 : decode xb_Ly_connect 22 = .ok (.getfield 19, 3) := by decide +kernel
theorem xd_Ly_connect_25 : decode xb_Ly_connect 25 = .ok (.arraylength, 1) := by decide +kernel
theorem xd_Ly_connect_26 : decode xb_Ly_connect 26 = .ok (.if_icmp .ge 42, 3) := by decide +kernel
theorem xd_Ly_connect_29 : decode xb_Ly_connect 29 = .ok (.aload_n 0, 1) := by decide +kernel
theorem xd_Ly_connect_30 : decode xb_Ly_connect 30 = .ok (.getfield 19, 3) := by decide +kernel
theorem xd_Ly_connect_33 : decode xb_Ly_connect 33 = .ok (.iload_n 3, 1) := by decide +kernel
theorem xd_Ly_connect_34 : decode xb_Ly_connect 34 = .ok (.aaload, 1) := by decide +kernel
theorem xd_Ly_connect_35 : decode xb_Ly_connect 35 = .ok (.invokevirtual 49, 3) := by decide +kernel
theorem xd_Ly_connect_38 : decode xb_Ly_connect 38 = .ok (.aload_n 1, 1) := by decide +kernel
theorem xd_Ly_connect_39 : decode xb_Ly_connect 39 = .ok (.iload_n 3, 1) := by decide +kernel
theorem xd_Ly_connect_40 : decode xb_Ly_connect 40 = .ok (.aload_n 0, 1) := by decide +kernel
theorem xd_Ly_connect_41 : decode xb_Ly_connect 41 = .ok (.getfield 19, 3) := by decide +kernel
theorem xd_Ly_connect_44 : decode xb_Ly_connect 44 = .ok (.iload_n 3, 1) := by decide +kernel
theorem xd_Ly_connect_45 : decode xb_Ly_connect 45 = .ok (.aaload, 1) := by decide +kernel
theorem xd_Ly_connect_46 : decode xb_Ly_connect 46 = .ok (.getfield 52, 3) := by decide +kernel
theorem xd_Ly_connect_49 : decode xb_Ly_connect 49 = .ok (.aastore, 1) := by decide +kernel
theorem xd_Ly_connect_50 : decode xb_Ly_connect 50 = .ok (.aload_n 2, 1) := by decide +kernel
theorem xd_Ly_connect_51 : decode xb_Ly_connect 51 = .ok (.iload_n 3, 1) := by decide +kernel
theorem xd_Ly_connect_52 : decode xb_Ly_connect 52 = .ok (.aload_n 0, 1) := by decide +kernel
theorem xd_Ly_connect_53 : decode xb_Ly_connect 53 = .ok (.getfield 19, 3) := by decide +kernel
theorem xd_Ly_connect_56 : decode xb_Ly_connect 56 = .ok (.iload_n 3, 1) := by decide +kernel
theorem xd_Ly_connect_57 : decode xb_Ly_connect 57 = .ok (.aaload, 1) := by decide +kernel
theorem xd_Ly_connect_58 : decode xb_Ly_connect 58 = .ok (.getfield 56, 3) := by decide +kernel
theorem xd_Ly_connect_61 : decode xb_Ly_connect 61 = .ok (.aastore, 1) := by decide +kernel
theorem xd_Ly_connect_62 : decode xb_Ly_connect 62 = .ok (.iinc 3 1, 3) := by decide +kernel
theorem xd_Ly_connect_65 : decode xb_Ly_connect 65 = .ok (.goto (-45), 3) := by decide +kernel
theorem xd_Ly_connect_68 : decode xb_Ly_connect 68 = .ok (.aload_n 0, 1) := by decide +kernel
theorem xd_Ly_connect_69 : decode xb_Ly_connect 69 = .ok (.aload_n 1, 1) := by decide +kernel
theorem xd_Ly_connect_70 : decode xb_Ly_connect 70 = .ok (.invokevirtual 59, 3) := by decide +kernel
theorem xd_Ly_connect_73 : decode xb_Ly_connect 73 = .ok (.aload_n 0, 1) := by decide +kernel
theorem xd_Ly_connect_74 : decode xb_Ly_connect 74 = .ok (.aload_n 2, 1) := by decide +kernel
theorem xd_Ly_connect_75 : decode xb_Ly_connect 75 = .ok (.invokevirtual 59, 3) := by decide +kernel
theorem xd_Ly_connect_78 : decode xb_Ly_connect 78 = .ok (.iconst 0, 1) := by decide +kernel
theorem xd_Ly_connect_79 : decode xb_Ly_connect 79 = .ok (.istore_n 3, 1) := by decide +kernel
theorem xd_Ly_connect_80 : decode xb_Ly_connect 80 = .ok (.iload_n 3, 1) := by decide +kernel
theorem xd_Ly_connect_81 : decode xb_Ly_connect 81 = .ok (.aload_n 0, 1) := by decide +kernel
theorem xd_Ly_connect_82 : decode xb_Ly_connect 82 = .ok (.getfield 19, 3) := by decide +kernel
theorem xd_Ly_connect_85 : decode xb_Ly_connect 85 = .ok (.arraylength, 1) := by decide +kernel
theorem xd_Ly_connect_86 : decode xb_Ly_connect 86 = .ok (.if_icmp .ge 18, 3) := by decide +kernel
theorem xd_Ly_connect_89 : decode xb_Ly_connect 89 = .ok (.aload_n 0, 1) := by decide +kernel
theorem xd_Ly_connect_90 : decode xb_Ly_connect 90 = .ok (.getfield 19, 3) := by decide +kernel
theorem xd_Ly_connect_93 : decode xb_Ly_connect 93 = .ok (.iload_n 3, 1) := by decide +kernel
theorem xd_Ly_connect_94 : decode xb_Ly_connect 94 = .ok (.aaload, 1) := by decide +kernel
theorem xd_Ly_connect_95 : decode xb_Ly_connect 95 = .ok (.invokevirtual 63, 3) := by decide +kernel
theorem xd_Ly_connect_98 : decode xb_Ly_connect 98 = .ok (.iinc 3 1, 3) := by decide +kernel
theorem xd_Ly_connect_101 : decode xb_Ly_connect 101 = .ok (.goto (-21), 3) := by decide +kernel
theorem xd_Ly_connect_104 : decode xb_Ly_connect 104 = .ok (.return_, 1) := by decide +kernel
theorem yt_0 : (Cond.fieldLink "LayerDesk$Layer" 19 "LayerDesk$Layer" "members" "[LLayerDesk$Member;") ∈ wT := wT_t (List.mem_append_right _ (List.mem_append_right _ (List.mem_append_left _ (List.mem_of_getElem? (i := 147) rfl)))) rfl
theorem yt_1 : (Cond.classLink "LayerDesk$Layer" 47 "LayerDesk$Reach") ∈ wT := wT_t (List.mem_append_right _ (List.mem_append_right _ (List.mem_append_left _ (List.mem_of_getElem? (i := 210) rfl)))) rfl
theorem yt_2 : (Cond.code xy_Ly_follow xb_Ly_follow 4 none) ∈ wT := wT_t (List.mem_append_right _ (List.mem_append_right _ (List.mem_append_left _ (List.mem_of_getElem? (i := 229) rfl)))) rfl
theorem yt_3 : (Cond.methodLink "LayerDesk$Layer" 59 xy_Ly_follow) ∈ wT := wT_t (List.mem_append_right _ (List.mem_append_right _ (List.mem_append_left _ (List.mem_of_getElem? (i := 226) rfl)))) rfl
theorem yt_4 : (Cond.instanceMethod xy_Ly_follow) ∈ wT := wT_t (List.mem_append_right _ (List.mem_append_right _ (List.mem_append_left _ (List.mem_of_getElem? (i := 228) rfl)))) rfl
theorem yt_5 : (Cond.selects "LayerDesk$Layer" xy_Ly_follow xy_Ly_follow) ∈ wT := wT_s (q := (xy_Ly_follow, 4)) (by decide +kernel) rfl
theorem yt_6 : (Cond.initialized "LayerDesk$Layer") ∈ wT := wT_t (List.mem_append_left _ (List.mem_of_getElem? (i := 19) rfl)) rfl
theorem yt_7 : (Cond.code xy_Me_settleReading xb_Me_settleReading 2 none) ∈ wT := wT_t (List.mem_append_right _ (List.mem_append_right _ (List.mem_append_left _ (List.mem_of_getElem? (i := 235) rfl)))) rfl
theorem yt_8 : (Cond.methodLink "LayerDesk$Layer" 63 xy_Me_settleReading) ∈ wT := wT_t (List.mem_append_right _ (List.mem_append_right _ (List.mem_append_left _ (List.mem_of_getElem? (i := 232) rfl)))) rfl
theorem yt_9 : (Cond.instanceMethod xy_Me_settleReading) ∈ wT := wT_t (List.mem_append_right _ (List.mem_append_right _ (List.mem_append_left _ (List.mem_of_getElem? (i := 233) rfl)))) rfl
theorem yt_10 : (Cond.selects "LayerDesk$Member" xy_Me_settleReading xy_Me_settleReading) ∈ wT := wT_t (List.mem_append_right _ (List.mem_append_right _ (List.mem_append_left _ (List.mem_of_getElem? (i := 234) rfl)))) rfl
theorem yt_11 : (Cond.initialized "LayerDesk$Member") ∈ wT := wT_t (List.mem_append_left _ (List.mem_of_getElem? (i := 20) rfl)) rfl
theorem yt_12 : (Cond.code xy_Me_takeFirstSteps xb_Me_takeFirstSteps 3 none) ∈ wT := wT_t (List.mem_append_right _ (List.mem_append_right _ (List.mem_append_left _ (List.mem_of_getElem? (i := 215) rfl)))) rfl
theorem yt_13 : (Cond.methodLink "LayerDesk$Layer" 49 xy_Me_takeFirstSteps) ∈ wT := wT_t (List.mem_append_right _ (List.mem_append_right _ (List.mem_append_left _ (List.mem_of_getElem? (i := 212) rfl)))) rfl
theorem yt_14 : (Cond.instanceMethod xy_Me_takeFirstSteps) ∈ wT := wT_t (List.mem_append_right _ (List.mem_append_right _ (List.mem_append_left _ (List.mem_of_getElem? (i := 213) rfl)))) rfl
theorem yt_15 : (Cond.selects "LayerDesk$Member" xy_Me_takeFirstSteps xy_Me_takeFirstSteps) ∈ wT := wT_t (List.mem_append_right _ (List.mem_append_right _ (List.mem_append_left _ (List.mem_of_getElem? (i := 214) rfl)))) rfl
theorem yt_16 : (Cond.fieldLink "LayerDesk$Layer" 52 "LayerDesk$Member" "leading" "LLayerDesk$Reach;") ∈ wT := wT_t (List.mem_append_right _ (List.mem_append_right _ (List.mem_append_left _ (List.mem_of_getElem? (i := 188) rfl)))) rfl
theorem yt_17 : (Cond.fieldLink "LayerDesk$Layer" 56 "LayerDesk$Member" "carried" "LLayerDesk$Reach;") ∈ wT := wT_t (List.mem_append_right _ (List.mem_append_right _ (List.mem_append_left _ (List.mem_of_getElem? (i := 190) rfl)))) rfl
set_option maxHeartbeats 4000000 in
set_option maxRecDepth 100000 in
theorem xc_Ly_connect (l : Launch) (D : va_G) (kA : Nat → ClassId) (sz : Nat) (ad : Nat → Nat → Nat) (E : Nat → Nat → va_E) (RL : List (Nat × Nat)) (nd : Nat) (nL : Nat) (n : Nat) (pv : Value) (lo : Int32) (mk : Nat) (fm : Nat → Option Nat) (ym0 : (20 + n, 0) ∈ RL) (yc0 : E (20 + n) 0 = .inr (5, [.int (nI n), pv, .ref (ad (20 + n) 1), .int lo])) (ym1 : (20 + n, 1) ∈ RL) (yc1 : E (20 + n) 1 = .inl (kA 6, mk, .inr (.inr (.inr (.inr fm))))) (hDIs : DIs kA ad E RL nd) (hLIs : LIs kA ad E RL nd nL) (hnd12 : nd ≤ 12) (hnL : nL ≤ 6) (hn : n < nL) (hmk : mk ≤ 12) (hfm : ∀ k, k < mk → fm k = some (ad (20 + n) (10 + 10 * k)) ∧ MEI kA ad E RL nd n k) : Met l xy_Ly_connect (.code xy_Ly_connect xb_Ly_connect 4 none :: wT) { frames := 2, cells := 2, slots := 24, locals := 45 } (va_Pc [.ref (ad (20 + n) 0)] (xPre D kA sz (rp ad E RL))) (va_Qv (fun (u : (Nat → Nat → Nat) × (Nat → Nat → va_E) × List (Nat × Nat)) => (DIs kA u.1 u.2.1 u.2.2 nd ∧ LIs kA u.1 u.2.1 u.2.2 nd nL) ∧ ((∀ b2 o2, ¬ (b2 = 20 + n) → u.2.1 b2 o2 = E b2 o2)) ∧ ((∀ b2 o2, ¬ (b2 = 20 + n ∧ o2 = 2) → ¬ (b2 = 20 + n ∧ o2 = 3) → u.1 b2 o2 = ad b2 o2)) ∧ ((∀ x ∈ RL, x ∈ u.2.2)) ∧ ((20 + n, 2) ∈ u.2.2) ∧ ((20 + n, 3) ∈ u.2.2)) (fun (u : (Nat → Nat → Nat) × (Nat → Nat → va_E) × List (Nat × Nat)) t => va_P D xcl (rp u.1 u.2.1 u.2.2) t.heap ∧ va_D (va_A (rp ad E RL) sz) (rp u.1 u.2.1 u.2.2)) (va_A (rp ad E RL) sz)) 2 24 (va_A (rp ad E RL) sz) := by
  refine Met.ofW (cc := xb_Ly_connect) (maxL := 4) (ret := none) (by decide) rfl ?_
  intro p e s m args below meth c s₁ B hml hv
  obtain ⟨rfl, hsz, hP, hK, hD0⟩ := hv
  have hx := B.exec
  have hb := B.bytes
  have hr := B.returns
  have hT := x_hT B.pre
  have hown : s.vm.findClass xR_Ly = some m.cls := findClass_of_methodNamed B.named
  have hlocks := B.notSynchronized
  subst hsz
  have hD := hD0.self (sz := s.heap.size)
  generalize hAe : va_A (rp ad E RL) s.heap.size = A at hD ⊢
  have hA : ∀ q : Nat, s.heap.size ≤ q → A q := fun q h => by rw [← hAe]; exact Or.inr h
  have hS : va_S A s.heap s.heap [] := va_S.rf
  have hl := lv_entry ([.ref (ad (20 + n) 0)]) (n := 4) (Nat.le_of_ble_eq_true rfl)
  rw [lg_entry_eq]
  generalize (lg_sl ([.ref (ad (20 + n) 0)]) ++ List.replicate (4 - (lg_sl ([.ref (ad (20 + n) 0)])).length) Slot.unset).toArray = ls at hl ⊢
  have hl : lv_has ls 4 [(0, .ref (ad (20 + n) 0))] := hl
  have hP : va_P D xcl (rp ad E RL) s.heap := hP
  refine lv_aload_n hx hb xd_Ly_connect_0 rfl (lv_at hl 0 rfl) ?_
  refine px_get (D := D) (ci := 5) (v := .ref (ad (20 + n) 1)) (C := xR_Ly) (T := xT_Ly) (N := 4) hx hb hT xi_Ly hown hK.1 hP ym0 yc0 rfl 2 (by decide) (hT _ yt_0) (fun _ h9 => h9) rfl xd_Ly_connect_1 ?_
  refine px_alen hx hb hK.1 hP ym1 yc1 6 rfl xd_Ly_connect_4 ?_
  refine W.eq (g2 := F0 m 5 ls [.int (nI mk)]) rfl ?_
  refine W.eq (g2 := F0 m 5 ls [.int (nI mk)]) rfl ?_
  refine px_newq (C := "LayerDesk$Reach") (N' := mk) (20 + n) 2 hx hb hown (hT _ yt_1) hK.2.1.2.2.2.2.2.2.2.1 hK.1 7 rfl hP hD hS hA (by omega) (show mk * 4 ≤ 536870912 by omega) (Nat.le_of_ble_eq_true rfl) (show 0 + mk ≤ 24 by omega) xd_Ly_connect_5 (fun ad1 E2 RL3 H hA1 hE1 hs1 hm1 hP hD hS => ?_)
  refine W.widen (k := 1) (n := 12) (by omega) (by omega) ?_
  have fE4 : ∀ b2 o2, ¬ (b2 = 20 + n ∧ o2 = 2) → E2 b2 o2 = E b2 o2 := fun b2 o2 h9 => by rw [hE1]; exact up2_ne (by omega)
  have fA5 : ∀ b2 o2, ¬ (b2 = 20 + n ∧ o2 = 2) → ad1 b2 o2 = ad b2 o2 := fun b2 o2 h9 => by rw [hA1]; exact up2_ne (by omega)
  have hs6 := hs1
  have c_7 : E2 (20 + n) 2 = .inl (kA 7, mk, .inr (.inr (.inr (.inr (fun _ => none))))) := by rw [hE1]; exact up2_eq
  have hl : lv_has ls 4 [(0, .ref (ad1 (20 + n) 0))] := by
    rw [fA5 (20 + n) 0 (by omega)]; exact hl
  have m_9 : (20 + n, 0) ∈ RL3 := hs6 _ ym0
  have m_10 : (20 + n, 1) ∈ RL3 := hs6 _ ym1
  have c_11 : E2 (20 + n) 0 = .inr (5, [.int (nI n), pv, .ref (ad1 (20 + n) 1), .int lo]) := by rw [fE4 (20 + n) 0 (by omega), fA5 (20 + n) 1 (by omega)]; exact yc0
  have c_12 : E2 (20 + n) 1 = .inl (kA 6, mk, .inr (.inr (.inr (.inr fm)))) := by rw [fE4 (20 + n) 1 (by omega)]; exact yc1
  have m_8 : (20 + n, 2) ∈ RL3 := hm1
  have hP : va_P D xcl (rp ad1 E2 RL3) H := hP
  have hD : va_D A (rp ad1 E2 RL3) := hD
  refine lv_astore_n hx hb xd_Ly_connect_8 rfl hl (Nat.le_of_ble_eq_true rfl) rfl (fun ls hl => ?_)
  have hl : lv_has ls 4 [(1, .ref (ad1 (20 + n) 2)), (0, .ref (ad1 (20 + n) 0))] := hl
  refine lv_aload_n hx hb xd_Ly_connect_9 rfl (lv_at hl 1 rfl) ?_
  refine px_get (D := D) (ci := 5) (v := .ref (ad1 (20 + n) 1)) (C := xR_Ly) (T := xT_Ly) (N := 4) hx hb hT xi_Ly hown hK.1 hP m_9 c_11 rfl 2 (by decide) (hT _ yt_0) (fun _ h9 => h9) rfl xd_Ly_connect_10 ?_
  refine px_alen hx hb hK.1 hP m_10 c_12 6 rfl xd_Ly_connect_13 ?_
  refine W.eq (g2 := F0 m 14 ls [.int (nI mk)]) rfl ?_
  refine W.eq (g2 := F0 m 14 ls [.int (nI mk)]) rfl ?_
  refine px_newq (C := "LayerDesk$Reach") (N' := mk) (20 + n) 3 hx hb hown (hT _ yt_1) hK.2.1.2.2.2.2.2.2.2.1 hK.1 7 rfl hP hD hS hA (by omega) (show mk * 4 ≤ 536870912 by omega) (Nat.le_of_ble_eq_true rfl) (show 12 + mk ≤ 24 by omega) xd_Ly_connect_14 (fun ad13 E14 RL15 H hA1 hE1 hs1 hm1 hP hD hS => ?_)
  refine W.widen (k := 2) (n := 24) (by omega) (by omega) ?_
  have fE16 : ∀ b2 o2, ¬ (b2 = 20 + n ∧ o2 = 3) → E14 b2 o2 = E2 b2 o2 := fun b2 o2 h9 => by rw [hE1]; exact up2_ne (by omega)
  have fA17 : ∀ b2 o2, ¬ (b2 = 20 + n ∧ o2 = 3) → ad13 b2 o2 = ad1 b2 o2 := fun b2 o2 h9 => by rw [hA1]; exact up2_ne (by omega)
  have hs18 := hs1
  have c_19 : E14 (20 + n) 3 = .inl (kA 7, mk, .inr (.inr (.inr (.inr (fun _ => none))))) := by rw [hE1]; exact up2_eq
  have hl : lv_has ls 4 [(1, .ref (ad13 (20 + n) 2)), (0, .ref (ad13 (20 + n) 0))] := by
    rw [fA17 (20 + n) 2 (by omega), fA17 (20 + n) 0 (by omega)]; exact hl
  have m_21 : (20 + n, 0) ∈ RL15 := hs18 _ m_9
  have m_22 : (20 + n, 1) ∈ RL15 := hs18 _ m_10
  have m_23 : (20 + n, 2) ∈ RL15 := hs18 _ m_8
  have c_24 : E14 (20 + n) 2 = .inl (kA 7, mk, .inr (.inr (.inr (.inr (fun _ => none))))) := by rw [fE16 (20 + n) 2 (by omega)]; exact c_7
  have c_25 : E14 (20 + n) 0 = .inr (5, [.int (nI n), pv, .ref (ad13 (20 + n) 1), .int lo]) := by rw [fE16 (20 + n) 0 (by omega), fA17 (20 + n) 1 (by omega)]; exact c_11
  have c_26 : E14 (20 + n) 1 = .inl (kA 6, mk, .inr (.inr (.inr (.inr fm)))) := by rw [fE16 (20 + n) 1 (by omega)]; exact c_12
  have m_20 : (20 + n, 3) ∈ RL15 := hm1
  have hP : va_P D xcl (rp ad13 E14 RL15) H := hP
  have hD : va_D A (rp ad13 E14 RL15) := hD
  refine lv_astore_n hx hb xd_Ly_connect_17 rfl hl (Nat.le_of_ble_eq_true rfl) rfl (fun ls hl => ?_)
  have hl : lv_has ls 4 [(2, .ref (ad13 (20 + n) 3)), (1, .ref (ad13 (20 + n) 2)), (0, .ref (ad13 (20 + n) 0))] := hl
  have h2327 : R23 n E E14 := fun b2 o2 h9 => by show E14 b2 o2 = _; rw [fE16 b2 o2 (by omega), fE4 b2 o2 (by omega)]
  have h2328 : R23 n ad ad13 := fun b2 o2 h9 => by show ad13 b2 o2 = _; rw [fA17 b2 o2 (by omega), fA5 b2 o2 (by omega)]
  have hDIs : DIs kA ad13 E14 RL15 nd := DIs_23 h2327 h2328 (fun _ h9 => hs18 _ (hs6 _ h9)) hnd12 hDIs
  have hLIs : LIs kA ad13 E14 RL15 nd nL := LIs_23 h2327 h2328 (fun _ h9 => hs18 _ (hs6 _ h9)) hLIs
  have hfm : ∀ k, k < mk → fm k = some (ad13 (20 + n) (10 + 10 * k)) ∧ MEI kA ad13 E14 RL15 nd n k := fun k h => ⟨by rw [h2328 _ _ (by omega)]; exact (hfm k h).1, MEI_23 h2327 h2328 (fun _ h9 => hs18 _ (hs6 _ h9)) (hfm k h).2⟩
  refine lv_iconst (v := 0) hx hb xd_Ly_connect_18 (by decide) ?_
  refine lv_istore_n hx hb xd_Ly_connect_19 rfl hl (Nat.le_of_ble_eq_true rfl) rfl (fun ls hl => ?_)
  have hl : lv_has ls 4 [(3, .int 0), (2, .ref (ad13 (20 + n) 3)), (1, .ref (ad13 (20 + n) 2)), (0, .ref (ad13 (20 + n) 0))] := hl
  refine xlab (σ := Nat × (Nat → Nat → va_E) × (Nat → Option Nat) × (Nat → Option Nat)) (ml := 4) 20 (fun (i, E1, fl1, fc1) => [(3, .int (nI i)), (2, .ref (ad13 (20 + n) 3)), (1, .ref (ad13 (20 + n) 2)), (0, .ref (ad13 (20 + n) 0))]) (fun (i, E1, fl1, fc1) => []) (fun (i, E1, fl1, fc1) => rp ad13 E1 RL15) (fun (i, E1, fl1, fc1) => (i ≤ mk) ∧ (E1 (20 + n) 0 = .inr (5, [.int (nI n), pv, .ref (ad13 (20 + n) 1), .int lo])) ∧ (E1 (20 + n) 1 = .inl (kA 6, mk, .inr (.inr (.inr (.inr fm))))) ∧ (E1 (20 + n) 2 = .inl (kA 7, mk, .inr (.inr (.inr (.inr fl1))))) ∧ (E1 (20 + n) 3 = .inl (kA 7, mk, .inr (.inr (.inr (.inr fc1))))) ∧ (∀ b2 o2, ¬ (b2 = 20 + n) → E1 b2 o2 = E b2 o2) ∧ (DIs kA ad13 E1 RL15 nd) ∧ (LIs kA ad13 E1 RL15 nd nL) ∧ (∀ k, k < mk → fm k = some (ad13 (20 + n) (10 + 10 * k)) ∧ MEI kA ad13 E1 RL15 nd n k) ∧ (∀ j, j < i → fl1 j = some (ad13 (20 + n) (12 + 10 * j)) ∧ fc1 j = some (ad13 (20 + n) (13 + 10 * j)) ∧ ∃ (rs : Nat) (fr : Nat → Option Nat), E1 (20 + n) (11 + 10 * j) = .inl (kA 6, rs, .inr (.inr (.inr (.inr fr)))) ∧ RQ kA ad13 E1 RL15 nd n rs fr)) (fun (i, E1, fl1, fc1) => mk - i) ?_ (0, E14, (fun _ => none), (fun _ => none)) _ _ _ (lv_sub hl [0, 1, 2, 3] rfl) hP hD hS ⟨(show 0 ≤ mk from by first | assumption | omega), (show E14 (20 + n) 0 = .inr (5, [.int (nI n), pv, .ref (ad13 (20 + n) 1), .int lo]) from c_25), (show E14 (20 + n) 1 = .inl (kA 6, mk, .inr (.inr (.inr (.inr fm)))) from c_26), (show E14 (20 + n) 2 = .inl (kA 7, mk, .inr (.inr (.inr (.inr (fun _ => none))))) from c_24), (show E14 (20 + n) 3 = .inl (kA 7, mk, .inr (.inr (.inr (.inr (fun _ => none))))) from c_19), (show ∀ b2 o2, ¬ (b2 = 20 + n) → E14 b2 o2 = E b2 o2 from fun b2 o2 h09 => by show E14 b2 o2 = _; rw [fE16 b2 o2 (by omega), fE4 b2 o2 (by omega)]), (show DIs kA ad13 E14 RL15 nd from hDIs), (show LIs kA ad13 E14 RL15 nd nL from hLIs), (show ∀ k, k < mk → fm k = some (ad13 (20 + n) (10 + 10 * k)) ∧ MEI kA ad13 E14 RL15 nd n k from hfm), (show ∀ j, j < 0 → (fun _ => none) j = some (ad13 (20 + n) (12 + 10 * j)) ∧ (fun _ => none) j = some (ad13 (20 + n) (13 + 10 * j)) ∧ ∃ (rs : Nat) (fr : Nat → Option Nat), E14 (20 + n) (11 + 10 * j) = .inl (kA 6, rs, .inr (.inr (.inr (.inr fr)))) ∧ RQ kA ad13 E14 RL15 nd n rs fr from fun j hj => absurd hj (by omega))⟩
  intro n9 ih29 a9 ls H locs hμ hl hP hD hS hI
  subst hμ
  obtain ⟨i, E1, fl1, fc1⟩ := a9
  obtain ⟨hi, hcA0, hcA1, hcA2, hcA3, hfr, hDIs, hLIs, hfm, hdone⟩ := hI
  have hi : i ≤ mk := hi
  have hcA0 : E1 (20 + n) 0 = .inr (5, [.int (nI n), pv, .ref (ad13 (20 + n) 1), .int lo]) := hcA0
  have hcA1 : E1 (20 + n) 1 = .inl (kA 6, mk, .inr (.inr (.inr (.inr fm)))) := hcA1
  have hcA2 : E1 (20 + n) 2 = .inl (kA 7, mk, .inr (.inr (.inr (.inr fl1)))) := hcA2
  have hcA3 : E1 (20 + n) 3 = .inl (kA 7, mk, .inr (.inr (.inr (.inr fc1)))) := hcA3
  have hfr : ∀ b2 o2, ¬ (b2 = 20 + n) → E1 b2 o2 = E b2 o2 := hfr
  have hDIs : DIs kA ad13 E1 RL15 nd := hDIs
  have hLIs : LIs kA ad13 E1 RL15 nd nL := hLIs
  have hfm : ∀ k, k < mk → fm k = some (ad13 (20 + n) (10 + 10 * k)) ∧ MEI kA ad13 E1 RL15 nd n k := hfm
  have hdone : ∀ j, j < i → fl1 j = some (ad13 (20 + n) (12 + 10 * j)) ∧ fc1 j = some (ad13 (20 + n) (13 + 10 * j)) ∧ ∃ (rs : Nat) (fr : Nat → Option Nat), E1 (20 + n) (11 + 10 * j) = .inl (kA 6, rs, .inr (.inr (.inr (.inr fr)))) ∧ RQ kA ad13 E1 RL15 nd n rs fr := hdone
  have hl : lv_has ls 4 [(3, .int (nI i)), (2, .ref (ad13 (20 + n) 3)), (1, .ref (ad13 (20 + n) 2)), (0, .ref (ad13 (20 + n) 0))] := hl
  have hP : va_P D xcl (rp ad13 E1 RL15) H := hP
  have hD : va_D A (rp ad13 E1 RL15) := hD
  refine lv_iload_n hx hb xd_Ly_connect_20 rfl (lv_at hl 0 rfl) ?_
  refine lv_aload_n hx hb xd_Ly_connect_21 rfl (lv_at hl 3 rfl) ?_
  refine px_get (D := D) (ci := 5) (v := .ref (ad13 (20 + n) 1)) (C := xR_Ly) (T := xT_Ly) (N := 4) hx hb hT xi_Ly hown hK.1 hP m_21 hcA0 rfl 2 (by decide) (hT _ yt_0) (fun _ h9 => h9) rfl xd_Ly_connect_22 ?_
  refine px_alen hx hb hK.1 hP m_22 hcA1 6 rfl xd_Ly_connect_25 ?_
  refine W.eq (g2 := F0 m 26 ls [.int (nI mk), .int (nI i)]) rfl ?_
  refine xn_ge (a := i) (b := mk) (tgt := 68) hx hb xd_Ly_connect_26 (by decide) (by omega) (by omega) (fun hc30 => ?_) (fun hc30 => ?_)
  · refine lv_aload_n hx hb xd_Ly_connect_68 rfl (lv_at hl 3 rfl) ?_
    refine lv_aload_n hx hb xd_Ly_connect_69 rfl (lv_at hl 2 rfl) ?_
    have hFc := px_free hD hS hA
    refine va_callv (va_runV (As := [.ref (ad13 (20 + n) 2)]) (rest := []) ⟨hx, hb, hml, hown, hT⟩ (xc_Ly_followL l D kA H.size ad13 E1 RL15 nd nL n pv lo mk fm fl1 m_21 hcA0 m_22 hcA1 m_23 hcA2 (by first | assumption | omega) (by first | assumption | omega) (by first | assumption | omega) (by first | assumption | omega) (by first | assumption | omega) (by first | assumption | omega) (by first | assumption | omega) (fun k h => (hdone k (by omega)).1)) (cwV 1 hT (wT_V yt_3 yt_4 yt_5 yt_6 yt_2) rfl rfl rfl (by decide +kernel) ⟨Nat.le_of_ble_eq_true rfl, Nat.le_of_ble_eq_true rfl⟩) (px_preV hK hP hD m_21 hcA0 rfl) rfl rfl hl.1 rfl (lv_room (Nat.le_of_ble_eq_true rfl)) xd_Ly_connect_70 ⟨(Nat.le_of_ble_eq_true rfl), (Nat.le_of_ble_eq_true rfl)⟩) hS (fun q _ h => hFc q h) hFc (fun u32 t H1 locs ht hvm hp33 hB hz1 hk1 hS => ?_)
    obtain ⟨hP1, hD1⟩ := hB
    rw [ht] at hP1
    have hD1 := hD1.weaken (fun _ _ _ h => hFc _ h)
    generalize H1 = H at hP1 hS ⊢
    have hP := hP1
    have hD := hD1
    obtain ⟨E34, rfl⟩ : ∃ z, z = u32 := ⟨_, rfl⟩
    have hP : va_P D xcl (rp ad13 E34 RL15) H := hP
    have hD : va_D A (rp ad13 E34 RL15) := hD
    have hRI9 : RI kA (20 + n) E1 E34 := hp33
    have hcA0 := hRI9.obj hcA0
    have hcA1 := hRI9.arr hcA1
    have hcA2 := hRI9.arr hcA2
    have hcA3 := hRI9.arr hcA3
    have hfr : ∀ b2 o2, ¬ (b2 = 20 + n) → E34 b2 o2 = E b2 o2 := fun b2 o2 h9 => (hRI9.out h9).trans (hfr b2 o2 h9)
    have hDIs := DIs_RU hRI9.ru hnd12 hDIs
    have hLIs := LIs_RU hRI9.ru hLIs
    have hfm : ∀ k, k < mk → fm k = some (ad13 (20 + n) (10 + 10 * k)) ∧ MEI kA ad13 E34 RL15 nd n k := fun k h => ⟨(hfm k h).1, MEI_RU hRI9.ru (hfm k h).2⟩
    have hdone : ∀ j, j < i → fl1 j = some (ad13 (20 + n) (12 + 10 * j)) ∧ fc1 j = some (ad13 (20 + n) (13 + 10 * j)) ∧ ∃ (rs : Nat) (fr : Nat → Option Nat), E34 (20 + n) (11 + 10 * j) = .inl (kA 6, rs, .inr (.inr (.inr (.inr fr)))) ∧ RQ kA ad13 E34 RL15 nd n rs fr := fun j hj => by obtain ⟨q1, q2, rs9, fr9, q3, q4⟩ := hdone j hj; exact ⟨q1, q2, rs9, fr9, hRI9.arr q3, RQ_RU hRI9.ru q4⟩
    refine lv_aload_n hx hb xd_Ly_connect_73 rfl (lv_at hl 3 rfl) ?_
    refine lv_aload_n hx hb xd_Ly_connect_74 rfl (lv_at hl 1 rfl) ?_
    have hFc := px_free hD hS hA
    refine va_callv (va_runV (As := [.ref (ad13 (20 + n) 3)]) (rest := []) ⟨hx, hb, hml, hown, hT⟩ (xc_Ly_followC l D kA H.size ad13 E34 RL15 nd nL n pv lo mk fm fc1 m_21 hcA0 m_22 hcA1 m_20 hcA3 (by first | assumption | omega) (by first | assumption | omega) (by first | assumption | omega) (by first | assumption | omega) (by first | assumption | omega) (by first | assumption | omega) (by first | assumption | omega) (fun k h => (hdone k (by omega)).2.1)) (cwV 1 hT (wT_V yt_3 yt_4 yt_5 yt_6 yt_2) rfl rfl rfl (by decide +kernel) ⟨Nat.le_of_ble_eq_true rfl, Nat.le_of_ble_eq_true rfl⟩) (px_preV hK hP hD m_21 hcA0 rfl) rfl rfl hl.1 rfl (lv_room (Nat.le_of_ble_eq_true rfl)) xd_Ly_connect_75 ⟨(Nat.le_of_ble_eq_true rfl), (Nat.le_of_ble_eq_true rfl)⟩) hS (fun q _ h => hFc q h) hFc (fun u36 t H1 locs ht hvm hp37 hB hz1 hk1 hS => ?_)
    obtain ⟨hP1, hD1⟩ := hB
    rw [ht] at hP1
    have hD1 := hD1.weaken (fun _ _ _ h => hFc _ h)
    generalize H1 = H at hP1 hS ⊢
    have hP := hP1
    have hD := hD1
    obtain ⟨E38, rfl⟩ : ∃ z, z = u36 := ⟨_, rfl⟩
    have hP : va_P D xcl (rp ad13 E38 RL15) H := hP
    have hD : va_D A (rp ad13 E38 RL15) := hD
    have hRI9 : RI kA (20 + n) E34 E38 := hp37
    have hcA0 := hRI9.obj hcA0
    have hcA1 := hRI9.arr hcA1
    have hcA2 := hRI9.arr hcA2
    have hcA3 := hRI9.arr hcA3
    have hfr : ∀ b2 o2, ¬ (b2 = 20 + n) → E38 b2 o2 = E b2 o2 := fun b2 o2 h9 => (hRI9.out h9).trans (hfr b2 o2 h9)
    have hDIs := DIs_RU hRI9.ru hnd12 hDIs
    have hLIs := LIs_RU hRI9.ru hLIs
    have hfm : ∀ k, k < mk → fm k = some (ad13 (20 + n) (10 + 10 * k)) ∧ MEI kA ad13 E38 RL15 nd n k := fun k h => ⟨(hfm k h).1, MEI_RU hRI9.ru (hfm k h).2⟩
    have hdone : ∀ j, j < i → fl1 j = some (ad13 (20 + n) (12 + 10 * j)) ∧ fc1 j = some (ad13 (20 + n) (13 + 10 * j)) ∧ ∃ (rs : Nat) (fr : Nat → Option Nat), E38 (20 + n) (11 + 10 * j) = .inl (kA 6, rs, .inr (.inr (.inr (.inr fr)))) ∧ RQ kA ad13 E38 RL15 nd n rs fr := fun j hj => by obtain ⟨q1, q2, rs9, fr9, q3, q4⟩ := hdone j hj; exact ⟨q1, q2, rs9, fr9, hRI9.arr q3, RQ_RU hRI9.ru q4⟩
    refine lv_iconst (v := 0) hx hb xd_Ly_connect_78 (by decide) ?_
    refine lv_istore_n hx hb xd_Ly_connect_79 rfl hl (Nat.le_of_ble_eq_true rfl) rfl (fun ls hl => ?_)
    have hl : lv_has ls 4 [(3, .int 0), (2, .ref (ad13 (20 + n) 3)), (1, .ref (ad13 (20 + n) 2)), (0, .ref (ad13 (20 + n) 0))] := hl
    refine xlab (σ := Nat × (Nat → Nat → va_E)) (ml := 4) 80 (fun (i, E5) => [(3, .int (nI i)), (0, .ref (ad13 (20 + n) 0))]) (fun (i, E5) => []) (fun (i, E5) => rp ad13 E5 RL15) (fun (i, E5) => (i ≤ mk) ∧ (E5 (20 + n) 0 = .inr (5, [.int (nI n), pv, .ref (ad13 (20 + n) 1), .int lo])) ∧ (E5 (20 + n) 1 = .inl (kA 6, mk, .inr (.inr (.inr (.inr fm))))) ∧ (∀ b2 o2, ¬ (b2 = 20 + n) → E5 b2 o2 = E b2 o2) ∧ (DIs kA ad13 E5 RL15 nd) ∧ (LIs kA ad13 E5 RL15 nd nL) ∧ (∀ k, k < mk → fm k = some (ad13 (20 + n) (10 + 10 * k)) ∧ MEI kA ad13 E5 RL15 nd n k) ∧ (∀ j, j < mk → ∃ (rs : Nat) (fr : Nat → Option Nat), E5 (20 + n) (11 + 10 * j) = .inl (kA 6, rs, .inr (.inr (.inr (.inr fr)))) ∧ RQ kA ad13 E5 RL15 nd n rs fr)) (fun (i, E5) => mk - i) ?_ (0, E38) _ _ _ (lv_sub hl [0, 3] rfl) hP hD hS ⟨(show 0 ≤ mk from by first | assumption | omega), (show E38 (20 + n) 0 = .inr (5, [.int (nI n), pv, .ref (ad13 (20 + n) 1), .int lo]) from hcA0), (show E38 (20 + n) 1 = .inl (kA 6, mk, .inr (.inr (.inr (.inr fm)))) from hcA1), (show ∀ b2 o2, ¬ (b2 = 20 + n) → E38 b2 o2 = E b2 o2 from fun b2 o2 h09 => by show E38 b2 o2 = _; rw [hfr b2 o2 (by omega)]), (show DIs kA ad13 E38 RL15 nd from hDIs), (show LIs kA ad13 E38 RL15 nd nL from hLIs), (show ∀ k, k < mk → fm k = some (ad13 (20 + n) (10 + 10 * k)) ∧ MEI kA ad13 E38 RL15 nd n k from hfm), (show ∀ j, j < mk → ∃ (rs : Nat) (fr : Nat → Option Nat), E38 (20 + n) (11 + 10 * j) = .inl (kA 6, rs, .inr (.inr (.inr (.inr fr)))) ∧ RQ kA ad13 E38 RL15 nd n rs fr from fun j hj => (hdone j (by omega)).2.2)⟩
    intro n9 ih39 a9 ls H locs hμ hl hP hD hS hI
    subst hμ
    obtain ⟨i, E5⟩ := a9
    obtain ⟨hi, hcA0, hcA1, hfr, hDIs, hLIs, hfm, hRQs⟩ := hI
    have hi : i ≤ mk := hi
    have hcA0 : E5 (20 + n) 0 = .inr (5, [.int (nI n), pv, .ref (ad13 (20 + n) 1), .int lo]) := hcA0
    have hcA1 : E5 (20 + n) 1 = .inl (kA 6, mk, .inr (.inr (.inr (.inr fm)))) := hcA1
    have hfr : ∀ b2 o2, ¬ (b2 = 20 + n) → E5 b2 o2 = E b2 o2 := hfr
    have hDIs : DIs kA ad13 E5 RL15 nd := hDIs
    have hLIs : LIs kA ad13 E5 RL15 nd nL := hLIs
    have hfm : ∀ k, k < mk → fm k = some (ad13 (20 + n) (10 + 10 * k)) ∧ MEI kA ad13 E5 RL15 nd n k := hfm
    have hRQs : ∀ j, j < mk → ∃ (rs : Nat) (fr : Nat → Option Nat), E5 (20 + n) (11 + 10 * j) = .inl (kA 6, rs, .inr (.inr (.inr (.inr fr)))) ∧ RQ kA ad13 E5 RL15 nd n rs fr := hRQs
    have hl : lv_has ls 4 [(3, .int (nI i)), (0, .ref (ad13 (20 + n) 0))] := hl
    have hP : va_P D xcl (rp ad13 E5 RL15) H := hP
    have hD : va_D A (rp ad13 E5 RL15) := hD
    refine lv_iload_n hx hb xd_Ly_connect_80 rfl (lv_at hl 0 rfl) ?_
    refine lv_aload_n hx hb xd_Ly_connect_81 rfl (lv_at hl 1 rfl) ?_
    refine px_get (D := D) (ci := 5) (v := .ref (ad13 (20 + n) 1)) (C := xR_Ly) (T := xT_Ly) (N := 4) hx hb hT xi_Ly hown hK.1 hP m_21 hcA0 rfl 2 (by decide) (hT _ yt_0) (fun _ h9 => h9) rfl xd_Ly_connect_82 ?_
    refine px_alen hx hb hK.1 hP m_22 hcA1 6 rfl xd_Ly_connect_85 ?_
    refine W.eq (g2 := F0 m 86 ls [.int (nI mk), .int (nI i)]) rfl ?_
    refine xn_ge (a := i) (b := mk) (tgt := 104) hx hb xd_Ly_connect_86 (by decide) (by omega) (by omega) (fun hc40 => ?_) (fun hc40 => ?_)
    · refine W.widen (k := 2) (n := 24) (Nat.le_of_ble_eq_true rfl) (Nat.le_of_ble_eq_true rfl) ?_
      exact W.vret hx hb hr (fun t ht hW => ⟨⟨(ad13, E5, RL15), rfl, ⟨⟨hDIs, hLIs⟩, (fun b2 o2 h09 => by show E5 b2 o2 = _; rw [hfr b2 o2 (by omega)]), (fun b2 o2 h09 h19 => by show ad13 b2 o2 = _; rw [fA17 b2 o2 (by omega), fA5 b2 o2 (by omega)]), (fun x9 hx9 => hs18 _ (hs6 _ hx9)), m_23, m_20⟩, by rw [ht]; exact hP, hD⟩, hS.F ht⟩) hS.2.2 xd_Ly_connect_104
    · refine lv_aload_n hx hb xd_Ly_connect_89 rfl (lv_at hl 1 rfl) ?_
      refine px_get (D := D) (ci := 5) (v := .ref (ad13 (20 + n) 1)) (C := xR_Ly) (T := xT_Ly) (N := 4) hx hb hT xi_Ly hown hK.1 hP m_21 hcA0 rfl 2 (by decide) (hT _ yt_0) (fun _ h9 => h9) rfl xd_Ly_connect_90 ?_
      refine lv_iload_n hx hb xd_Ly_connect_93 rfl (lv_at hl 0 rfl) ?_
      have hM41 := (hfm i (by omega)).2
      refine px_aald (i := i) (x := (some (ad13 (20 + n) (10 + 10 * i)))) hx hb hK.1 hP m_22 hcA1 6 rfl ((hfm i (by omega)).1) (by omega) (by omega) xd_Ly_connect_94 ?_
      obtain ⟨hm_42, d_42, rs_42, fr_42, g2_42, g3_42, g4_42, hd_42, hrs_42, q0_42, q1_42, q2_42, q3_42, q4_42, q5_42, q6_42, q7_42⟩ := id hM41
      have c_43 : E5 (20 + n) (10 + 10 * i) = .inr (6, [.ref (ad13 (20 + n) 0), .ref (ad13 (1 + d_42) 0), .ref (ad13 (20 + n) (11 + 10 * i)), .ref (ad13 (20 + n) (12 + 10 * i)), .ref (ad13 (20 + n) (13 + 10 * i)), .ref (ad13 (20 + n) (14 + 10 * i))]) := q0_42
      have m_44 : (20 + n, 10 + 10 * i) ∈ RL15 := hm_42 0 (by omega)
      have c_45 : E5 (20 + n) (11 + 10 * i) = .inl (kA 6, rs_42, .inr (.inr (.inr (.inr fr_42)))) := q1_42
      have m_46 : (20 + n, 11 + 10 * i) ∈ RL15 := hm_42 1 (by omega)
      have c_47 : E5 (20 + n) (12 + 10 * i) = .inr (10, [.ref (ad13 (20 + n) (15 + 10 * i))]) := q2_42
      have m_48 : (20 + n, 12 + 10 * i) ∈ RL15 := hm_42 2 (by omega)
      have c_49 : E5 (20 + n) (13 + 10 * i) = .inr (10, [.ref (ad13 (20 + n) (16 + 10 * i))]) := q3_42
      have m_50 : (20 + n, 13 + 10 * i) ∈ RL15 := hm_42 3 (by omega)
      have c_51 : E5 (20 + n) (14 + 10 * i) = .inr (10, [.ref (ad13 (20 + n) (17 + 10 * i))]) := q4_42
      have m_52 : (20 + n, 14 + 10 * i) ∈ RL15 := hm_42 4 (by omega)
      have c_53 : E5 (20 + n) (15 + 10 * i) = .inl (kA 0, 6, .inl g2_42) := q5_42
      have m_54 : (20 + n, 15 + 10 * i) ∈ RL15 := hm_42 5 (by omega)
      have c_55 : E5 (20 + n) (16 + 10 * i) = .inl (kA 0, 6, .inl g3_42) := q6_42
      have m_56 : (20 + n, 16 + 10 * i) ∈ RL15 := hm_42 6 (by omega)
      have c_57 : E5 (20 + n) (17 + 10 * i) = .inl (kA 0, 6, .inl g4_42) := q7_42
      have m_58 : (20 + n, 17 + 10 * i) ∈ RL15 := hm_42 7 (by omega)
      have hFc := px_free hD hS hA
      refine va_callv (va_runV (As := []) (rest := []) ⟨hx, hb, hml, hown, hT⟩ (xc_Me_settleReading l D kA H.size ad13 E5 RL15 nd nL n i d_42 rs_42 fr_42 g4_42 g3_42 m_44 c_43 m_46 c_45 m_50 c_49 m_52 c_51 m_58 c_57 m_56 c_55 (by first | assumption | omega) (by first | assumption | omega) (by first | assumption | omega) (by first | assumption | omega) (by first | assumption | omega) (by first | assumption | omega) (by first | assumption | omega) (RQ_cel2 (hRQs i (by omega)) c_45)) (cwV 0 hT (wT_V yt_8 yt_9 yt_10 yt_11 yt_7) rfl rfl rfl (by decide +kernel) ⟨Nat.le_of_ble_eq_true rfl, Nat.le_of_ble_eq_true rfl⟩) (px_preV hK hP hD m_44 c_43 rfl) rfl rfl hl.1 rfl (lv_room (Nat.le_of_ble_eq_true rfl)) xd_Ly_connect_95 ⟨(Nat.le_of_ble_eq_true rfl), (Nat.le_of_ble_eq_true rfl)⟩) hS (fun q _ h => hFc q h) hFc (fun u60 t H1 locs ht hvm hp61 hB hz1 hk1 hS => ?_)
      obtain ⟨hP1, hD1⟩ := hB
      rw [ht] at hP1
      have hD1 := hD1.weaken (fun _ _ _ h => hFc _ h)
      generalize H1 = H at hP1 hS ⊢
      have hP := hP1
      have hD := hD1
      obtain ⟨E62, rfl⟩ : ∃ z, z = u60 := ⟨_, rfl⟩
      obtain ⟨w63, hp66, p_64, p_65⟩ := hp61
      have p_64 : E62 (20 + n) (17 + 10 * i) = .inl (kA 0, 6, .inl w63) := p_64
      have p_65 : (∀ b2 o2, ¬ (b2 = 20 + n ∧ o2 = 17 + 10 * i) → E62 b2 o2 = E5 b2 o2) := p_65
      have c_67 : E62 (20 + n) 0 = .inr (5, [.int (nI n), pv, .ref (ad13 (20 + n) 1), .int lo]) := (p_65 (20 + n) 0 (by omega)).trans hcA0
      have c_68 : E62 (20 + n) 1 = .inl (kA 6, mk, .inr (.inr (.inr (.inr fm)))) := (p_65 (20 + n) 1 (by omega)).trans hcA1
      have c_69 : E62 (20 + n) (10 + 10 * i) = .inr (6, [.ref (ad13 (20 + n) 0), .ref (ad13 (1 + d_42) 0), .ref (ad13 (20 + n) (11 + 10 * i)), .ref (ad13 (20 + n) (12 + 10 * i)), .ref (ad13 (20 + n) (13 + 10 * i)), .ref (ad13 (20 + n) (14 + 10 * i))]) := (p_65 (20 + n) (10 + 10 * i) (by omega)).trans c_43
      have c_70 : E62 (20 + n) (11 + 10 * i) = .inl (kA 6, rs_42, .inr (.inr (.inr (.inr fr_42)))) := (p_65 (20 + n) (11 + 10 * i) (by omega)).trans c_45
      have c_71 : E62 (20 + n) (12 + 10 * i) = .inr (10, [.ref (ad13 (20 + n) (15 + 10 * i))]) := (p_65 (20 + n) (12 + 10 * i) (by omega)).trans c_47
      have c_72 : E62 (20 + n) (13 + 10 * i) = .inr (10, [.ref (ad13 (20 + n) (16 + 10 * i))]) := (p_65 (20 + n) (13 + 10 * i) (by omega)).trans c_49
      have c_73 : E62 (20 + n) (14 + 10 * i) = .inr (10, [.ref (ad13 (20 + n) (17 + 10 * i))]) := (p_65 (20 + n) (14 + 10 * i) (by omega)).trans c_51
      have c_74 : E62 (20 + n) (15 + 10 * i) = .inl (kA 0, 6, .inl g2_42) := (p_65 (20 + n) (15 + 10 * i) (by omega)).trans c_53
      have c_75 : E62 (20 + n) (16 + 10 * i) = .inl (kA 0, 6, .inl g3_42) := (p_65 (20 + n) (16 + 10 * i) (by omega)).trans c_55
      have hP : va_P D xcl (rp ad13 E62 RL15) H := hP
      have hD : va_D A (rp ad13 E62 RL15) := hD
      have hRI9 : RI kA (20 + n) E5 E62 := RI.row c_57 p_64 p_65
      have hDIs := DIs_RU hRI9.ru hnd12 hDIs
      have hLIs := LIs_RU hRI9.ru hLIs
      have hfm : ∀ k, k < mk → fm k = some (ad13 (20 + n) (10 + 10 * k)) ∧ MEI kA ad13 E62 RL15 nd n k := fun k h => ⟨(hfm k h).1, MEI_RU hRI9.ru (hfm k h).2⟩
      have hRQs : ∀ j, j < mk → ∃ (rs : Nat) (fr : Nat → Option Nat), E62 (20 + n) (11 + 10 * j) = .inl (kA 6, rs, .inr (.inr (.inr (.inr fr)))) ∧ RQ kA ad13 E62 RL15 nd n rs fr := fun j hj => by obtain ⟨rs9, fr9, q3, q4⟩ := hRQs j hj; exact ⟨rs9, fr9, hRI9.arr q3, RQ_RU hRI9.ru q4⟩
      refine lv_iinc (k := 0) (x := (nI i)) (v := (nI (i + 1))) hx hb xd_Ly_connect_98 hl rfl (xb_inc i 1) (Nat.le_of_ble_eq_true rfl) rfl (fun ls hl => ?_)
      have hl : lv_has ls 4 [(3, .int (nI (i + 1))), (0, .ref (ad13 (20 + n) 0))] := hl
      refine lv_goto (tgt := 80) hx hb xd_Ly_connect_101 (by decide) ?_
      exact ih39 (i + 1, E62) _ _ _ (show mk - (i + 1) < mk - i by omega) (lv_sub hl [0, 1] rfl) hP hD hS ⟨(show (i + 1) ≤ mk from by first | assumption | omega), (show E62 (20 + n) 0 = .inr (5, [.int (nI n), pv, .ref (ad13 (20 + n) 1), .int lo]) from c_67), (show E62 (20 + n) 1 = .inl (kA 6, mk, .inr (.inr (.inr (.inr fm)))) from c_68), (show ∀ b2 o2, ¬ (b2 = 20 + n) → E62 b2 o2 = E b2 o2 from fun b2 o2 h09 => by show E62 b2 o2 = _; rw [p_65 b2 o2 (by omega), hfr b2 o2 (by omega)]), (show DIs kA ad13 E62 RL15 nd from hDIs), (show LIs kA ad13 E62 RL15 nd nL from hLIs), (show ∀ k, k < mk → fm k = some (ad13 (20 + n) (10 + 10 * k)) ∧ MEI kA ad13 E62 RL15 nd n k from hfm), (show ∀ j, j < mk → ∃ (rs : Nat) (fr : Nat → Option Nat), E62 (20 + n) (11 + 10 * j) = .inl (kA 6, rs, .inr (.inr (.inr (.inr fr)))) ∧ RQ kA ad13 E62 RL15 nd n rs fr from hRQs)⟩
  · refine lv_aload_n hx hb xd_Ly_connect_29 rfl (lv_at hl 3 rfl) ?_
    refine px_get (D := D) (ci := 5) (v := .ref (ad13 (20 + n) 1)) (C := xR_Ly) (T := xT_Ly) (N := 4) hx hb hT xi_Ly hown hK.1 hP m_21 hcA0 rfl 2 (by decide) (hT _ yt_0) (fun _ h9 => h9) rfl xd_Ly_connect_30 ?_
    refine lv_iload_n hx hb xd_Ly_connect_33 rfl (lv_at hl 0 rfl) ?_
    have hM76 := (hfm i (by omega)).2
    refine px_aald (i := i) (x := (some (ad13 (20 + n) (10 + 10 * i)))) hx hb hK.1 hP m_22 hcA1 6 rfl ((hfm i (by omega)).1) (by omega) (by omega) xd_Ly_connect_34 ?_
    obtain ⟨hm_77, d_77, rs_77, fr_77, g2_77, g3_77, g4_77, hd_77, hrs_77, q0_77, q1_77, q2_77, q3_77, q4_77, q5_77, q6_77, q7_77⟩ := id hM76
    have c_78 : E1 (20 + n) (10 + 10 * i) = .inr (6, [.ref (ad13 (20 + n) 0), .ref (ad13 (1 + d_77) 0), .ref (ad13 (20 + n) (11 + 10 * i)), .ref (ad13 (20 + n) (12 + 10 * i)), .ref (ad13 (20 + n) (13 + 10 * i)), .ref (ad13 (20 + n) (14 + 10 * i))]) := q0_77
    have m_79 : (20 + n, 10 + 10 * i) ∈ RL15 := hm_77 0 (by omega)
    have c_80 : E1 (20 + n) (11 + 10 * i) = .inl (kA 6, rs_77, .inr (.inr (.inr (.inr fr_77)))) := q1_77
    have m_81 : (20 + n, 11 + 10 * i) ∈ RL15 := hm_77 1 (by omega)
    have c_82 : E1 (20 + n) (12 + 10 * i) = .inr (10, [.ref (ad13 (20 + n) (15 + 10 * i))]) := q2_77
    have m_83 : (20 + n, 12 + 10 * i) ∈ RL15 := hm_77 2 (by omega)
    have c_84 : E1 (20 + n) (13 + 10 * i) = .inr (10, [.ref (ad13 (20 + n) (16 + 10 * i))]) := q3_77
    have m_85 : (20 + n, 13 + 10 * i) ∈ RL15 := hm_77 3 (by omega)
    have c_86 : E1 (20 + n) (14 + 10 * i) = .inr (10, [.ref (ad13 (20 + n) (17 + 10 * i))]) := q4_77
    have m_87 : (20 + n, 14 + 10 * i) ∈ RL15 := hm_77 4 (by omega)
    have c_88 : E1 (20 + n) (15 + 10 * i) = .inl (kA 0, 6, .inl g2_77) := q5_77
    have m_89 : (20 + n, 15 + 10 * i) ∈ RL15 := hm_77 5 (by omega)
    have c_90 : E1 (20 + n) (16 + 10 * i) = .inl (kA 0, 6, .inl g3_77) := q6_77
    have m_91 : (20 + n, 16 + 10 * i) ∈ RL15 := hm_77 6 (by omega)
    have c_92 : E1 (20 + n) (17 + 10 * i) = .inl (kA 0, 6, .inl g4_77) := q7_77
    have m_93 : (20 + n, 17 + 10 * i) ∈ RL15 := hm_77 7 (by omega)
    have hFc := px_free hD hS hA
    refine va_callv (va_runV (As := []) (rest := []) ⟨hx, hb, hml, hown, hT⟩ (xc_Me_takeFirstSteps l D kA H.size ad13 E1 RL15 nd nL n i d_77 rs_77 fr_77 g2_77 g3_77 m_79 c_78 m_81 c_80 m_83 c_82 m_85 c_84 m_89 c_88 m_91 c_90 (by first | assumption | omega) (by first | assumption | omega) (by first | assumption | omega) (by first | assumption | omega) (by first | assumption | omega) (by first | assumption | omega) (by first | assumption | omega)) (cwV 0 hT (wT_V yt_13 yt_14 yt_15 yt_11 yt_12) rfl rfl rfl (by decide +kernel) ⟨Nat.le_of_ble_eq_true rfl, Nat.le_of_ble_eq_true rfl⟩) (px_preV hK hP hD m_79 c_78 rfl) rfl rfl hl.1 rfl (lv_room (Nat.le_of_ble_eq_true rfl)) xd_Ly_connect_35 ⟨(Nat.le_of_ble_eq_true rfl), (Nat.le_of_ble_eq_true rfl)⟩) hS (fun q _ h => hFc q h) hFc (fun u95 t H1 locs ht hvm hp96 hB hz1 hk1 hS => ?_)
    obtain ⟨hP1, hD1⟩ := hB
    rw [ht] at hP1
    have hD1 := hD1.weaken (fun _ _ _ h => hFc _ h)
    generalize H1 = H at hP1 hS ⊢
    have hP := hP1
    have hD := hD1
    obtain ⟨E97, rfl⟩ : ∃ z, z = u95 := ⟨_, rfl⟩
    obtain ⟨w98, w99, w100, hp105, p_101, p_102, p_103, p_104⟩ := hp96
    have p_101 : E97 (20 + n) (11 + 10 * i) = .inl (kA 6, rs_77, .inr (.inr (.inr (.inr w98)))) := p_101
    have p_102 : E97 (20 + n) (15 + 10 * i) = .inl (kA 0, 6, .inl w99) := p_102
    have p_103 : E97 (20 + n) (16 + 10 * i) = .inl (kA 0, 6, .inl w100) := p_103
    have p_104 : (∀ b2 o2, ¬ (b2 = 20 + n ∧ o2 = 11 + 10 * i) → ¬ (b2 = 20 + n ∧ o2 = 15 + 10 * i) → ¬ (b2 = 20 + n ∧ o2 = 16 + 10 * i) → E97 b2 o2 = E1 b2 o2) := p_104
    have c_106 : E97 (20 + n) 0 = .inr (5, [.int (nI n), pv, .ref (ad13 (20 + n) 1), .int lo]) := (p_104 (20 + n) 0 (by omega) (by omega) (by omega)).trans hcA0
    have c_107 : E97 (20 + n) 1 = .inl (kA 6, mk, .inr (.inr (.inr (.inr fm)))) := (p_104 (20 + n) 1 (by omega) (by omega) (by omega)).trans hcA1
    have c_108 : E97 (20 + n) 2 = .inl (kA 7, mk, .inr (.inr (.inr (.inr fl1)))) := (p_104 (20 + n) 2 (by omega) (by omega) (by omega)).trans hcA2
    have c_109 : E97 (20 + n) 3 = .inl (kA 7, mk, .inr (.inr (.inr (.inr fc1)))) := (p_104 (20 + n) 3 (by omega) (by omega) (by omega)).trans hcA3
    have c_110 : E97 (20 + n) (10 + 10 * i) = .inr (6, [.ref (ad13 (20 + n) 0), .ref (ad13 (1 + d_77) 0), .ref (ad13 (20 + n) (11 + 10 * i)), .ref (ad13 (20 + n) (12 + 10 * i)), .ref (ad13 (20 + n) (13 + 10 * i)), .ref (ad13 (20 + n) (14 + 10 * i))]) := (p_104 (20 + n) (10 + 10 * i) (by omega) (by omega) (by omega)).trans c_78
    have c_111 : E97 (20 + n) (12 + 10 * i) = .inr (10, [.ref (ad13 (20 + n) (15 + 10 * i))]) := (p_104 (20 + n) (12 + 10 * i) (by omega) (by omega) (by omega)).trans c_82
    have c_112 : E97 (20 + n) (13 + 10 * i) = .inr (10, [.ref (ad13 (20 + n) (16 + 10 * i))]) := (p_104 (20 + n) (13 + 10 * i) (by omega) (by omega) (by omega)).trans c_84
    have c_113 : E97 (20 + n) (14 + 10 * i) = .inr (10, [.ref (ad13 (20 + n) (17 + 10 * i))]) := (p_104 (20 + n) (14 + 10 * i) (by omega) (by omega) (by omega)).trans c_86
    have c_114 : E97 (20 + n) (17 + 10 * i) = .inl (kA 0, 6, .inl g4_77) := (p_104 (20 + n) (17 + 10 * i) (by omega) (by omega) (by omega)).trans c_92
    have hP : va_P D xcl (rp ad13 E97 RL15) H := hP
    have hD : va_D A (rp ad13 E97 RL15) := hD
    have hRU9 : RU kA E1 E97 := RU3 (b := 20 + n) (k := i) (by omega) c_80 c_88 c_90 p_101 p_102 p_103 p_104
    have hDIs := DIs_RU hRU9 hnd12 hDIs
    have hLIs := LIs_RU hRU9 hLIs
    have hfm : ∀ k, k < mk → fm k = some (ad13 (20 + n) (10 + 10 * k)) ∧ MEI kA ad13 E97 RL15 nd n k := fun k h => ⟨(hfm k h).1, MEI_RU hRU9 (hfm k h).2⟩
    have hdone : ∀ j, j < i → fl1 j = some (ad13 (20 + n) (12 + 10 * j)) ∧ fc1 j = some (ad13 (20 + n) (13 + 10 * j)) ∧ ∃ (rs : Nat) (fr : Nat → Option Nat), E97 (20 + n) (11 + 10 * j) = .inl (kA 6, rs, .inr (.inr (.inr (.inr fr)))) ∧ RQ kA ad13 E97 RL15 nd n rs fr := fun j hj => by obtain ⟨q1, q2, rs9, fr9, q3, q4⟩ := hdone j hj; exact ⟨q1, q2, rs9, fr9, (p_104 (20 + n) (11 + 10 * j) (by omega) (by omega) (by omega)).trans q3, RQ_RU hRU9 q4⟩
    have hRQn := hp105
    refine lv_aload_n hx hb xd_Ly_connect_38 rfl (lv_at hl 2 rfl) ?_
    refine lv_iload_n hx hb xd_Ly_connect_39 rfl (lv_at hl 0 rfl) ?_
    refine lv_aload_n hx hb xd_Ly_connect_40 rfl (lv_at hl 3 rfl) ?_
    refine px_get (D := D) (ci := 5) (v := .ref (ad13 (20 + n) 1)) (C := xR_Ly) (T := xT_Ly) (N := 4) hx hb hT xi_Ly hown hK.1 hP m_21 c_106 rfl 2 (by decide) (hT _ yt_0) (fun _ h9 => h9) rfl xd_Ly_connect_41 ?_
    refine lv_iload_n hx hb xd_Ly_connect_44 rfl (lv_at hl 0 rfl) ?_
    refine px_aald (i := i) (x := (some (ad13 (20 + n) (10 + 10 * i)))) hx hb hK.1 hP m_22 c_107 6 rfl ((hfm i (by omega)).1) (by omega) (by omega) xd_Ly_connect_45 ?_
    refine px_get (D := D) (ci := 6) (v := .ref (ad13 (20 + n) (12 + 10 * i))) (C := xR_Me) (T := xT_Me) (N := 6) hx hb hT xi_Me hown hK.1 hP m_79 c_110 rfl 3 (by decide) (hT _ yt_16) (fun _ h9 => h9) rfl xd_Ly_connect_46 ?_
    refine px_aast (i := i) (r := (xR_Re, xT_Re, 1)) hx hb hK.1 hP hD hS m_23 c_108 7 rfl m_83 c_111 rfl (by omega) (by omega) xd_Ly_connect_49 (fun H locs hP hD hS => ?_)
    have hP : va_P D xcl (rp ad13 (up2 E97 (20 + n) 2 (.inl (kA 7, mk, .inr (.inr (.inr (.inr (va_up fl1 i (some (ad13 (20 + n) (12 + 10 * i)))))))))) RL15) H := hP
    have hD : va_D A (rp ad13 (up2 E97 (20 + n) 2 (.inl (kA 7, mk, .inr (.inr (.inr (.inr (va_up fl1 i (some (ad13 (20 + n) (12 + 10 * i)))))))))) RL15) := hD
    generalize hE116 : up2 E97 (20 + n) 2 (.inl (kA 7, mk, .inr (.inr (.inr (.inr (va_up fl1 i (some (ad13 (20 + n) (12 + 10 * i))))))))) = E115 at hP hD
    have fE117 : ∀ b2 o2, ¬ (b2 = 20 + n ∧ o2 = 2) → E115 b2 o2 = E97 b2 o2 := fun b2 o2 h9 => by rw [← hE116]; exact up2_ne (by omega)
    have c_118 : E115 (20 + n) 2 = .inl (kA 7, mk, .inr (.inr (.inr (.inr (va_up fl1 i (some (ad13 (20 + n) (12 + 10 * i)))))))) := by rw [← hE116]; exact up2_eq
    have c_119 : E115 (20 + n) (11 + 10 * i) = .inl (kA 6, rs_77, .inr (.inr (.inr (.inr w98)))) := (fE117 (20 + n) (11 + 10 * i) (by omega)).trans p_101
    have c_120 : E115 (20 + n) (15 + 10 * i) = .inl (kA 0, 6, .inl w99) := (fE117 (20 + n) (15 + 10 * i) (by omega)).trans p_102
    have c_121 : E115 (20 + n) (16 + 10 * i) = .inl (kA 0, 6, .inl w100) := (fE117 (20 + n) (16 + 10 * i) (by omega)).trans p_103
    have c_122 : E115 (20 + n) 0 = .inr (5, [.int (nI n), pv, .ref (ad13 (20 + n) 1), .int lo]) := (fE117 (20 + n) 0 (by omega)).trans c_106
    have c_123 : E115 (20 + n) 1 = .inl (kA 6, mk, .inr (.inr (.inr (.inr fm)))) := (fE117 (20 + n) 1 (by omega)).trans c_107
    have c_124 : E115 (20 + n) 3 = .inl (kA 7, mk, .inr (.inr (.inr (.inr fc1)))) := (fE117 (20 + n) 3 (by omega)).trans c_109
    have c_125 : E115 (20 + n) (10 + 10 * i) = .inr (6, [.ref (ad13 (20 + n) 0), .ref (ad13 (1 + d_77) 0), .ref (ad13 (20 + n) (11 + 10 * i)), .ref (ad13 (20 + n) (12 + 10 * i)), .ref (ad13 (20 + n) (13 + 10 * i)), .ref (ad13 (20 + n) (14 + 10 * i))]) := (fE117 (20 + n) (10 + 10 * i) (by omega)).trans c_110
    have c_126 : E115 (20 + n) (12 + 10 * i) = .inr (10, [.ref (ad13 (20 + n) (15 + 10 * i))]) := (fE117 (20 + n) (12 + 10 * i) (by omega)).trans c_111
    have c_127 : E115 (20 + n) (13 + 10 * i) = .inr (10, [.ref (ad13 (20 + n) (16 + 10 * i))]) := (fE117 (20 + n) (13 + 10 * i) (by omega)).trans c_112
    have c_128 : E115 (20 + n) (14 + 10 * i) = .inr (10, [.ref (ad13 (20 + n) (17 + 10 * i))]) := (fE117 (20 + n) (14 + 10 * i) (by omega)).trans c_113
    have c_129 : E115 (20 + n) (17 + 10 * i) = .inl (kA 0, 6, .inl g4_77) := (fE117 (20 + n) (17 + 10 * i) (by omega)).trans c_114
    refine lv_aload_n hx hb xd_Ly_connect_50 rfl (lv_at hl 1 rfl) ?_
    refine lv_iload_n hx hb xd_Ly_connect_51 rfl (lv_at hl 0 rfl) ?_
    refine lv_aload_n hx hb xd_Ly_connect_52 rfl (lv_at hl 3 rfl) ?_
    refine px_get (D := D) (ci := 5) (v := .ref (ad13 (20 + n) 1)) (C := xR_Ly) (T := xT_Ly) (N := 4) hx hb hT xi_Ly hown hK.1 hP m_21 c_122 rfl 2 (by decide) (hT _ yt_0) (fun _ h9 => h9) rfl xd_Ly_connect_53 ?_
    refine lv_iload_n hx hb xd_Ly_connect_56 rfl (lv_at hl 0 rfl) ?_
    refine px_aald (i := i) (x := (some (ad13 (20 + n) (10 + 10 * i)))) hx hb hK.1 hP m_22 c_123 6 rfl ((hfm i (by omega)).1) (by omega) (by omega) xd_Ly_connect_57 ?_
    refine px_get (D := D) (ci := 6) (v := .ref (ad13 (20 + n) (13 + 10 * i))) (C := xR_Me) (T := xT_Me) (N := 6) hx hb hT xi_Me hown hK.1 hP m_79 c_125 rfl 4 (by decide) (hT _ yt_17) (fun _ h9 => h9) rfl xd_Ly_connect_58 ?_
    refine px_aast (i := i) (r := (xR_Re, xT_Re, 1)) hx hb hK.1 hP hD hS m_20 c_124 7 rfl m_85 c_127 rfl (by omega) (by omega) xd_Ly_connect_61 (fun H locs hP hD hS => ?_)
    have hP : va_P D xcl (rp ad13 (up2 E115 (20 + n) 3 (.inl (kA 7, mk, .inr (.inr (.inr (.inr (va_up fc1 i (some (ad13 (20 + n) (13 + 10 * i)))))))))) RL15) H := hP
    have hD : va_D A (rp ad13 (up2 E115 (20 + n) 3 (.inl (kA 7, mk, .inr (.inr (.inr (.inr (va_up fc1 i (some (ad13 (20 + n) (13 + 10 * i)))))))))) RL15) := hD
    generalize hE131 : up2 E115 (20 + n) 3 (.inl (kA 7, mk, .inr (.inr (.inr (.inr (va_up fc1 i (some (ad13 (20 + n) (13 + 10 * i))))))))) = E130 at hP hD
    have fE132 : ∀ b2 o2, ¬ (b2 = 20 + n ∧ o2 = 3) → E130 b2 o2 = E115 b2 o2 := fun b2 o2 h9 => by rw [← hE131]; exact up2_ne (by omega)
    have c_133 : E130 (20 + n) 3 = .inl (kA 7, mk, .inr (.inr (.inr (.inr (va_up fc1 i (some (ad13 (20 + n) (13 + 10 * i)))))))) := by rw [← hE131]; exact up2_eq
    have c_134 : E130 (20 + n) 2 = .inl (kA 7, mk, .inr (.inr (.inr (.inr (va_up fl1 i (some (ad13 (20 + n) (12 + 10 * i)))))))) := (fE132 (20 + n) 2 (by omega)).trans c_118
    have c_135 : E130 (20 + n) (11 + 10 * i) = .inl (kA 6, rs_77, .inr (.inr (.inr (.inr w98)))) := (fE132 (20 + n) (11 + 10 * i) (by omega)).trans c_119
    have c_136 : E130 (20 + n) (15 + 10 * i) = .inl (kA 0, 6, .inl w99) := (fE132 (20 + n) (15 + 10 * i) (by omega)).trans c_120
    have c_137 : E130 (20 + n) (16 + 10 * i) = .inl (kA 0, 6, .inl w100) := (fE132 (20 + n) (16 + 10 * i) (by omega)).trans c_121
    have c_138 : E130 (20 + n) 0 = .inr (5, [.int (nI n), pv, .ref (ad13 (20 + n) 1), .int lo]) := (fE132 (20 + n) 0 (by omega)).trans c_122
    have c_139 : E130 (20 + n) 1 = .inl (kA 6, mk, .inr (.inr (.inr (.inr fm)))) := (fE132 (20 + n) 1 (by omega)).trans c_123
    have c_140 : E130 (20 + n) (10 + 10 * i) = .inr (6, [.ref (ad13 (20 + n) 0), .ref (ad13 (1 + d_77) 0), .ref (ad13 (20 + n) (11 + 10 * i)), .ref (ad13 (20 + n) (12 + 10 * i)), .ref (ad13 (20 + n) (13 + 10 * i)), .ref (ad13 (20 + n) (14 + 10 * i))]) := (fE132 (20 + n) (10 + 10 * i) (by omega)).trans c_125
    have c_141 : E130 (20 + n) (12 + 10 * i) = .inr (10, [.ref (ad13 (20 + n) (15 + 10 * i))]) := (fE132 (20 + n) (12 + 10 * i) (by omega)).trans c_126
    have c_142 : E130 (20 + n) (13 + 10 * i) = .inr (10, [.ref (ad13 (20 + n) (16 + 10 * i))]) := (fE132 (20 + n) (13 + 10 * i) (by omega)).trans c_127
    have c_143 : E130 (20 + n) (14 + 10 * i) = .inr (10, [.ref (ad13 (20 + n) (17 + 10 * i))]) := (fE132 (20 + n) (14 + 10 * i) (by omega)).trans c_128
    have c_144 : E130 (20 + n) (17 + 10 * i) = .inl (kA 0, 6, .inl g4_77) := (fE132 (20 + n) (17 + 10 * i) (by omega)).trans c_129
    refine lv_iinc (k := 0) (x := (nI i)) (v := (nI (i + 1))) hx hb xd_Ly_connect_62 hl rfl (xb_inc i 1) (Nat.le_of_ble_eq_true rfl) rfl (fun ls hl => ?_)
    have hl : lv_has ls 4 [(3, .int (nI (i + 1))), (2, .ref (ad13 (20 + n) 3)), (1, .ref (ad13 (20 + n) 2)), (0, .ref (ad13 (20 + n) 0))] := hl
    refine lv_goto (tgt := 20) hx hb xd_Ly_connect_65 (by decide) ?_
    exact ih29 (i + 1, E130, (va_up fl1 i (some (ad13 (20 + n) (12 + 10 * i)))), (va_up fc1 i (some (ad13 (20 + n) (13 + 10 * i))))) _ _ _ (show mk - (i + 1) < mk - i by omega) (lv_sub hl [0, 1, 2, 3] rfl) hP hD hS ⟨(show (i + 1) ≤ mk from by first | assumption | omega), (show E130 (20 + n) 0 = .inr (5, [.int (nI n), pv, .ref (ad13 (20 + n) 1), .int lo]) from c_138), (show E130 (20 + n) 1 = .inl (kA 6, mk, .inr (.inr (.inr (.inr fm)))) from c_139), (show E130 (20 + n) 2 = .inl (kA 7, mk, .inr (.inr (.inr (.inr (va_up fl1 i (some (ad13 (20 + n) (12 + 10 * i)))))))) from c_134), (show E130 (20 + n) 3 = .inl (kA 7, mk, .inr (.inr (.inr (.inr (va_up fc1 i (some (ad13 (20 + n) (13 + 10 * i)))))))) from c_133), (show ∀ b2 o2, ¬ (b2 = 20 + n) → E130 b2 o2 = E b2 o2 from fun b2 o2 h09 => by show E130 b2 o2 = _; rw [fE132 b2 o2 (by omega), fE117 b2 o2 (by omega), p_104 b2 o2 (by omega) (by omega) (by omega), hfr b2 o2 (by omega)]), (show DIs kA ad13 E130 RL15 nd from DIs_23 (show R23 n E97 E130 from fun b2 o2 h9 => by rw [fE132 b2 o2 (by omega), fE117 b2 o2 (by omega)]) (fun _ _ _ => rfl) (fun _ h => h) hnd12 hDIs), (show LIs kA ad13 E130 RL15 nd nL from LIs_23 (show R23 n E97 E130 from fun b2 o2 h9 => by rw [fE132 b2 o2 (by omega), fE117 b2 o2 (by omega)]) (fun _ _ _ => rfl) (fun _ h => h) hLIs), (show ∀ k, k < mk → fm k = some (ad13 (20 + n) (10 + 10 * k)) ∧ MEI kA ad13 E130 RL15 nd n k from fun k h => ⟨(hfm k h).1, MEI_23 (show R23 n E97 E130 from fun b2 o2 h9 => by rw [fE132 b2 o2 (by omega), fE117 b2 o2 (by omega)]) (fun _ _ _ => rfl) (fun _ h => h) (hfm k h).2⟩), (show ∀ j, j < (i + 1) → (va_up fl1 i (some (ad13 (20 + n) (12 + 10 * i)))) j = some (ad13 (20 + n) (12 + 10 * j)) ∧ (va_up fc1 i (some (ad13 (20 + n) (13 + 10 * i)))) j = some (ad13 (20 + n) (13 + 10 * j)) ∧ ∃ (rs : Nat) (fr : Nat → Option Nat), E130 (20 + n) (11 + 10 * j) = .inl (kA 6, rs, .inr (.inr (.inr (.inr fr)))) ∧ RQ kA ad13 E130 RL15 nd n rs fr from fun j hj => by
          have h23 := (show R23 n E97 E130 from fun b2 o2 h9 => by rw [fE132 b2 o2 (by omega), fE117 b2 o2 (by omega)])
          by_cases q : j = i
          · subst q; exact ⟨vu_eq, vu_eq, rs_77, w98, c_135, RQ_23 h23 hRQn⟩
          · obtain ⟨q1, q2, rs9, fr9, q3, q4⟩ := hdone j (by omega); exact ⟨(vu_ne q).trans q1, (vu_ne q).trans q2, rs9, fr9, (show E130 (20 + n) (11 + 10 * j) = E97 (20 + n) (11 + 10 * j) from by rw [fE132 (20 + n) (11 + 10 * j) (by omega), fE117 (20 + n) (11 + 10 * j) (by omega)]).trans q3, RQ_23 h23 q4⟩)⟩
