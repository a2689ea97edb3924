theorem k5t_0 : (Cond.fieldLink "LayerDesk$Layer" 19 "LayerDesk$Layer" "members" "[LLayerDesk$Member;") ∈ wT := wT_t (List.mem_append_right _ (List.mem_append_right _ (List.mem_append_left _ (List.mem_of_getElem? (i := 147) rfl)))) rfl
theorem k5t_1 : (Cond.code xy_Re_marks xb_Re_marks 2 (some .boolean)) ∈ wT := wT_t (List.mem_append_left _ (List.mem_of_getElem? (i := 177) rfl)) rfl
theorem k5t_2 : (Cond.methodLink "LayerDesk$Layer" 66 xy_Re_marks) ∈ wT := wT_t (List.mem_append_right _ (List.mem_append_right _ (List.mem_append_left _ (List.mem_of_getElem? (i := 230) rfl)))) rfl
theorem k5t_3 : (Cond.instanceMethod xy_Re_marks) ∈ wT := wT_t (List.mem_append_left _ (List.mem_of_getElem? (i := 175) rfl)) rfl
theorem k5t_4 : (Cond.selects "LayerDesk$Reach" xy_Re_marks xy_Re_marks) ∈ wT := wT_t (List.mem_append_left _ (List.mem_of_getElem? (i := 176) rfl)) rfl
theorem k5t_5 : (Cond.initialized "LayerDesk$Reach") ∈ wT := wT_t (List.mem_append_left _ (List.mem_of_getElem? (i := 21) rfl)) rfl
theorem k5t_6 : (Cond.code xy_Re_join xb_Re_join 3 none) ∈ wT := wT_t (List.mem_append_right _ (List.mem_append_right _ (List.mem_append_left _ (List.mem_of_getElem? (i := 225) rfl)))) rfl
theorem k5t_7 : (Cond.methodLink "LayerDesk$Layer" 73 xy_Re_join) ∈ wT := wT_t (List.mem_append_right _ (List.mem_append_right _ (List.mem_append_left _ (List.mem_of_getElem? (i := 231) rfl)))) rfl
theorem k5t_8 : (Cond.instanceMethod xy_Re_join) ∈ wT := wT_t (List.mem_append_right _ (List.mem_append_right _ (List.mem_append_left _ (List.mem_of_getElem? (i := 223) rfl)))) rfl
theorem k5t_9 : (Cond.selects "LayerDesk$Reach" xy_Re_join xy_Re_join) ∈ wT := wT_t (List.mem_append_right _ (List.mem_append_right _ (List.mem_append_left _ (List.mem_of_getElem? (i := 224) rfl)))) rfl
set_option maxHeartbeats 4000000 in
set_option maxRecDepth 100000 in
theorem xc_Ly_followLX (l : Launch) (D : va_G) (kA : Nat → ClassId) (sz : Nat) (ad : Nat → Nat → Nat) (E : Nat → Nat → va_E) (RL : List (Nat × Nat)) (g : Nat → Nat → Int32) (nd : Nat) (nL : Nat) (n : Nat) (pv : Value) (lo : Int32) (mk : Nat) (fm : Nat → Option Nat) (fs : Nat → Option Nat) (ym0 : (20 + n, 0) ∈ RL) (yc0 : E (20 + n) 0 = .inr (5, [.int (nI n), pv, .ref (ad (20 + n) 1), .int lo])) (ym1 : (20 + n, 1) ∈ RL) (yc1 : E (20 + n) 1 = .inl (kA 6, mk, .inr (.inr (.inr (.inr fm))))) (ym2 : (20 + n, 2) ∈ RL) (yc2 : E (20 + n) 2 = .inl (kA 7, mk, .inr (.inr (.inr (.inr fs))))) (hDIs : DIs kA ad E RL nd) (hLIs : LIs kA ad E RL nd nL) (hnd12 : nd ≤ 12) (hnL : nL ≤ 6) (hn : n < nL) (hmk : mk ≤ 12) (hfm : ∀ k, k < mk → fm k = some (ad (20 + n) (10 + 10 * k)) ∧ MEI kA ad E RL nd n k) (hfs : ∀ k, k < mk → fs k = some (ad (20 + n) (12 + 10 * k))) (hTL : TLas g ad E nd nL) : Met l xy_Ly_follow (.code xy_Ly_follow xb_Ly_follow 4 none :: wT) { frames := 1, cells := 0, slots := 0, locals := 22 } (va_Pc [.ref (ad (20 + n) 0), .ref (ad (20 + n) 2)] (xPre D kA sz (rp ad E RL))) (va_Qv (fun (u : Nat → Nat → va_E) => RI kA (20 + n) E u ∧ (∀ k, k < mk → ∀ t, t < 72 → (BS (eA (u (20 + n) (15 + 10 * k))) t ↔ PW (fun a t => BS (eA (E (20 + n) (15 + 10 * a))) t) (fun b => 12 * n + mdv g n b) mk k t)) ∧ (∀ o8, (∀ j8, j8 < mk → ¬ o8 = 15 + 10 * j8) → u (20 + n) o8 = E (20 + n) o8)) (fun (u : Nat → Nat → va_E) t => va_P D xcl (rp ad u RL) t.heap ∧ va_D (va_A (rp ad E RL) sz) (rp ad u RL)) (va_A (rp ad E RL) sz)) 0 0 (va_A (rp ad E RL) sz) := by
  refine Met.ofW (cc := xb_Ly_follow) (maxL := 4) (ret := none) (by decide) rfl ?_
  intro p e s m args below meth c s₁ B hml hv
  obtain ⟨rfl, hsz, hP, hK, hD0⟩ := hv
  have hx := B.exec
  have hb := B.bytes
  have hr := B.returns
  have hT := x_hT B.pre
  have hown : s.vm.findClass xR_Ly = some m.cls := findClass_of_methodNamed B.named
  have hlocks := B.notSynchronized
  subst hsz
  have hD := hD0.self (sz := s.heap.size)
  generalize hAe : va_A (rp ad E RL) s.heap.size = A at hD ⊢
  have hA : ∀ q : Nat, s.heap.size ≤ q → A q := fun q h => by rw [← hAe]; exact Or.inr h
  have hS : va_S A s.heap s.heap [] := va_S.rf
  have hl := lv_entry ([.ref (ad (20 + n) 0), .ref (ad (20 + n) 2)]) (n := 4) (Nat.le_of_ble_eq_true rfl)
  rw [lg_entry_eq]
  generalize (lg_sl ([.ref (ad (20 + n) 0), .ref (ad (20 + n) 2)]) ++ List.replicate (4 - (lg_sl ([.ref (ad (20 + n) 0), .ref (ad (20 + n) 2)])).length) Slot.unset).toArray = ls at hl ⊢
  have hl : lv_has ls 4 [(0, .ref (ad (20 + n) 0)), (1, .ref (ad (20 + n) 2))] := hl
  have hP : va_P D xcl (rp ad E RL) s.heap := hP
  have hDIs0 := hDIs
  have hLIs0 := hLIs
  refine lv_iconst (v := 0) hx hb xd_Ly_follow_0 (by decide) ?_
  refine lv_istore_n hx hb xd_Ly_follow_1 rfl hl (Nat.le_of_ble_eq_true rfl) rfl (fun ls hl => ?_)
  have hl : lv_has ls 4 [(2, .int 0), (0, .ref (ad (20 + n) 0)), (1, .ref (ad (20 + n) 2))] := hl
  refine xlab (σ := Nat × (Nat → Nat → va_E)) (ml := 4) 2 (fun (via, E1) => [(2, .int (nI via)), (1, .ref (ad (20 + n) 2)), (0, .ref (ad (20 + n) 0))]) (fun (via, E1) => []) (fun (via, E1) => rp ad E1 RL) (fun (via, E1) => (via ≤ mk) ∧ (RI kA (20 + n) E E1) ∧ (∀ k, k < mk → ∀ t, t < 72 → (BS (eA (E1 (20 + n) (15 + 10 * k))) t ↔ PW (fun a t => BS (eA (E (20 + n) (15 + 10 * a))) t) (fun b => 12 * n + mdv g n b) via k t)) ∧ (∀ o8, (∀ j8, j8 < mk → ¬ o8 = 15 + 10 * j8) → E1 (20 + n) o8 = E (20 + n) o8)) (fun (via, E1) => mk - via) ?_ (0, E) _ _ _ (lv_sub hl [0, 2, 1] rfl) hP hD hS ⟨(show 0 ≤ mk from by first | assumption | omega), (show RI kA (20 + n) E E from RI.rfl'), (show ∀ k, k < mk → ∀ t, t < 72 → (BS (eA (E (20 + n) (15 + 10 * k))) t ↔ PW (fun a t => BS (eA (E (20 + n) (15 + 10 * a))) t) (fun b => 12 * n + mdv g n b) 0 k t) from fun j hj t ht => Iff.rfl), (show ∀ o8, (∀ j8, j8 < mk → ¬ o8 = 15 + 10 * j8) → E (20 + n) o8 = E (20 + n) o8 from fun o _ => rfl)⟩
  intro n9 ih1 a9 ls H locs hμ hl hP hD hS hI
  subst hμ
  obtain ⟨via, E1⟩ := a9
  obtain ⟨hi, hRI, hPW, hot⟩ := hI
  have hi : via ≤ mk := hi
  have hRI : RI kA (20 + n) E E1 := hRI
  have hPW : ∀ k, k < mk → ∀ t, t < 72 → (BS (eA (E1 (20 + n) (15 + 10 * k))) t ↔ PW (fun a t => BS (eA (E (20 + n) (15 + 10 * a))) t) (fun b => 12 * n + mdv g n b) via k t) := hPW
  have hot : ∀ o8, (∀ j8, j8 < mk → ¬ o8 = 15 + 10 * j8) → E1 (20 + n) o8 = E (20 + n) o8 := hot
  have hl : lv_has ls 4 [(2, .int (nI via)), (1, .ref (ad (20 + n) 2)), (0, .ref (ad (20 + n) 0))] := hl
  have hP : va_P D xcl (rp ad E1 RL) H := hP
  have hD : va_D A (rp ad E1 RL) := hD
  have hDIs := DIs_RU hRI.ru hnd12 hDIs0
  have hLIs := LIs_RU hRI.ru hLIs0
  have hTL1 : TLas g ad E1 nd nL := TLas_ro (fun n9 o9 hn9 ho9 => by
    by_cases q : n9 = n
    · rw [q]; exact hot o9 (fun k9 _ e9 => by rcases ho9 with z | z | ⟨z, z2⟩ <;> omega)
    · exact hRI.out (by omega)) hTL
  have hk9 : ∀ k, k < mk → fm k = some (ad (20 + n) (10 + 10 * k)) ∧ MEI kA ad E1 RL nd n k := fun k h => ⟨(hfm k h).1, MEI_RU hRI.ru (hfm k h).2⟩
  have c_2 : E1 (20 + n) 0 = .inr (5, [.int (nI n), pv, .ref (ad (20 + n) 1), .int lo]) := hRI.obj yc0
  have c_3 : E1 (20 + n) 1 = .inl (kA 6, mk, .inr (.inr (.inr (.inr fm)))) := hRI.arr yc1
  have c_4 : E1 (20 + n) 2 = .inl (kA 7, mk, .inr (.inr (.inr (.inr fs)))) := hRI.arr yc2
  refine lv_iload_n hx hb xd_Ly_follow_2 rfl (lv_at hl 0 rfl) ?_
  refine lv_aload_n hx hb xd_Ly_follow_3 rfl (lv_at hl 2 rfl) ?_
  refine px_get (D := D) (ci := 5) (v := .ref (ad (20 + n) 1)) (C := xR_Ly) (T := xT_Ly) (N := 4) hx hb hT xi_Ly hown hK.1 hP ym0 c_2 rfl 2 (by decide) (hT _ k5t_0) (fun _ h9 => h9) rfl xd_Ly_follow_4 ?_
  refine px_alen hx hb hK.1 hP ym1 c_3 6 rfl xd_Ly_follow_7 ?_
  refine W.eq (g2 := F0 m 8 ls [.int (nI mk), .int (nI via)]) rfl ?_
  refine xn_ge (a := via) (b := mk) (tgt := 58) hx hb xd_Ly_follow_8 (by decide) (by omega) (by omega) (fun hc5 => ?_) (fun hc5 => ?_)
  · exact W.vret hx hb hr (fun t ht hW => ⟨⟨E1, rfl, ⟨hRI, (by have q := hPW; rw [show via = mk by omega] at q; exact q), hot⟩, by rw [ht]; exact hP, hD⟩, hS.F ht⟩) hS.2.2 xd_Ly_follow_58
  · refine lv_iconst (v := 0) hx hb xd_Ly_follow_11 (by decide) ?_
    refine lv_istore_n hx hb xd_Ly_follow_12 rfl hl (Nat.le_of_ble_eq_true rfl) rfl (fun ls hl => ?_)
    have hl : lv_has ls 4 [(3, .int 0), (2, .int (nI via)), (1, .ref (ad (20 + n) 2)), (0, .ref (ad (20 + n) 0))] := hl
    refine xlab (σ := Nat × (Nat → Nat → va_E)) (ml := 4) 13 (fun (k, E3) => [(3, .int (nI k)), (2, .int (nI via)), (1, .ref (ad (20 + n) 2)), (0, .ref (ad (20 + n) 0))]) (fun (k, E3) => []) (fun (k, E3) => rp ad E3 RL) (fun (k, E3) => (k ≤ mk) ∧ (RI kA (20 + n) E E3) ∧ (PJ (fun a t => BS (eA (E (20 + n) (15 + 10 * a))) t) (fun b => 12 * n + mdv g n b) mk via k (fun j => eA (E3 (20 + n) (15 + 10 * j)))) ∧ (∀ o8, (∀ j8, j8 < mk → ¬ o8 = 15 + 10 * j8) → E3 (20 + n) o8 = E (20 + n) o8)) (fun (k, E3) => mk - k) ?_ (0, E1) _ _ _ (lv_sub hl [0, 1, 2, 3] rfl) hP hD hS ⟨(show 0 ≤ mk from by first | assumption | omega), (show RI kA (20 + n) E E1 from hRI), (show PJ (fun a t => BS (eA (E (20 + n) (15 + 10 * a))) t) (fun b => 12 * n + mdv g n b) mk via 0 (fun j => eA (E1 (20 + n) (15 + 10 * j))) from PJ_0 hPW), (show ∀ o8, (∀ j8, j8 < mk → ¬ o8 = 15 + 10 * j8) → E1 (20 + n) o8 = E (20 + n) o8 from hot)⟩
    intro n9 ih6 a9 ls H locs hμ hl hP hD hS hI
    subst hμ
    obtain ⟨k, E3⟩ := a9
    obtain ⟨hk0, hRI, hPJ, hot⟩ := hI
    have hk0 : k ≤ mk := hk0
    have hRI : RI kA (20 + n) E E3 := hRI
    have hPJ : PJ (fun a t => BS (eA (E (20 + n) (15 + 10 * a))) t) (fun b => 12 * n + mdv g n b) mk via k (fun j => eA (E3 (20 + n) (15 + 10 * j))) := hPJ
    have hot : ∀ o8, (∀ j8, j8 < mk → ¬ o8 = 15 + 10 * j8) → E3 (20 + n) o8 = E (20 + n) o8 := hot
    have hl : lv_has ls 4 [(3, .int (nI k)), (2, .int (nI via)), (1, .ref (ad (20 + n) 2)), (0, .ref (ad (20 + n) 0))] := hl
    have hP : va_P D xcl (rp ad E3 RL) H := hP
    have hD : va_D A (rp ad E3 RL) := hD
    have hDIs := DIs_RU hRI.ru hnd12 hDIs0
    have hLIs := LIs_RU hRI.ru hLIs0
    have hTL1 : TLas g ad E3 nd nL := TLas_ro (fun n9 o9 hn9 ho9 => by
      by_cases q : n9 = n
      · rw [q]; exact hot o9 (fun k9 _ e9 => by rcases ho9 with z | z | ⟨z, z2⟩ <;> omega)
      · exact hRI.out (by omega)) hTL
    have hk9 : ∀ k, k < mk → fm k = some (ad (20 + n) (10 + 10 * k)) ∧ MEI kA ad E3 RL nd n k := fun k h => ⟨(hfm k h).1, MEI_RU hRI.ru (hfm k h).2⟩
    have c_7 : E3 (20 + n) 0 = .inr (5, [.int (nI n), pv, .ref (ad (20 + n) 1), .int lo]) := hRI.obj yc0
    have c_8 : E3 (20 + n) 1 = .inl (kA 6, mk, .inr (.inr (.inr (.inr fm)))) := hRI.arr yc1
    have c_9 : E3 (20 + n) 2 = .inl (kA 7, mk, .inr (.inr (.inr (.inr fs)))) := hRI.arr yc2
    refine lv_iload_n hx hb xd_Ly_follow_13 rfl (lv_at hl 0 rfl) ?_
    refine lv_aload_n hx hb xd_Ly_follow_14 rfl (lv_at hl 3 rfl) ?_
    refine px_get (D := D) (ci := 5) (v := .ref (ad (20 + n) 1)) (C := xR_Ly) (T := xT_Ly) (N := 4) hx hb hT xi_Ly hown hK.1 hP ym0 c_7 rfl 2 (by decide) (hT _ k5t_0) (fun _ h9 => h9) rfl xd_Ly_follow_15 ?_
    refine px_alen hx hb hK.1 hP ym1 c_8 6 rfl xd_Ly_follow_18 ?_
    refine W.eq (g2 := F0 m 19 ls [.int (nI mk), .int (nI k)]) rfl ?_
    refine xn_ge (a := k) (b := mk) (tgt := 52) hx hb xd_Ly_follow_19 (by decide) (by omega) (by omega) (fun hc10 => ?_) (fun hc10 => ?_)
    · refine lv_iinc (k := 1) (x := (nI via)) (v := (nI (via + 1))) hx hb xd_Ly_follow_52 hl rfl (xb_inc via 1) (Nat.le_of_ble_eq_true rfl) rfl (fun ls hl => ?_)
      have hl : lv_has ls 4 [(2, .int (nI (via + 1))), (3, .int (nI k)), (1, .ref (ad (20 + n) 2)), (0, .ref (ad (20 + n) 0))] := hl
      refine lv_goto (tgt := 2) hx hb xd_Ly_follow_55 (by decide) ?_
      exact ih1 (via + 1, E3) _ _ _ (show mk - (via + 1) < mk - via by omega) (lv_sub hl [0, 2, 3] rfl) hP hD hS ⟨(show (via + 1) ≤ mk from by first | assumption | omega), (show RI kA (20 + n) E E3 from hRI), (show ∀ k, k < mk → ∀ t, t < 72 → (BS (eA (E3 (20 + n) (15 + 10 * k))) t ↔ PW (fun a t => BS (eA (E (20 + n) (15 + 10 * a))) t) (fun b => 12 * n + mdv g n b) (via + 1) k t) from PJ_e (by omega) hPJ), (show ∀ o8, (∀ j8, j8 < mk → ¬ o8 = 15 + 10 * j8) → E3 (20 + n) o8 = E (20 + n) o8 from hot)⟩
    · have hM11 := (hk9 k (by omega)).2
      obtain ⟨hm_12, d_12, rs_12, fr_12, g2_12, g3_12, g4_12, hd_12, hrs_12, q0_12, q1_12, q2_12, q3_12, q4_12, q5_12, q6_12, q7_12⟩ := id hM11
      have c_13 : E3 (20 + n) (10 + 10 * k) = .inr (6, [.ref (ad (20 + n) 0), .ref (ad (1 + d_12) 0), .ref (ad (20 + n) (11 + 10 * k)), .ref (ad (20 + n) (12 + 10 * k)), .ref (ad (20 + n) (13 + 10 * k)), .ref (ad (20 + n) (14 + 10 * k))]) := q0_12
      have m_14 : (20 + n, 10 + 10 * k) ∈ RL := hm_12 0 (by omega)
      have c_15 : E3 (20 + n) (11 + 10 * k) = .inl (kA 6, rs_12, .inr (.inr (.inr (.inr fr_12)))) := q1_12
      have m_16 : (20 + n, 11 + 10 * k) ∈ RL := hm_12 1 (by omega)
      have c_17 : E3 (20 + n) (12 + 10 * k) = .inr (10, [.ref (ad (20 + n) (15 + 10 * k))]) := q2_12
      have m_18 : (20 + n, 12 + 10 * k) ∈ RL := hm_12 2 (by omega)
      have c_19 : E3 (20 + n) (13 + 10 * k) = .inr (10, [.ref (ad (20 + n) (16 + 10 * k))]) := q3_12
      have m_20 : (20 + n, 13 + 10 * k) ∈ RL := hm_12 3 (by omega)
      have c_21 : E3 (20 + n) (14 + 10 * k) = .inr (10, [.ref (ad (20 + n) (17 + 10 * k))]) := q4_12
      have m_22 : (20 + n, 14 + 10 * k) ∈ RL := hm_12 4 (by omega)
      have c_23 : E3 (20 + n) (15 + 10 * k) = .inl (kA 0, 6, .inl g2_12) := q5_12
      have m_24 : (20 + n, 15 + 10 * k) ∈ RL := hm_12 5 (by omega)
      have c_25 : E3 (20 + n) (16 + 10 * k) = .inl (kA 0, 6, .inl g3_12) := q6_12
      have m_26 : (20 + n, 16 + 10 * k) ∈ RL := hm_12 6 (by omega)
      have c_27 : E3 (20 + n) (17 + 10 * k) = .inl (kA 0, 6, .inl g4_12) := q7_12
      have m_28 : (20 + n, 17 + 10 * k) ∈ RL := hm_12 7 (by omega)
      have hrwk : eA (E3 (20 + n) (15 + 10 * k)) = g2_12 := by rw [c_23]; rfl
      have hM29 := (hk9 via (by omega)).2
      obtain ⟨hm_30, d_30, rs_30, fr_30, g2_30, g3_30, g4_30, hd_30, hrs_30, q0_30, q1_30, q2_30, q3_30, q4_30, q5_30, q6_30, q7_30⟩ := id hM29
      have c_31 : E3 (20 + n) (10 + 10 * via) = .inr (6, [.ref (ad (20 + n) 0), .ref (ad (1 + d_30) 0), .ref (ad (20 + n) (11 + 10 * via)), .ref (ad (20 + n) (12 + 10 * via)), .ref (ad (20 + n) (13 + 10 * via)), .ref (ad (20 + n) (14 + 10 * via))]) := q0_30
      have m_32 : (20 + n, 10 + 10 * via) ∈ RL := hm_30 0 (by omega)
      have c_33 : E3 (20 + n) (11 + 10 * via) = .inl (kA 6, rs_30, .inr (.inr (.inr (.inr fr_30)))) := q1_30
      have m_34 : (20 + n, 11 + 10 * via) ∈ RL := hm_30 1 (by omega)
      have c_35 : E3 (20 + n) (12 + 10 * via) = .inr (10, [.ref (ad (20 + n) (15 + 10 * via))]) := q2_30
      have m_36 : (20 + n, 12 + 10 * via) ∈ RL := hm_30 2 (by omega)
      have c_37 : E3 (20 + n) (13 + 10 * via) = .inr (10, [.ref (ad (20 + n) (16 + 10 * via))]) := q3_30
      have m_38 : (20 + n, 13 + 10 * via) ∈ RL := hm_30 3 (by omega)
      have c_39 : E3 (20 + n) (14 + 10 * via) = .inr (10, [.ref (ad (20 + n) (17 + 10 * via))]) := q4_30
      have m_40 : (20 + n, 14 + 10 * via) ∈ RL := hm_30 4 (by omega)
      have c_41 : E3 (20 + n) (15 + 10 * via) = .inl (kA 0, 6, .inl g2_30) := q5_30
      have m_42 : (20 + n, 15 + 10 * via) ∈ RL := hm_30 5 (by omega)
      have c_43 : E3 (20 + n) (16 + 10 * via) = .inl (kA 0, 6, .inl g3_30) := q6_30
      have m_44 : (20 + n, 16 + 10 * via) ∈ RL := hm_30 6 (by omega)
      have c_45 : E3 (20 + n) (17 + 10 * via) = .inl (kA 0, 6, .inl g4_30) := q7_30
      have m_46 : (20 + n, 17 + 10 * via) ∈ RL := hm_30 7 (by omega)
      have hrwvia : eA (E3 (20 + n) (15 + 10 * via)) = g2_30 := by rw [c_41]; rfl
      have hdmv : mdv g n via = d_30 := by
        obtain ⟨_, _, h20z, hmz⟩ := hTL1 n hn
        rw [show eL (E3 (20 + n) 1) = mk from by rw [c_8]; rfl] at h20z hmz
        obtain ⟨dz, hdz, h21z, hvz⟩ := hmz via (by omega)
        rw [c_31] at hvz
        have ez := (rp_inj hD ((hDIs d_30 hd_30).1 0 (by omega)) ((hDIs dz hdz).1 0 (by omega)) (Value.ref.inj hvz)).1
        unfold mdv
        rw [h21z, iN_nI (by omega)]; omega
      refine lv_aload_n hx hb xd_Ly_follow_22 rfl (lv_at hl 2 rfl) ?_
      refine lv_iload_n hx hb xd_Ly_follow_23 rfl (lv_at hl 0 rfl) ?_
      refine px_aald (i := k) (x := (some (ad (20 + n) (12 + 10 * k)))) hx hb hK.1 hP ym2 c_9 7 rfl (hfs k (by omega)) (by omega) (by omega) xd_Ly_follow_24 ?_
      refine lv_aload_n hx hb xd_Ly_follow_25 rfl (lv_at hl 3 rfl) ?_
      refine px_get (D := D) (ci := 5) (v := .ref (ad (20 + n) 1)) (C := xR_Ly) (T := xT_Ly) (N := 4) hx hb hT xi_Ly hown hK.1 hP ym0 c_7 rfl 2 (by decide) (hT _ k5t_0) (fun _ h9 => h9) rfl xd_Ly_follow_26 ?_
      refine lv_iload_n hx hb xd_Ly_follow_29 rfl (lv_at hl 1 rfl) ?_
      refine px_aald (i := via) (x := (some (ad (20 + n) (10 + 10 * via)))) hx hb hK.1 hP ym1 c_8 6 rfl ((hk9 via (by omega)).1) (by omega) (by omega) xd_Ly_follow_30 ?_
      obtain ⟨hm_47, fd_47, nm_47, sd_47, k0_47, k1_47, k2_47, k3_47, f0_47, f1_47, f2_47, f3_47, fe_47, fo_47, tr_47, op_47, hk0_47, hk1_47, hk2_47, hk3_47, q0_47, q1_47, q2_47, q3_47, q4_47, q5_47, q6_47, q7_47, q8_47, q9_47, q10_47, q11_47, q12_47, hg_47⟩ := id (hDIs d_30 (by omega))
      have c_48 : E3 (1 + d_30) 0 = .inr (7, [.int (nI d_30), .int fd_47, .int nm_47, .ref (ad (1 + d_30) 1), .ref (ad (1 + d_30) 9), .ref (ad (1 + d_30) 10), .ref (ad (1 + d_30) 2), .ref (ad (1 + d_30) 11), .ref (ad (1 + d_30) 12), .ref (ad (1 + d_30) 3), .ref (ad (1 + d_30) 4), .int sd_47]) := q0_47
      have m_49 : (1 + d_30, 0) ∈ RL := hm_47 0 (by omega)
      have c_50 : E3 (1 + d_30) 1 = .inr (8, [.ref (ad (1 + d_30) 5), .int (nI k0_47)]) := q1_47
      have m_51 : (1 + d_30, 1) ∈ RL := hm_47 1 (by omega)
      have c_52 : E3 (1 + d_30) 2 = .inr (8, [.ref (ad (1 + d_30) 6), .int (nI k1_47)]) := q2_47
      have m_53 : (1 + d_30, 2) ∈ RL := hm_47 2 (by omega)
      have c_54 : E3 (1 + d_30) 3 = .inr (8, [.ref (ad (1 + d_30) 7), .int (nI k2_47)]) := q3_47
      have m_55 : (1 + d_30, 3) ∈ RL := hm_47 3 (by omega)
      have c_56 : E3 (1 + d_30) 4 = .inr (8, [.ref (ad (1 + d_30) 8), .int (nI k3_47)]) := q4_47
      have m_57 : (1 + d_30, 4) ∈ RL := hm_47 4 (by omega)
      have c_58 : E3 (1 + d_30) 5 = .inl (kA 0, 6, .inl f0_47) := q5_47
      have m_59 : (1 + d_30, 5) ∈ RL := hm_47 5 (by omega)
      have c_60 : E3 (1 + d_30) 6 = .inl (kA 0, 5, .inl f1_47) := q6_47
      have m_61 : (1 + d_30, 6) ∈ RL := hm_47 6 (by omega)
      have c_62 : E3 (1 + d_30) 7 = .inl (kA 0, 3, .inl f2_47) := q7_47
      have m_63 : (1 + d_30, 7) ∈ RL := hm_47 7 (by omega)
      have c_64 : E3 (1 + d_30) 8 = .inl (kA 0, 3, .inl f3_47) := q8_47
      have m_65 : (1 + d_30, 8) ∈ RL := hm_47 8 (by omega)
      have c_66 : E3 (1 + d_30) 9 = .inl (kA 8, 6, .inr (.inr (.inr (.inr fe_47)))) := q9_47
      have m_67 : (1 + d_30, 9) ∈ RL := hm_47 9 (by omega)
      have c_68 : E3 (1 + d_30) 10 = .inl (kA 8, 6, .inr (.inr (.inr (.inr fo_47)))) := q10_47
      have m_69 : (1 + d_30, 10) ∈ RL := hm_47 10 (by omega)
      have c_70 : E3 (1 + d_30) 11 = .inl (kA 2, 5, .inl tr_47) := q11_47
      have m_71 : (1 + d_30, 11) ∈ RL := hm_47 11 (by omega)
      have c_72 : E3 (1 + d_30) 12 = .inl (kA 2, 5, .inl op_47) := q12_47
      have m_73 : (1 + d_30, 12) ∈ RL := hm_47 12 (by omega)
      have hg_47 : ∀ w9, w9 < k0_47 → fe_47 w9 = some (ad (1 + d_30) (20 + 3 * w9)) ∧ fo_47 w9 = some (ad (1 + d_30) (38 + 3 * w9)) ∧ GI kA (ad (1 + d_30)) (E3 (1 + d_30)) (fun o => (1 + d_30, o) ∈ RL) (20 + 3 * w9) (21 + 3 * w9) (22 + 3 * w9) ∧ GI kA (ad (1 + d_30)) (E3 (1 + d_30)) (fun o => (1 + d_30, o) ∈ RL) (38 + 3 * w9) (39 + 3 * w9) (40 + 3 * w9) := hg_47
      have hFc := px_free hD hS hA
      refine va_calli (va_runV (As := [.ref (ad (20 + n) (10 + 10 * via))]) (rest := []) ⟨hx, hb, hml, hown, hT⟩ (xc_Re_marks l D kA H.size ad E3 RL (20 + n) (12 + 10 * k) (15 + 10 * k) g2_12 n via d_30 pv lo fd_47 nm_47 sd_47 m_18 c_17 m_24 c_23 m_32 c_31 ym0 c_7 m_49 c_48 (by first | assumption | omega)) (cwV 1 hT (wT_V k5t_2 k5t_3 k5t_4 k5t_5 k5t_1) rfl rfl rfl (by decide +kernel) ⟨Nat.le_of_ble_eq_true rfl, Nat.le_of_ble_eq_true rfl⟩) (px_preV hK hP hD m_18 c_17 rfl) rfl rfl hl.1 rfl (lv_room (Nat.le_of_ble_eq_true rfl)) xd_Ly_follow_31 ⟨(Nat.le_of_ble_eq_true rfl), (Nat.le_of_ble_eq_true rfl)⟩) hS (fun q _ h => hFc q h) hFc (fun r74 u75 t H1 locs ht hvm hp76 hB hz1 hk1 hS => ?_)
      obtain ⟨hP1, hD1⟩ := hB
      rw [ht] at hP1
      have hD1 := hD1.weaken (fun _ _ _ h => hFc _ h)
      generalize H1 = H at hP1 hS ⊢
      have hP := hP1
      have hD := hD1
      have hP : va_P D xcl (rp ad E3 RL) H := hP
      have hD : va_D A (rp ad E3 RL) := hD
      rcases hp76 with ⟨rfl, z77⟩ | ⟨rfl, z78⟩
      · have hmk9 : PW (fun a t => BS (eA (E (20 + n) (15 + 10 * a))) t) (fun b => 12 * n + mdv g n b) via k ((fun b => 12 * n + mdv g n b) via) := ((BS_marks (f := g2_12) (n := n) (d := d_30) (by omega)).trans (by rw [← hrwk, ← hdmv]; exact PJ_at hPJ (by omega) (by have q := hdmv; omega))).mp z77
        refine W.eq (g2 := F0 m 34 ls [.int 1]) rfl ?_
        refine lv_if_eq (tgt := 46) hx hb xd_Ly_follow_34 (by decide) (fun hc79 => absurd hc79 (by decide)) (fun _ => ?_)
        by_cases hkv : k = via
        · rw [hkv] at hl
          have hl : lv_has ls 4 [(3, .int (nI via)), (2, .int (nI via)), (1, .ref (ad (20 + n) 2)), (0, .ref (ad (20 + n) 0))] := hl
          refine lv_aload_n hx hb xd_Ly_follow_37 rfl (lv_at hl 2 rfl) ?_
          refine lv_iload_n hx hb xd_Ly_follow_38 rfl (lv_at hl 0 rfl) ?_
          refine px_aald (i := via) (x := (some (ad (20 + n) (12 + 10 * via)))) hx hb hK.1 hP ym2 c_9 7 rfl (hfs via (by omega)) (by omega) (by omega) xd_Ly_follow_39 ?_
          refine lv_aload_n hx hb xd_Ly_follow_40 rfl (lv_at hl 2 rfl) ?_
          refine lv_iload_n hx hb xd_Ly_follow_41 rfl (lv_at hl 1 rfl) ?_
          refine px_aald (i := via) (x := (some (ad (20 + n) (12 + 10 * via)))) hx hb hK.1 hP ym2 c_9 7 rfl (hfs via (by omega)) (by omega) (by omega) xd_Ly_follow_42 ?_
          have hFc := px_free hD hS hA
          refine va_callv (va_runV (As := [.ref (ad (20 + n) (12 + 10 * via))]) (rest := []) ⟨hx, hb, hml, hown, hT⟩ (xc_Re_joinSX l D kA H.size ad E3 RL (20 + n) (12 + 10 * via) (15 + 10 * via) g2_30 m_36 c_35 m_42 c_41 (by first | assumption | omega)) (cwV 1 hT (wT_V k5t_7 k5t_8 k5t_9 k5t_5 k5t_6) rfl rfl rfl (by decide +kernel) ⟨Nat.le_of_ble_eq_true rfl, Nat.le_of_ble_eq_true rfl⟩) (px_preV hK hP hD m_36 c_35 rfl) rfl rfl hl.1 rfl (lv_room (Nat.le_of_ble_eq_true rfl)) xd_Ly_follow_43 ⟨(Nat.le_of_ble_eq_true rfl), (Nat.le_of_ble_eq_true rfl)⟩) hS (fun q _ h => hFc q h) hFc (fun u81 t H1 locs ht hvm hp82 hB hz1 hk1 hS => ?_)
          obtain ⟨hP1, hD1⟩ := hB
          rw [ht] at hP1
          have hD1 := hD1.weaken (fun _ _ _ h => hFc _ h)
          generalize H1 = H at hP1 hS ⊢
          have hP := hP1
          have hD := hD1
          obtain ⟨E83, rfl⟩ : ∃ z, z = u81 := ⟨_, rfl⟩
          obtain ⟨w84, hp87, p_85, p_86⟩ := hp82
          have p_85 : E83 (20 + n) (15 + 10 * via) = .inl (kA 0, 6, .inl w84) := p_85
          have p_86 : (∀ b2 o2, ¬ (b2 = (20 + n) ∧ o2 = (15 + 10 * via)) → E83 b2 o2 = E3 b2 o2) := p_86
          have c_88 : E83 (20 + n) (12 + 10 * via) = .inr (10, [.ref (ad (20 + n) (15 + 10 * via))]) := (p_86 (20 + n) (12 + 10 * via) (by omega)).trans c_35
          have hP : va_P D xcl (rp ad E83 RL) H := hP
          have hD : va_D A (rp ad E83 RL) := hD
          have hPJn : PJ (fun a t => BS (eA (E (20 + n) (15 + 10 * a))) t) (fun b => 12 * n + mdv g n b) mk via (k + 1) (fun j => eA (E83 (20 + n) (15 + 10 * j))) := PJ_y (Rw := (fun j => eA (E3 (20 + n) (15 + 10 * j)))) (by omega) (by omega) hmk9 hPJ (fun j hj hne => by
            show eA (E83 (20 + n) (15 + 10 * j)) = eA (E3 (20 + n) (15 + 10 * j))
            rw [p_86 (20 + n) (15 + 10 * j) (by omega)]) (fun t ht => by
            show BS (eA (E83 (20 + n) (15 + 10 * k))) t ↔ (BS (eA (E3 (20 + n) (15 + 10 * k))) t ∨ BS (eA (E3 (20 + n) (15 + 10 * via))) t)
            rw [hkv, hrwvia, show eA (E83 (20 + n) (15 + 10 * via)) = w84 from by rw [p_85]; rfl]
            exact BS_join ht hp87)
          refine lv_iinc (k := 0) (x := (nI via)) (v := (nI (via + 1))) hx hb xd_Ly_follow_46 hl rfl (xb_inc via 1) (Nat.le_of_ble_eq_true rfl) rfl (fun ls hl => ?_)
          have hl : lv_has ls 4 [(3, .int (nI (via + 1))), (2, .int (nI via)), (1, .ref (ad (20 + n) 2)), (0, .ref (ad (20 + n) 0))] := hl
          refine lv_goto (tgt := 13) hx hb xd_Ly_follow_49 (by decide) ?_
          exact ih6 (via + 1, E83) _ _ _ (show mk - (via + 1) < mk - k by omega) (lv_sub hl [0, 1, 2, 3] rfl) hP hD hS ⟨(show (via + 1) ≤ mk from by first | assumption | omega), (show RI kA (20 + n) E E83 from RI.trans' hRI (RI.row c_41 p_85 p_86)), (show PJ (fun a t => BS (eA (E (20 + n) (15 + 10 * a))) t) (fun b => 12 * n + mdv g n b) mk via (via + 1) (fun j => eA (E83 (20 + n) (15 + 10 * j))) from (by have q := hPJn; rw [hkv] at q; exact q)), (show ∀ o8, (∀ j8, j8 < mk → ¬ o8 = 15 + 10 * j8) → E83 (20 + n) o8 = E (20 + n) o8 from fun o9 h9 => (p_86 (20 + n) o9 (by
        have q := h9 via (by omega)
        omega)).trans (hot o9 h9))⟩
        · have hkv := hkv
          refine lv_aload_n hx hb xd_Ly_follow_37 rfl (lv_at hl 2 rfl) ?_
          refine lv_iload_n hx hb xd_Ly_follow_38 rfl (lv_at hl 0 rfl) ?_
          refine px_aald (i := k) (x := (some (ad (20 + n) (12 + 10 * k)))) hx hb hK.1 hP ym2 c_9 7 rfl (hfs k (by omega)) (by omega) (by omega) xd_Ly_follow_39 ?_
          refine lv_aload_n hx hb xd_Ly_follow_40 rfl (lv_at hl 2 rfl) ?_
          refine lv_iload_n hx hb xd_Ly_follow_41 rfl (lv_at hl 1 rfl) ?_
          refine px_aald (i := via) (x := (some (ad (20 + n) (12 + 10 * via)))) hx hb hK.1 hP ym2 c_9 7 rfl (hfs via (by omega)) (by omega) (by omega) xd_Ly_follow_42 ?_
          have hFc := px_free hD hS hA
          refine va_callv (va_runV (As := [.ref (ad (20 + n) (12 + 10 * via))]) (rest := []) ⟨hx, hb, hml, hown, hT⟩ (xc_Re_joinX l D kA H.size ad E3 RL (20 + n) (12 + 10 * k) (15 + 10 * k) g2_12 (20 + n) (12 + 10 * via) (15 + 10 * via) g2_30 m_18 c_17 m_24 c_23 m_36 c_35 m_42 c_41 (by first | assumption | omega) (by first | assumption | omega)) (cwV 1 hT (wT_V k5t_7 k5t_8 k5t_9 k5t_5 k5t_6) rfl rfl rfl (by decide +kernel) ⟨Nat.le_of_ble_eq_true rfl, Nat.le_of_ble_eq_true rfl⟩) (px_preV hK hP hD m_18 c_17 rfl) rfl rfl hl.1 rfl (lv_room (Nat.le_of_ble_eq_true rfl)) xd_Ly_follow_43 ⟨(Nat.le_of_ble_eq_true rfl), (Nat.le_of_ble_eq_true rfl)⟩) hS (fun q _ h => hFc q h) hFc (fun u90 t H1 locs ht hvm hp91 hB hz1 hk1 hS => ?_)
          obtain ⟨hP1, hD1⟩ := hB
          rw [ht] at hP1
          have hD1 := hD1.weaken (fun _ _ _ h => hFc _ h)
          generalize H1 = H at hP1 hS ⊢
          have hP := hP1
          have hD := hD1
          obtain ⟨E92, rfl⟩ : ∃ z, z = u90 := ⟨_, rfl⟩
          obtain ⟨w93, hp96, p_94, p_95⟩ := hp91
          have p_94 : E92 (20 + n) (15 + 10 * k) = .inl (kA 0, 6, .inl w93) := p_94
          have p_95 : (∀ b2 o2, ¬ (b2 = (20 + n) ∧ o2 = (15 + 10 * k)) → E92 b2 o2 = E3 b2 o2) := p_95
          have c_97 : E92 (20 + n) (12 + 10 * k) = .inr (10, [.ref (ad (20 + n) (15 + 10 * k))]) := (p_95 (20 + n) (12 + 10 * k) (by omega)).trans c_17
          have c_98 : E92 (20 + n) (12 + 10 * via) = .inr (10, [.ref (ad (20 + n) (15 + 10 * via))]) := (p_95 (20 + n) (12 + 10 * via) (by omega)).trans c_35
          have c_99 : E92 (20 + n) (15 + 10 * via) = .inl (kA 0, 6, .inl g2_30) := (p_95 (20 + n) (15 + 10 * via) (by omega)).trans c_41
          have hP : va_P D xcl (rp ad E92 RL) H := hP
          have hD : va_D A (rp ad E92 RL) := hD
          have hPJn : PJ (fun a t => BS (eA (E (20 + n) (15 + 10 * a))) t) (fun b => 12 * n + mdv g n b) mk via (k + 1) (fun j => eA (E92 (20 + n) (15 + 10 * j))) := PJ_y (Rw := (fun j => eA (E3 (20 + n) (15 + 10 * j)))) (by omega) (by omega) hmk9 hPJ (fun j hj hne => by
            show eA (E92 (20 + n) (15 + 10 * j)) = eA (E3 (20 + n) (15 + 10 * j))
            rw [p_95 (20 + n) (15 + 10 * j) (by omega)]) (fun t ht => by
            show BS (eA (E92 (20 + n) (15 + 10 * k))) t ↔ (BS (eA (E3 (20 + n) (15 + 10 * k))) t ∨ BS (eA (E3 (20 + n) (15 + 10 * via))) t)
            rw [hrwk, hrwvia, show eA (E92 (20 + n) (15 + 10 * k)) = w93 from by rw [p_94]; rfl]
            exact BS_join ht hp96)
          refine lv_iinc (k := 0) (x := (nI k)) (v := (nI (k + 1))) hx hb xd_Ly_follow_46 hl rfl (xb_inc k 1) (Nat.le_of_ble_eq_true rfl) rfl (fun ls hl => ?_)
          have hl : lv_has ls 4 [(3, .int (nI (k + 1))), (2, .int (nI via)), (1, .ref (ad (20 + n) 2)), (0, .ref (ad (20 + n) 0))] := hl
          refine lv_goto (tgt := 13) hx hb xd_Ly_follow_49 (by decide) ?_
          exact ih6 (k + 1, E92) _ _ _ (show mk - (k + 1) < mk - k by omega) (lv_sub hl [0, 1, 2, 3] rfl) hP hD hS ⟨(show (k + 1) ≤ mk from by first | assumption | omega), (show RI kA (20 + n) E E92 from RI.trans' hRI (RI.row c_23 p_94 p_95)), (show PJ (fun a t => BS (eA (E (20 + n) (15 + 10 * a))) t) (fun b => 12 * n + mdv g n b) mk via (k + 1) (fun j => eA (E92 (20 + n) (15 + 10 * j))) from hPJn), (show ∀ o8, (∀ j8, j8 < mk → ¬ o8 = 15 + 10 * j8) → E92 (20 + n) o8 = E (20 + n) o8 from fun o9 h9 => (p_95 (20 + n) o9 (by
        have q := h9 k (by omega)
        omega)).trans (hot o9 h9))⟩
      · have hmk9 : ¬ PW (fun a t => BS (eA (E (20 + n) (15 + 10 * a))) t) (fun b => 12 * n + mdv g n b) via k ((fun b => 12 * n + mdv g n b) via) := fun q => absurd z78 (((BS_marks (f := g2_12) (n := n) (d := d_30) (by omega)).trans (by rw [← hrwk, ← hdmv]; exact PJ_at hPJ (by omega) (by have q := hdmv; omega))).mpr q)
        refine W.eq (g2 := F0 m 34 ls [.int 0]) rfl ?_
        refine lv_if_eq (tgt := 46) hx hb xd_Ly_follow_34 (by decide) (fun _ => ?_) (fun hc100 => absurd (by decide) hc100)
        refine lv_iinc (k := 0) (x := (nI k)) (v := (nI (k + 1))) hx hb xd_Ly_follow_46 hl rfl (xb_inc k 1) (Nat.le_of_ble_eq_true rfl) rfl (fun ls hl => ?_)
        have hl : lv_has ls 4 [(3, .int (nI (k + 1))), (2, .int (nI via)), (1, .ref (ad (20 + n) 2)), (0, .ref (ad (20 + n) 0))] := hl
        refine lv_goto (tgt := 13) hx hb xd_Ly_follow_49 (by decide) ?_
        exact ih6 (k + 1, E3) _ _ _ (show mk - (k + 1) < mk - k by omega) (lv_sub hl [0, 1, 2, 3] rfl) hP hD hS ⟨(show (k + 1) ≤ mk from by first | assumption | omega), (show RI kA (20 + n) E E3 from hRI), (show PJ (fun a t => BS (eA (E (20 + n) (15 + 10 * a))) t) (fun b => 12 * n + mdv g n b) mk via (k + 1) (fun j => eA (E3 (20 + n) (15 + 10 * j))) from PJ_n hmk9 hPJ), (show ∀ o8, (∀ j8, j8 < mk → ¬ o8 = 15 + 10 * j8) → E3 (20 + n) o8 = E (20 + n) o8 from hot)⟩
set_option maxHeartbeats 4000000 in
set_option maxRecDepth 100000 in
theorem xc_Ly_followCX (l : Launch) (D : va_G) (kA : Nat → ClassId) (sz : Nat) (ad : Nat → Nat → Nat) (E : Nat → Nat → va_E) (RL : List (Nat × Nat)) (g : Nat → Nat → Int32) (nd : Nat) (nL : Nat) (n : Nat) (pv : Value) (lo : Int32) (mk : Nat) (fm : Nat → Option Nat) (fs : Nat → Option Nat) (ym0 : (20 + n, 0) ∈ RL) (yc0 : E (20 + n) 0 = .inr (5, [.int (nI n), pv, .ref (ad (20 + n) 1), .int lo])) (ym1 : (20 + n, 1) ∈ RL) (yc1 : E (20 + n) 1 = .inl (kA 6, mk, .inr (.inr (.inr (.inr fm))))) (ym2 : (20 + n, 3) ∈ RL) (yc2 : E (20 + n) 3 = .inl (kA 7, mk, .inr (.inr (.inr (.inr fs))))) (hDIs : DIs kA ad E RL nd) (hLIs : LIs kA ad E RL nd nL) (hnd12 : nd ≤ 12) (hnL : nL ≤ 6) (hn : n < nL) (hmk : mk ≤ 12) (hfm : ∀ k, k < mk → fm k = some (ad (20 + n) (10 + 10 * k)) ∧ MEI kA ad E RL nd n k) (hfs : ∀ k, k < mk → fs k = some (ad (20 + n) (13 + 10 * k))) (hTL : TLas g ad E nd nL) : Met l xy_Ly_follow (.code xy_Ly_follow xb_Ly_follow 4 none :: wT) { frames := 1, cells := 0, slots := 0, locals := 22 } (va_Pc [.ref (ad (20 + n) 0), .ref (ad (20 + n) 3)] (xPre D kA sz (rp ad E RL))) (va_Qv (fun (u : Nat → Nat → va_E) => RI kA (20 + n) E u ∧ (∀ k, k < mk → ∀ t, t < 72 → (BS (eA (u (20 + n) (16 + 10 * k))) t ↔ PW (fun a t => BS (eA (E (20 + n) (16 + 10 * a))) t) (fun b => 12 * n + mdv g n b) mk k t)) ∧ (∀ o8, (∀ j8, j8 < mk → ¬ o8 = 16 + 10 * j8) → u (20 + n) o8 = E (20 + n) o8)) (fun (u : Nat → Nat → va_E) t => va_P D xcl (rp ad u RL) t.heap ∧ va_D (va_A (rp ad E RL) sz) (rp ad u RL)) (va_A (rp ad E RL) sz)) 0 0 (va_A (rp ad E RL) sz) := by
  refine Met.ofW (cc := xb_Ly_follow) (maxL := 4) (ret := none) (by decide) rfl ?_
  intro p e s m args below meth c s₁ B hml hv
  obtain ⟨rfl, hsz, hP, hK, hD0⟩ := hv
  have hx := B.exec
  have hb := B.bytes
  have hr := B.returns
  have hT := x_hT B.pre
  have hown : s.vm.findClass xR_Ly = some m.cls := findClass_of_methodNamed B.named
  have hlocks := B.notSynchronized
  subst hsz
  have hD := hD0.self (sz := s.heap.size)
  generalize hAe : va_A (rp ad E RL) s.heap.size = A at hD ⊢
  have hA : ∀ q : Nat, s.heap.size ≤ q → A q := fun q h => by rw [← hAe]; exact Or.inr h
  have hS : va_S A s.heap s.heap [] := va_S.rf
  have hl := lv_entry ([.ref (ad (20 + n) 0), .ref (ad (20 + n) 3)]) (n := 4) (Nat.le_of_ble_eq_true rfl)
  rw [lg_entry_eq]
  generalize (lg_sl ([.ref (ad (20 + n) 0), .ref (ad (20 + n) 3)]) ++ List.replicate (4 - (lg_sl ([.ref (ad (20 + n) 0), .ref (ad (20 + n) 3)])).length) Slot.unset).toArray = ls at hl ⊢
  have hl : lv_has ls 4 [(0, .ref (ad (20 + n) 0)), (1, .ref (ad (20 + n) 3))] := hl
  have hP : va_P D xcl (rp ad E RL) s.heap := hP
  have hDIs0 := hDIs
  have hLIs0 := hLIs
  refine lv_iconst (v := 0) hx hb xd_Ly_follow_0 (by decide) ?_
  refine lv_istore_n hx hb xd_Ly_follow_1 rfl hl (Nat.le_of_ble_eq_true rfl) rfl (fun ls hl => ?_)
  have hl : lv_has ls 4 [(2, .int 0), (0, .ref (ad (20 + n) 0)), (1, .ref (ad (20 + n) 3))] := hl
  refine xlab (σ := Nat × (Nat → Nat → va_E)) (ml := 4) 2 (fun (via, E1) => [(2, .int (nI via)), (1, .ref (ad (20 + n) 3)), (0, .ref (ad (20 + n) 0))]) (fun (via, E1) => []) (fun (via, E1) => rp ad E1 RL) (fun (via, E1) => (via ≤ mk) ∧ (RI kA (20 + n) E E1) ∧ (∀ k, k < mk → ∀ t, t < 72 → (BS (eA (E1 (20 + n) (16 + 10 * k))) t ↔ PW (fun a t => BS (eA (E (20 + n) (16 + 10 * a))) t) (fun b => 12 * n + mdv g n b) via k t)) ∧ (∀ o8, (∀ j8, j8 < mk → ¬ o8 = 16 + 10 * j8) → E1 (20 + n) o8 = E (20 + n) o8)) (fun (via, E1) => mk - via) ?_ (0, E) _ _ _ (lv_sub hl [0, 2, 1] rfl) hP hD hS ⟨(show 0 ≤ mk from by first | assumption | omega), (show RI kA (20 + n) E E from RI.rfl'), (show ∀ k, k < mk → ∀ t, t < 72 → (BS (eA (E (20 + n) (16 + 10 * k))) t ↔ PW (fun a t => BS (eA (E (20 + n) (16 + 10 * a))) t) (fun b => 12 * n + mdv g n b) 0 k t) from fun j hj t ht => Iff.rfl), (show ∀ o8, (∀ j8, j8 < mk → ¬ o8 = 16 + 10 * j8) → E (20 + n) o8 = E (20 + n) o8 from fun o _ => rfl)⟩
  intro n9 ih1 a9 ls H locs hμ hl hP hD hS hI
  subst hμ
  obtain ⟨via, E1⟩ := a9
  obtain ⟨hi, hRI, hPW, hot⟩ := hI
  have hi : via ≤ mk := hi
  have hRI : RI kA (20 + n) E E1 := hRI
  have hPW : ∀ k, k < mk → ∀ t, t < 72 → (BS (eA (E1 (20 + n) (16 + 10 * k))) t ↔ PW (fun a t => BS (eA (E (20 + n) (16 + 10 * a))) t) (fun b => 12 * n + mdv g n b) via k t) := hPW
  have hot : ∀ o8, (∀ j8, j8 < mk → ¬ o8 = 16 + 10 * j8) → E1 (20 + n) o8 = E (20 + n) o8 := hot
  have hl : lv_has ls 4 [(2, .int (nI via)), (1, .ref (ad (20 + n) 3)), (0, .ref (ad (20 + n) 0))] := hl
  have hP : va_P D xcl (rp ad E1 RL) H := hP
  have hD : va_D A (rp ad E1 RL) := hD
  have hDIs := DIs_RU hRI.ru hnd12 hDIs0
  have hLIs := LIs_RU hRI.ru hLIs0
  have hTL1 : TLas g ad E1 nd nL := TLas_ro (fun n9 o9 hn9 ho9 => by
    by_cases q : n9 = n
    · rw [q]; exact hot o9 (fun k9 _ e9 => by rcases ho9 with z | z | ⟨z, z2⟩ <;> omega)
    · exact hRI.out (by omega)) hTL
  have hk9 : ∀ k, k < mk → fm k = some (ad (20 + n) (10 + 10 * k)) ∧ MEI kA ad E1 RL nd n k := fun k h => ⟨(hfm k h).1, MEI_RU hRI.ru (hfm k h).2⟩
  have c_2 : E1 (20 + n) 0 = .inr (5, [.int (nI n), pv, .ref (ad (20 + n) 1), .int lo]) := hRI.obj yc0
  have c_3 : E1 (20 + n) 1 = .inl (kA 6, mk, .inr (.inr (.inr (.inr fm)))) := hRI.arr yc1
  have c_4 : E1 (20 + n) 3 = .inl (kA 7, mk, .inr (.inr (.inr (.inr fs)))) := hRI.arr yc2
  refine lv_iload_n hx hb xd_Ly_follow_2 rfl (lv_at hl 0 rfl) ?_
  refine lv_aload_n hx hb xd_Ly_follow_3 rfl (lv_at hl 2 rfl) ?_
  refine px_get (D := D) (ci := 5) (v := .ref (ad (20 + n) 1)) (C := xR_Ly) (T := xT_Ly) (N := 4) hx hb hT xi_Ly hown hK.1 hP ym0 c_2 rfl 2 (by decide) (hT _ k5t_0) (fun _ h9 => h9) rfl xd_Ly_follow_4 ?_
  refine px_alen hx hb hK.1 hP ym1 c_3 6 rfl xd_Ly_follow_7 ?_
  refine W.eq (g2 := F0 m 8 ls [.int (nI mk), .int (nI via)]) rfl ?_
  refine xn_ge (a := via) (b := mk) (tgt := 58) hx hb xd_Ly_follow_8 (by decide) (by omega) (by omega) (fun hc5 => ?_) (fun hc5 => ?_)
  · exact W.vret hx hb hr (fun t ht hW => ⟨⟨E1, rfl, ⟨hRI, (by have q := hPW; rw [show via = mk by omega] at q; exact q), hot⟩, by rw [ht]; exact hP, hD⟩, hS.F ht⟩) hS.2.2 xd_Ly_follow_58
  · refine lv_iconst (v := 0) hx hb xd_Ly_follow_11 (by decide) ?_
    refine lv_istore_n hx hb xd_Ly_follow_12 rfl hl (Nat.le_of_ble_eq_true rfl) rfl (fun ls hl => ?_)
    have hl : lv_has ls 4 [(3, .int 0), (2, .int (nI via)), (1, .ref (ad (20 + n) 3)), (0, .ref (ad (20 + n) 0))] := hl
    refine xlab (σ := Nat × (Nat → Nat → va_E)) (ml := 4) 13 (fun (k, E3) => [(3, .int (nI k)), (2, .int (nI via)), (1, .ref (ad (20 + n) 3)), (0, .ref (ad (20 + n) 0))]) (fun (k, E3) => []) (fun (k, E3) => rp ad E3 RL) (fun (k, E3) => (k ≤ mk) ∧ (RI kA (20 + n) E E3) ∧ (PJ (fun a t => BS (eA (E (20 + n) (16 + 10 * a))) t) (fun b => 12 * n + mdv g n b) mk via k (fun j => eA (E3 (20 + n) (16 + 10 * j)))) ∧ (∀ o8, (∀ j8, j8 < mk → ¬ o8 = 16 + 10 * j8) → E3 (20 + n) o8 = E (20 + n) o8)) (fun (k, E3) => mk - k) ?_ (0, E1) _ _ _ (lv_sub hl [0, 1, 2, 3] rfl) hP hD hS ⟨(show 0 ≤ mk from by first | assumption | omega), (show RI kA (20 + n) E E1 from hRI), (show PJ (fun a t => BS (eA (E (20 + n) (16 + 10 * a))) t) (fun b => 12 * n + mdv g n b) mk via 0 (fun j => eA (E1 (20 + n) (16 + 10 * j))) from PJ_0 hPW), (show ∀ o8, (∀ j8, j8 < mk → ¬ o8 = 16 + 10 * j8) → E1 (20 + n) o8 = E (20 + n) o8 from hot)⟩
    intro n9 ih6 a9 ls H locs hμ hl hP hD hS hI
    subst hμ
    obtain ⟨k, E3⟩ := a9
    obtain ⟨hk0, hRI, hPJ, hot⟩ := hI
    have hk0 : k ≤ mk := hk0
    have hRI : RI kA (20 + n) E E3 := hRI
    have hPJ : PJ (fun a t => BS (eA (E (20 + n) (16 + 10 * a))) t) (fun b => 12 * n + mdv g n b) mk via k (fun j => eA (E3 (20 + n) (16 + 10 * j))) := hPJ
    have hot : ∀ o8, (∀ j8, j8 < mk → ¬ o8 = 16 + 10 * j8) → E3 (20 + n) o8 = E (20 + n) o8 := hot
    have hl : lv_has ls 4 [(3, .int (nI k)), (2, .int (nI via)), (1, .ref (ad (20 + n) 3)), (0, .ref (ad (20 + n) 0))] := hl
    have hP : va_P D xcl (rp ad E3 RL) H := hP
    have hD : va_D A (rp ad E3 RL) := hD
    have hDIs := DIs_RU hRI.ru hnd12 hDIs0
    have hLIs := LIs_RU hRI.ru hLIs0
    have hTL1 : TLas g ad E3 nd nL := TLas_ro (fun n9 o9 hn9 ho9 => by
      by_cases q : n9 = n
      · rw [q]; exact hot o9 (fun k9 _ e9 => by rcases ho9 with z | z | ⟨z, z2⟩ <;> omega)
      · exact hRI.out (by omega)) hTL
    have hk9 : ∀ k, k < mk → fm k = some (ad (20 + n) (10 + 10 * k)) ∧ MEI kA ad E3 RL nd n k := fun k h => ⟨(hfm k h).1, MEI_RU hRI.ru (hfm k h).2⟩
    have c_7 : E3 (20 + n) 0 = .inr (5, [.int (nI n), pv, .ref (ad (20 + n) 1), .int lo]) := hRI.obj yc0
    have c_8 : E3 (20 + n) 1 = .inl (kA 6, mk, .inr (.inr (.inr (.inr fm)))) := hRI.arr yc1
    have c_9 : E3 (20 + n) 3 = .inl (kA 7, mk, .inr (.inr (.inr (.inr fs)))) := hRI.arr yc2
    refine lv_iload_n hx hb xd_Ly_follow_13 rfl (lv_at hl 0 rfl) ?_
    refine lv_aload_n hx hb xd_Ly_follow_14 rfl (lv_at hl 3 rfl) ?_
    refine px_get (D := D) (ci := 5) (v := .ref (ad (20 + n) 1)) (C := xR_Ly) (T := xT_Ly) (N := 4) hx hb hT xi_Ly hown hK.1 hP ym0 c_7 rfl 2 (by decide) (hT _ k5t_0) (fun _ h9 => h9) rfl xd_Ly_follow_15 ?_
    refine px_alen hx hb hK.1 hP ym1 c_8 6 rfl xd_Ly_follow_18 ?_
    refine W.eq (g2 := F0 m 19 ls [.int (nI mk), .int (nI k)]) rfl ?_
    refine xn_ge (a := k) (b := mk) (tgt := 52) hx hb xd_Ly_follow_19 (by decide) (by omega) (by omega) (fun hc10 => ?_) (fun hc10 => ?_)
    · refine lv_iinc (k := 1) (x := (nI via)) (v := (nI (via + 1))) hx hb xd_Ly_follow_52 hl rfl (xb_inc via 1) (Nat.le_of_ble_eq_true rfl) rfl (fun ls hl => ?_)
      have hl : lv_has ls 4 [(2, .int (nI (via + 1))), (3, .int (nI k)), (1, .ref (ad (20 + n) 3)), (0, .ref (ad (20 + n) 0))] := hl
      refine lv_goto (tgt := 2) hx hb xd_Ly_follow_55 (by decide) ?_
      exact ih1 (via + 1, E3) _ _ _ (show mk - (via + 1) < mk - via by omega) (lv_sub hl [0, 2, 3] rfl) hP hD hS ⟨(show (via + 1) ≤ mk from by first | assumption | omega), (show RI kA (20 + n) E E3 from hRI), (show ∀ k, k < mk → ∀ t, t < 72 → (BS (eA (E3 (20 + n) (16 + 10 * k))) t ↔ PW (fun a t => BS (eA (E (20 + n) (16 + 10 * a))) t) (fun b => 12 * n + mdv g n b) (via + 1) k t) from PJ_e (by omega) hPJ), (show ∀ o8, (∀ j8, j8 < mk → ¬ o8 = 16 + 10 * j8) → E3 (20 + n) o8 = E (20 + n) o8 from hot)⟩
    · have hM11 := (hk9 k (by omega)).2
      obtain ⟨hm_12, d_12, rs_12, fr_12, g2_12, g3_12, g4_12, hd_12, hrs_12, q0_12, q1_12, q2_12, q3_12, q4_12, q5_12, q6_12, q7_12⟩ := id hM11
      have c_13 : E3 (20 + n) (10 + 10 * k) = .inr (6, [.ref (ad (20 + n) 0), .ref (ad (1 + d_12) 0), .ref (ad (20 + n) (11 + 10 * k)), .ref (ad (20 + n) (12 + 10 * k)), .ref (ad (20 + n) (13 + 10 * k)), .ref (ad (20 + n) (14 + 10 * k))]) := q0_12
      have m_14 : (20 + n, 10 + 10 * k) ∈ RL := hm_12 0 (by omega)
      have c_15 : E3 (20 + n) (11 + 10 * k) = .inl (kA 6, rs_12, .inr (.inr (.inr (.inr fr_12)))) := q1_12
      have m_16 : (20 + n, 11 + 10 * k) ∈ RL := hm_12 1 (by omega)
      have c_17 : E3 (20 + n) (12 + 10 * k) = .inr (10, [.ref (ad (20 + n) (15 + 10 * k))]) := q2_12
      have m_18 : (20 + n, 12 + 10 * k) ∈ RL := hm_12 2 (by omega)
      have c_19 : E3 (20 + n) (13 + 10 * k) = .inr (10, [.ref (ad (20 + n) (16 + 10 * k))]) := q3_12
      have m_20 : (20 + n, 13 + 10 * k) ∈ RL := hm_12 3 (by omega)
      have c_21 : E3 (20 + n) (14 + 10 * k) = .inr (10, [.ref (ad (20 + n) (17 + 10 * k))]) := q4_12
      have m_22 : (20 + n, 14 + 10 * k) ∈ RL := hm_12 4 (by omega)
      have c_23 : E3 (20 + n) (15 + 10 * k) = .inl (kA 0, 6, .inl g2_12) := q5_12
      have m_24 : (20 + n, 15 + 10 * k) ∈ RL := hm_12 5 (by omega)
      have c_25 : E3 (20 + n) (16 + 10 * k) = .inl (kA 0, 6, .inl g3_12) := q6_12
      have m_26 : (20 + n, 16 + 10 * k) ∈ RL := hm_12 6 (by omega)
      have c_27 : E3 (20 + n) (17 + 10 * k) = .inl (kA 0, 6, .inl g4_12) := q7_12
      have m_28 : (20 + n, 17 + 10 * k) ∈ RL := hm_12 7 (by omega)
      have hrwk : eA (E3 (20 + n) (16 + 10 * k)) = g3_12 := by rw [c_25]; rfl
      have hM29 := (hk9 via (by omega)).2
      obtain ⟨hm_30, d_30, rs_30, fr_30, g2_30, g3_30, g4_30, hd_30, hrs_30, q0_30, q1_30, q2_30, q3_30, q4_30, q5_30, q6_30, q7_30⟩ := id hM29
      have c_31 : E3 (20 + n) (10 + 10 * via) = .inr (6, [.ref (ad (20 + n) 0), .ref (ad (1 + d_30) 0), .ref (ad (20 + n) (11 + 10 * via)), .ref (ad (20 + n) (12 + 10 * via)), .ref (ad (20 + n) (13 + 10 * via)), .ref (ad (20 + n) (14 + 10 * via))]) := q0_30
      have m_32 : (20 + n, 10 + 10 * via) ∈ RL := hm_30 0 (by omega)
      have c_33 : E3 (20 + n) (11 + 10 * via) = .inl (kA 6, rs_30, .inr (.inr (.inr (.inr fr_30)))) := q1_30
      have m_34 : (20 + n, 11 + 10 * via) ∈ RL := hm_30 1 (by omega)
      have c_35 : E3 (20 + n) (12 + 10 * via) = .inr (10, [.ref (ad (20 + n) (15 + 10 * via))]) := q2_30
      have m_36 : (20 + n, 12 + 10 * via) ∈ RL := hm_30 2 (by omega)
      have c_37 : E3 (20 + n) (13 + 10 * via) = .inr (10, [.ref (ad (20 + n) (16 + 10 * via))]) := q3_30
      have m_38 : (20 + n, 13 + 10 * via) ∈ RL := hm_30 3 (by omega)
      have c_39 : E3 (20 + n) (14 + 10 * via) = .inr (10, [.ref (ad (20 + n) (17 + 10 * via))]) := q4_30
      have m_40 : (20 + n, 14 + 10 * via) ∈ RL := hm_30 4 (by omega)
      have c_41 : E3 (20 + n) (15 + 10 * via) = .inl (kA 0, 6, .inl g2_30) := q5_30
      have m_42 : (20 + n, 15 + 10 * via) ∈ RL := hm_30 5 (by omega)
      have c_43 : E3 (20 + n) (16 + 10 * via) = .inl (kA 0, 6, .inl g3_30) := q6_30
      have m_44 : (20 + n, 16 + 10 * via) ∈ RL := hm_30 6 (by omega)
      have c_45 : E3 (20 + n) (17 + 10 * via) = .inl (kA 0, 6, .inl g4_30) := q7_30
      have m_46 : (20 + n, 17 + 10 * via) ∈ RL := hm_30 7 (by omega)
      have hrwvia : eA (E3 (20 + n) (16 + 10 * via)) = g3_30 := by rw [c_43]; rfl
      have hdmv : mdv g n via = d_30 := by
        obtain ⟨_, _, h20z, hmz⟩ := hTL1 n hn
        rw [show eL (E3 (20 + n) 1) = mk from by rw [c_8]; rfl] at h20z hmz
        obtain ⟨dz, hdz, h21z, hvz⟩ := hmz via (by omega)
        rw [c_31] at hvz
        have ez := (rp_inj hD ((hDIs d_30 hd_30).1 0 (by omega)) ((hDIs dz hdz).1 0 (by omega)) (Value.ref.inj hvz)).1
        unfold mdv
        rw [h21z, iN_nI (by omega)]; omega
      refine lv_aload_n hx hb xd_Ly_follow_22 rfl (lv_at hl 2 rfl) ?_
      refine lv_iload_n hx hb xd_Ly_follow_23 rfl (lv_at hl 0 rfl) ?_
      refine px_aald (i := k) (x := (some (ad (20 + n) (13 + 10 * k)))) hx hb hK.1 hP ym2 c_9 7 rfl (hfs k (by omega)) (by omega) (by omega) xd_Ly_follow_24 ?_
      refine lv_aload_n hx hb xd_Ly_follow_25 rfl (lv_at hl 3 rfl) ?_
      refine px_get (D := D) (ci := 5) (v := .ref (ad (20 + n) 1)) (C := xR_Ly) (T := xT_Ly) (N := 4) hx hb hT xi_Ly hown hK.1 hP ym0 c_7 rfl 2 (by decide) (hT _ k5t_0) (fun _ h9 => h9) rfl xd_Ly_follow_26 ?_
      refine lv_iload_n hx hb xd_Ly_follow_29 rfl (lv_at hl 1 rfl) ?_
      refine px_aald (i := via) (x := (some (ad (20 + n) (10 + 10 * via)))) hx hb hK.1 hP ym1 c_8 6 rfl ((hk9 via (by omega)).1) (by omega) (by omega) xd_Ly_follow_30 ?_
      obtain ⟨hm_47, fd_47, nm_47, sd_47, k0_47, k1_47, k2_47, k3_47, f0_47, f1_47, f2_47, f3_47, fe_47, fo_47, tr_47, op_47, hk0_47, hk1_47, hk2_47, hk3_47, q0_47, q1_47, q2_47, q3_47, q4_47, q5_47, q6_47, q7_47, q8_47, q9_47, q10_47, q11_47, q12_47, hg_47⟩ := id (hDIs d_30 (by omega))
      have c_48 : E3 (1 + d_30) 0 = .inr (7, [.int (nI d_30), .int fd_47, .int nm_47, .ref (ad (1 + d_30) 1), .ref (ad (1 + d_30) 9), .ref (ad (1 + d_30) 10), .ref (ad (1 + d_30) 2), .ref (ad (1 + d_30) 11), .ref (ad (1 + d_30) 12), .ref (ad (1 + d_30) 3), .ref (ad (1 + d_30) 4), .int sd_47]) := q0_47
      have m_49 : (1 + d_30, 0) ∈ RL := hm_47 0 (by omega)
      have c_50 : E3 (1 + d_30) 1 = .inr (8, [.ref (ad (1 + d_30) 5), .int (nI k0_47)]) := q1_47
      have m_51 : (1 + d_30, 1) ∈ RL := hm_47 1 (by omega)
      have c_52 : E3 (1 + d_30) 2 = .inr (8, [.ref (ad (1 + d_30) 6), .int (nI k1_47)]) := q2_47
      have m_53 : (1 + d_30, 2) ∈ RL := hm_47 2 (by omega)
      have c_54 : E3 (1 + d_30) 3 = .inr (8, [.ref (ad (1 + d_30) 7), .int (nI k2_47)]) := q3_47
      have m_55 : (1 + d_30, 3) ∈ RL := hm_47 3 (by omega)
      have c_56 : E3 (1 + d_30) 4 = .inr (8, [.ref (ad (1 + d_30) 8), .int (nI k3_47)]) := q4_47
      have m_57 : (1 + d_30, 4) ∈ RL := hm_47 4 (by omega)
      have c_58 : E3 (1 + d_30) 5 = .inl (kA 0, 6, .inl f0_47) := q5_47
      have m_59 : (1 + d_30, 5) ∈ RL := hm_47 5 (by omega)
      have c_60 : E3 (1 + d_30) 6 = .inl (kA 0, 5, .inl f1_47) := q6_47
      have m_61 : (1 + d_30, 6) ∈ RL := hm_47 6 (by omega)
      have c_62 : E3 (1 + d_30) 7 = .inl (kA 0, 3, .inl f2_47) := q7_47
      have m_63 : (1 + d_30, 7) ∈ RL := hm_47 7 (by omega)
      have c_64 : E3 (1 + d_30) 8 = .inl (kA 0, 3, .inl f3_47) := q8_47
      have m_65 : (1 + d_30, 8) ∈ RL := hm_47 8 (by omega)
      have c_66 : E3 (1 + d_30) 9 = .inl (kA 8, 6, .inr (.inr (.inr (.inr fe_47)))) := q9_47
      have m_67 : (1 + d_30, 9) ∈ RL := hm_47 9 (by omega)
      have c_68 : E3 (1 + d_30) 10 = .inl (kA 8, 6, .inr (.inr (.inr (.inr fo_47)))) := q10_47
      have m_69 : (1 + d_30, 10) ∈ RL := hm_47 10 (by omega)
      have c_70 : E3 (1 + d_30) 11 = .inl (kA 2, 5, .inl tr_47) := q11_47
      have m_71 : (1 + d_30, 11) ∈ RL := hm_47 11 (by omega)
      have c_72 : E3 (1 + d_30) 12 = .inl (kA 2, 5, .inl op_47) := q12_47
      have m_73 : (1 + d_30, 12) ∈ RL := hm_47 12 (by omega)
      have hg_47 : ∀ w9, w9 < k0_47 → fe_47 w9 = some (ad (1 + d_30) (20 + 3 * w9)) ∧ fo_47 w9 = some (ad (1 + d_30) (38 + 3 * w9)) ∧ GI kA (ad (1 + d_30)) (E3 (1 + d_30)) (fun o => (1 + d_30, o) ∈ RL) (20 + 3 * w9) (21 + 3 * w9) (22 + 3 * w9) ∧ GI kA (ad (1 + d_30)) (E3 (1 + d_30)) (fun o => (1 + d_30, o) ∈ RL) (38 + 3 * w9) (39 + 3 * w9) (40 + 3 * w9) := hg_47
      have hFc := px_free hD hS hA
      refine va_calli (va_runV (As := [.ref (ad (20 + n) (10 + 10 * via))]) (rest := []) ⟨hx, hb, hml, hown, hT⟩ (xc_Re_marks l D kA H.size ad E3 RL (20 + n) (13 + 10 * k) (16 + 10 * k) g3_12 n via d_30 pv lo fd_47 nm_47 sd_47 m_20 c_19 m_26 c_25 m_32 c_31 ym0 c_7 m_49 c_48 (by first | assumption | omega)) (cwV 1 hT (wT_V k5t_2 k5t_3 k5t_4 k5t_5 k5t_1) rfl rfl rfl (by decide +kernel) ⟨Nat.le_of_ble_eq_true rfl, Nat.le_of_ble_eq_true rfl⟩) (px_preV hK hP hD m_20 c_19 rfl) rfl rfl hl.1 rfl (lv_room (Nat.le_of_ble_eq_true rfl)) xd_Ly_follow_31 ⟨(Nat.le_of_ble_eq_true rfl), (Nat.le_of_ble_eq_true rfl)⟩) hS (fun q _ h => hFc q h) hFc (fun r74 u75 t H1 locs ht hvm hp76 hB hz1 hk1 hS => ?_)
      obtain ⟨hP1, hD1⟩ := hB
      rw [ht] at hP1
      have hD1 := hD1.weaken (fun _ _ _ h => hFc _ h)
      generalize H1 = H at hP1 hS ⊢
      have hP := hP1
      have hD := hD1
      have hP : va_P D xcl (rp ad E3 RL) H := hP
      have hD : va_D A (rp ad E3 RL) := hD
      rcases hp76 with ⟨rfl, z77⟩ | ⟨rfl, z78⟩
      · have hmk9 : PW (fun a t => BS (eA (E (20 + n) (16 + 10 * a))) t) (fun b => 12 * n + mdv g n b) via k ((fun b => 12 * n + mdv g n b) via) := ((BS_marks (f := g3_12) (n := n) (d := d_30) (by omega)).trans (by rw [← hrwk, ← hdmv]; exact PJ_at hPJ (by omega) (by have q := hdmv; omega))).mp z77
        refine W.eq (g2 := F0 m 34 ls [.int 1]) rfl ?_
        refine lv_if_eq (tgt := 46) hx hb xd_Ly_follow_34 (by decide) (fun hc79 => absurd hc79 (by decide)) (fun _ => ?_)
        by_cases hkv : k = via
        · rw [hkv] at hl
          have hl : lv_has ls 4 [(3, .int (nI via)), (2, .int (nI via)), (1, .ref (ad (20 + n) 3)), (0, .ref (ad (20 + n) 0))] := hl
          refine lv_aload_n hx hb xd_Ly_follow_37 rfl (lv_at hl 2 rfl) ?_
          refine lv_iload_n hx hb xd_Ly_follow_38 rfl (lv_at hl 0 rfl) ?_
          refine px_aald (i := via) (x := (some (ad (20 + n) (13 + 10 * via)))) hx hb hK.1 hP ym2 c_9 7 rfl (hfs via (by omega)) (by omega) (by omega) xd_Ly_follow_39 ?_
          refine lv_aload_n hx hb xd_Ly_follow_40 rfl (lv_at hl 2 rfl) ?_
          refine lv_iload_n hx hb xd_Ly_follow_41 rfl (lv_at hl 1 rfl) ?_
          refine px_aald (i := via) (x := (some (ad (20 + n) (13 + 10 * via)))) hx hb hK.1 hP ym2 c_9 7 rfl (hfs via (by omega)) (by omega) (by omega) xd_Ly_follow_42 ?_
          have hFc := px_free hD hS hA
          refine va_callv (va_runV (As := [.ref (ad (20 + n) (13 + 10 * via))]) (rest := []) ⟨hx, hb, hml, hown, hT⟩ (xc_Re_joinSX l D kA H.size ad E3 RL (20 + n) (13 + 10 * via) (16 + 10 * via) g3_30 m_38 c_37 m_44 c_43 (by first | assumption | omega)) (cwV 1 hT (wT_V k5t_7 k5t_8 k5t_9 k5t_5 k5t_6) rfl rfl rfl (by decide +kernel) ⟨Nat.le_of_ble_eq_true rfl, Nat.le_of_ble_eq_true rfl⟩) (px_preV hK hP hD m_38 c_37 rfl) rfl rfl hl.1 rfl (lv_room (Nat.le_of_ble_eq_true rfl)) xd_Ly_follow_43 ⟨(Nat.le_of_ble_eq_true rfl), (Nat.le_of_ble_eq_true rfl)⟩) hS (fun q _ h => hFc q h) hFc (fun u81 t H1 locs ht hvm hp82 hB hz1 hk1 hS => ?_)
          obtain ⟨hP1, hD1⟩ := hB
          rw [ht] at hP1
          have hD1 := hD1.weaken (fun _ _ _ h => hFc _ h)
          generalize H1 = H at hP1 hS ⊢
          have hP := hP1
          have hD := hD1
          obtain ⟨E83, rfl⟩ : ∃ z, z = u81 := ⟨_, rfl⟩
          obtain ⟨w84, hp87, p_85, p_86⟩ := hp82
          have p_85 : E83 (20 + n) (16 + 10 * via) = .inl (kA 0, 6, .inl w84) := p_85
          have p_86 : (∀ b2 o2, ¬ (b2 = (20 + n) ∧ o2 = (16 + 10 * via)) → E83 b2 o2 = E3 b2 o2) := p_86
          have c_88 : E83 (20 + n) (13 + 10 * via) = .inr (10, [.ref (ad (20 + n) (16 + 10 * via))]) := (p_86 (20 + n) (13 + 10 * via) (by omega)).trans c_37
          have hP : va_P D xcl (rp ad E83 RL) H := hP
          have hD : va_D A (rp ad E83 RL) := hD
          have hPJn : PJ (fun a t => BS (eA (E (20 + n) (16 + 10 * a))) t) (fun b => 12 * n + mdv g n b) mk via (k + 1) (fun j => eA (E83 (20 + n) (16 + 10 * j))) := PJ_y (Rw := (fun j => eA (E3 (20 + n) (16 + 10 * j)))) (by omega) (by omega) hmk9 hPJ (fun j hj hne => by
            show eA (E83 (20 + n) (16 + 10 * j)) = eA (E3 (20 + n) (16 + 10 * j))
            rw [p_86 (20 + n) (16 + 10 * j) (by omega)]) (fun t ht => by
            show BS (eA (E83 (20 + n) (16 + 10 * k))) t ↔ (BS (eA (E3 (20 + n) (16 + 10 * k))) t ∨ BS (eA (E3 (20 + n) (16 + 10 * via))) t)
            rw [hkv, hrwvia, show eA (E83 (20 + n) (16 + 10 * via)) = w84 from by rw [p_85]; rfl]
            exact BS_join ht hp87)
          refine lv_iinc (k := 0) (x := (nI via)) (v := (nI (via + 1))) hx hb xd_Ly_follow_46 hl rfl (xb_inc via 1) (Nat.le_of_ble_eq_true rfl) rfl (fun ls hl => ?_)
          have hl : lv_has ls 4 [(3, .int (nI (via + 1))), (2, .int (nI via)), (1, .ref (ad (20 + n) 3)), (0, .ref (ad (20 + n) 0))] := hl
          refine lv_goto (tgt := 13) hx hb xd_Ly_follow_49 (by decide) ?_
          exact ih6 (via + 1, E83) _ _ _ (show mk - (via + 1) < mk - k by omega) (lv_sub hl [0, 1, 2, 3] rfl) hP hD hS ⟨(show (via + 1) ≤ mk from by first | assumption | omega), (show RI kA (20 + n) E E83 from RI.trans' hRI (RI.row c_43 p_85 p_86)), (show PJ (fun a t => BS (eA (E (20 + n) (16 + 10 * a))) t) (fun b => 12 * n + mdv g n b) mk via (via + 1) (fun j => eA (E83 (20 + n) (16 + 10 * j))) from (by have q := hPJn; rw [hkv] at q; exact q)), (show ∀ o8, (∀ j8, j8 < mk → ¬ o8 = 16 + 10 * j8) → E83 (20 + n) o8 = E (20 + n) o8 from fun o9 h9 => (p_86 (20 + n) o9 (by
        have q := h9 via (by omega)
        omega)).trans (hot o9 h9))⟩
        · have hkv := hkv
          refine lv_aload_n hx hb xd_Ly_follow_37 rfl (lv_at hl 2 rfl) ?_
          refine lv_iload_n hx hb xd_Ly_follow_38 rfl (lv_at hl 0 rfl) ?_
          refine px_aald (i := k) (x := (some (ad (20 + n) (13 + 10 * k)))) hx hb hK.1 hP ym2 c_9 7 rfl (hfs k (by omega)) (by omega) (by omega) xd_Ly_follow_39 ?_
          refine lv_aload_n hx hb xd_Ly_follow_40 rfl (lv_at hl 2 rfl) ?_
          refine lv_iload_n hx hb xd_Ly_follow_41 rfl (lv_at hl 1 rfl) ?_
          refine px_aald (i := via) (x := (some (ad (20 + n) (13 + 10 * via)))) hx hb hK.1 hP ym2 c_9 7 rfl (hfs via (by omega)) (by omega) (by omega) xd_Ly_follow_42 ?_
          have hFc := px_free hD hS hA
          refine va_callv (va_runV (As := [.ref (ad (20 + n) (13 + 10 * via))]) (rest := []) ⟨hx, hb, hml, hown, hT⟩ (xc_Re_joinX l D kA H.size ad E3 RL (20 + n) (13 + 10 * k) (16 + 10 * k) g3_12 (20 + n) (13 + 10 * via) (16 + 10 * via) g3_30 m_20 c_19 m_26 c_25 m_38 c_37 m_44 c_43 (by first | assumption | omega) (by first | assumption | omega)) (cwV 1 hT (wT_V k5t_7 k5t_8 k5t_9 k5t_5 k5t_6) rfl rfl rfl (by decide +kernel) ⟨Nat.le_of_ble_eq_true rfl, Nat.le_of_ble_eq_true rfl⟩) (px_preV hK hP hD m_20 c_19 rfl) rfl rfl hl.1 rfl (lv_room (Nat.le_of_ble_eq_true rfl)) xd_Ly_follow_43 ⟨(Nat.le_of_ble_eq_true rfl), (Nat.le_of_ble_eq_true rfl)⟩) hS (fun q _ h => hFc q h) hFc (fun u90 t H1 locs ht hvm hp91 hB hz1 hk1 hS => ?_)
          obtain ⟨hP1, hD1⟩ := hB
          rw [ht] at hP1
          have hD1 := hD1.weaken (fun _ _ _ h => hFc _ h)
          generalize H1 = H at hP1 hS ⊢
          have hP := hP1
          have hD := hD1
          obtain ⟨E92, rfl⟩ : ∃ z, z = u90 := ⟨_, rfl⟩
          obtain ⟨w93, hp96, p_94, p_95⟩ := hp91
          have p_94 : E92 (20 + n) (16 + 10 * k) = .inl (kA 0, 6, .inl w93) := p_94
          have p_95 : (∀ b2 o2, ¬ (b2 = (20 + n) ∧ o2 = (16 + 10 * k)) → E92 b2 o2 = E3 b2 o2) := p_95
          have c_97 : E92 (20 + n) (13 + 10 * k) = .inr (10, [.ref (ad (20 + n) (16 + 10 * k))]) := (p_95 (20 + n) (13 + 10 * k) (by omega)).trans c_19
          have c_98 : E92 (20 + n) (13 + 10 * via) = .inr (10, [.ref (ad (20 + n) (16 + 10 * via))]) := (p_95 (20 + n) (13 + 10 * via) (by omega)).trans c_37
          have c_99 : E92 (20 + n) (16 + 10 * via) = .inl (kA 0, 6, .inl g3_30) := (p_95 (20 + n) (16 + 10 * via) (by omega)).trans c_43
          have hP : va_P D xcl (rp ad E92 RL) H := hP
          have hD : va_D A (rp ad E92 RL) := hD
          have hPJn : PJ (fun a t => BS (eA (E (20 + n) (16 + 10 * a))) t) (fun b => 12 * n + mdv g n b) mk via (k + 1) (fun j => eA (E92 (20 + n) (16 + 10 * j))) := PJ_y (Rw := (fun j => eA (E3 (20 + n) (16 + 10 * j)))) (by omega) (by omega) hmk9 hPJ (fun j hj hne => by
            show eA (E92 (20 + n) (16 + 10 * j)) = eA (E3 (20 + n) (16 + 10 * j))
            rw [p_95 (20 + n) (16 + 10 * j) (by omega)]) (fun t ht => by
            show BS (eA (E92 (20 + n) (16 + 10 * k))) t ↔ (BS (eA (E3 (20 + n) (16 + 10 * k))) t ∨ BS (eA (E3 (20 + n) (16 + 10 * via))) t)
            rw [hrwk, hrwvia, show eA (E92 (20 + n) (16 + 10 * k)) = w93 from by rw [p_94]; rfl]
            exact BS_join ht hp96)
          refine lv_iinc (k := 0) (x := (nI k)) (v := (nI (k + 1))) hx hb xd_Ly_follow_46 hl rfl (xb_inc k 1) (Nat.le_of_ble_eq_true rfl) rfl (fun ls hl => ?_)
          have hl : lv_has ls 4 [(3, .int (nI (k + 1))), (2, .int (nI via)), (1, .ref (ad (20 + n) 3)), (0, .ref (ad (20 + n) 0))] := hl
          refine lv_goto (tgt := 13) hx hb xd_Ly_follow_49 (by decide) ?_
          exact ih6 (k + 1, E92) _ _ _ (show mk - (k + 1) < mk - k by omega) (lv_sub hl [0, 1, 2, 3] rfl) hP hD hS ⟨(show (k + 1) ≤ mk from by first | assumption | omega), (show RI kA (20 + n) E E92 from RI.trans' hRI (RI.row c_25 p_94 p_95)), (show PJ (fun a t => BS (eA (E (20 + n) (16 + 10 * a))) t) (fun b => 12 * n + mdv g n b) mk via (k + 1) (fun j => eA (E92 (20 + n) (16 + 10 * j))) from hPJn), (show ∀ o8, (∀ j8, j8 < mk → ¬ o8 = 16 + 10 * j8) → E92 (20 + n) o8 = E (20 + n) o8 from fun o9 h9 => (p_95 (20 + n) o9 (by
        have q := h9 k (by omega)
        omega)).trans (hot o9 h9))⟩
      · have hmk9 : ¬ PW (fun a t => BS (eA (E (20 + n) (16 + 10 * a))) t) (fun b => 12 * n + mdv g n b) via k ((fun b => 12 * n + mdv g n b) via) := fun q => absurd z78 (((BS_marks (f := g3_12) (n := n) (d := d_30) (by omega)).trans (by rw [← hrwk, ← hdmv]; exact PJ_at hPJ (by omega) (by have q := hdmv; omega))).mpr q)
        refine W.eq (g2 := F0 m 34 ls [.int 0]) rfl ?_
        refine lv_if_eq (tgt := 46) hx hb xd_Ly_follow_34 (by decide) (fun _ => ?_) (fun hc100 => absurd (by decide) hc100)
        refine lv_iinc (k := 0) (x := (nI k)) (v := (nI (k + 1))) hx hb xd_Ly_follow_46 hl rfl (xb_inc k 1) (Nat.le_of_ble_eq_true rfl) rfl (fun ls hl => ?_)
        have hl : lv_has ls 4 [(3, .int (nI (k + 1))), (2, .int (nI via)), (1, .ref (ad (20 + n) 3)), (0, .ref (ad (20 + n) 0))] := hl
        refine lv_goto (tgt := 13) hx hb xd_Ly_follow_49 (by decide) ?_
        exact ih6 (k + 1, E3) _ _ _ (show mk - (k + 1) < mk - k by omega) (lv_sub hl [0, 1, 2, 3] rfl) hP hD hS ⟨(show (k + 1) ≤ mk from by first | assumption | omega), (show RI kA (20 + n) E E3 from hRI), (show PJ (fun a t => BS (eA (E (20 + n) (16 + 10 * a))) t) (fun b => 12 * n + mdv g n b) mk via (k + 1) (fun j => eA (E3 (20 + n) (16 + 10 * j))) from PJ_n hmk9 hPJ), (show ∀ o8, (∀ j8, j8 < mk → ¬ o8 = 16 + 10 * j8) → E3 (20 + n) o8 = E (20 + n) o8 from hot)⟩
