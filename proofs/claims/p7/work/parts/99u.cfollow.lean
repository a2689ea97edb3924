theorem k5t_0 : (Cond.fieldLink "LayerDesk$Layer" 19 "LayerDesk$Layer" "members" "[LLayerDesk$Member;") ∈ wT := wT_t (List.mem_append_right _ (List.mem_append_right _ (List.mem_append_left _ (List.mem_of_getElem? (i := 147) rfl)))) rfl
theorem k5t_1 : (Cond.code xy_Re_marks xb_Re_marks 2 (some .boolean)) ∈ wT := wT_t (List.mem_append_left _ (List.mem_of_getElem? (i := 177) rfl)) rfl
theorem k5t_2 : (Cond.methodLink "LayerDesk$Layer" 66 xy_Re_marks) ∈ wT := wT_t (List.mem_append_right _ (List.mem_append_right _ (List.mem_append_left _ (List.mem_of_getElem? (i := 230) rfl)))) rfl
theorem k5t_3 : (Cond.instanceMethod xy_Re_marks) ∈ wT := wT_t (List.mem_append_left _ (List.mem_of_getElem? (i := 175) rfl)) rfl
theorem k5t_4 : (Cond.selects "LayerDesk$Reach" xy_Re_marks xy_Re_marks) ∈ wT := wT_t (List.mem_append_left _ (List.mem_of_getElem? (i := 176) rfl)) rfl
theorem k5t_5 : (Cond.initialized "LayerDesk$Reach") ∈ wT := wT_t (List.mem_append_left _ (List.mem_of_getElem? (i := 21) rfl)) rfl
theorem k5t_6 : (Cond.code xy_Re_join xb_Re_join 3 none) ∈ wT := wT_t (List.mem_append_right _ (List.mem_append_right _ (List.mem_append_left _ (List.mem_of_getElem? (i := 225) rfl)))) rfl
theorem k5t_7 : (Cond.methodLink "LayerDesk$Layer" 73 xy_Re_join) ∈ wT := wT_t (List.mem_append_right _ (List.mem_append_right _ (List.mem_append_left _ (List.mem_of_getElem? (i := 231) rfl)))) rfl
theorem k5t_8 : (Cond.instanceMethod xy_Re_join) ∈ wT := wT_t (List.mem_append_right _ (List.mem_append_right _ (List.mem_append_left _ (List.mem_of_getElem? (i := 223) rfl)))) rfl
theorem k5t_9 : (Cond.selects "LayerDesk$Reach" xy_Re_join xy_Re_join) ∈ wT := wT_t (List.mem_append_right _ (List.mem_append_right _ (List.mem_append_left _ (List.mem_of_getElem? (i := 224) rfl)))) rfl
set_option maxHeartbeats 4000000 in
set_option maxRecDepth 100000 in
theorem xc_Ly_followLX (l : Launch) (D : va_G) (kA : Nat → ClassId) (sz : Nat) (ad : Nat → Nat → Nat) (E : Nat → Nat → va_E) (RL : List (Nat × Nat)) (g : Nat → Nat → Int32) (nd : Nat) (nL : Nat) (n : Nat) (pv : Value) (lo : Int32) (mk : Nat) (fm : Nat → Option Nat) (fs : Nat → Option Nat) (ym0 : (20 + n, 0) ∈ RL) (yc0 : E (20 + n) 0 = .inr (5, [.int (nI n), pv, .ref (ad (20 + n) 1), .int lo])) (ym1 : (20 + n, 1) ∈ RL) (yc1 : E (20 + n) 1 = .inl (kA 6, mk, .inr (.inr (.inr (.inr fm))))) (ym2 : (20 + n, 2) ∈ RL) (yc2 : E (20 + n) 2 = .inl (kA 7, mk, .inr (.inr (.inr (.inr fs))))) (hDIs : DIs kA ad E RL nd) (hLIs : LIs kA ad E RL nd nL) (hnd12 : nd ≤ 12) (hnL : nL ≤ 6) (hn : n < nL) (hmk : mk ≤ 12) (hfm : ∀ k, k < mk → fm k = some (ad (20 + n) (10 + 10 * k)) ∧ MEI kA ad E RL nd n k) (hfs : ∀ k, k < mk → fs k = some (ad (20 + n) (12 + 10 * k))) (hTL : TLas g ad E nd nL) : Met l xy_Ly_follow (.code xy_Ly_follow xb_Ly_follow 4 none :: wT) { frames := 1, cells := 0, slots := 0, locals := 22 } (va_Pc [.ref (ad (20 + n) 0), .ref (ad (20 + n) 2)] (xPre D kA sz (rp ad E RL))) (va_Qv (fun (u : Nat → Nat → va_E) => RI kA (20 + n) E u ∧ (∀ k, k < mk → ∀ t, t < 72 → (BS (eA (u (20 + n) (15 + 10 * k))) t ↔ PW (fun a t => BS (eA (E (20 + n) (15 + 10 * a))) t) (fun b => 12 * n + mdv g n b) mk k t)) ∧ (∀ o8, (∀ j8, j8 < mk → ¬ o8 = 15 + 10 * j8) → u (20 + n) o8 = E (20 + n) o8)) (fun (u : Nat → Nat → va_E) t => va_P D xcl (rp ad u RL) t.heap ∧ va_D (va_A (rp ad E RL) sz) (rp ad u RL)) (va_A (rp ad E RL) sz)) 0 0 (va_A (rp ad E RL) sz) := by
  refine Met.ofW (cc := xb_Ly_follow) (maxL := 4) (ret := none) (by decide) rfl ?_
  intro p e s m args below meth c s₁ B hml hv
  obtain ⟨rfl, hsz, hP, hK, hD0⟩ := hv
  have hx := B.exec
  have hb := B.bytes
  have hr := B.returns
  have hT := x_hT B.pre
  have hown : s.vm.findClass xR_Ly = some m.cls := findClass_of_methodNamed B.named
  have hlocks := B.notSynchronized
  subst hsz
  have hD := hD0.self (sz := s.heap.size)
  generalize hAe : va_A (rp ad E RL) s.heap.size = A at hD ⊢
  have hA : ∀ q : Nat, s.heap.size ≤ q → A q := fun q h => by rw [← hAe]; exact Or.inr h
  have hS : va_S A s.heap s.heap [] := va_S.rf
  have hl := lv_entry ([.ref (ad (20 + n) 0), .ref (ad (20 + n) 2)]) (n := 4) (Nat.le_of_ble_eq_true rfl)
  rw [lg_entry_eq]
  generalize (lg_sl ([.ref (ad (20 + n) 0), .ref (ad (20 + n) 2)]) ++ List.replicate (4 - (lg_sl ([.ref (ad (20 + n) 0), .ref (ad (20 + n) 2)])).length) Slot.unset).toArray = ls at hl ⊢
  have hl : lv_has ls 4 [(0, .ref (ad (20 + n) 0)), (1, .ref (ad (20 + n) 2))] := hl
  have hP : va_P D xcl (rp ad E RL) s.heap := hP
  have hDIs0 := hDIs
  have hLIs0 := hLIs
  refine lv_iconst (v := 0) hx hb xd_Ly_follow_0 (by decide) ?_
  refine lv_istore_n hx hb xd_Ly_follow_1 rfl hl (Nat.le_of_ble_eq_true rfl) rfl (fun ls hl => ?_)
  have hl : lv_has ls 4 [(2, .int 0), (0, .ref (ad (20 + n) 0)), (1, .ref (ad (20 + n) 2))] := hl
  refine xlab (σ := Nat × (Nat → Nat → va_E)) (ml := 4) 2 (fun (via, E1) => [(2, .int (nI via)), (1, .ref (ad (20 + n) 2)), (0, .ref (ad (20 + n) 0))]) (fun (via, E1) => []) (fun (via, E1) => rp ad E1 RL) (fun (via, E1) => (via ≤ mk) ∧ (RI kA (20 + n) E E1) ∧ (∀ k, k < mk → ∀ t, t < 72 → (BS (eA (E1 (20 + n) (15 + 10 * k))) t ↔ PW (fun a t => BS (eA (E (20 + n) (15 + 10 * a))) t) (fun b => 12 * n + mdv g n b) via k t)) ∧ (∀ o8, (∀ j8, j8 < mk → ¬ o8 = 15 + 10 * j8) → E1 (20 + n) o8 = E (20 + n) o8)) (fun (via, E1) => mk - via) ?_ (0, E) _ _ _ (lv_sub hl [0, 2, 1] rfl) hP hD hS ⟨(show 0 ≤ mk from by first | assumption | omega), (show RI kA (20 + n) E E from RI.rfl'), (show ∀ k, k < mk → ∀ t, t < 72 → (BS (eA (E (20 + n) (15 + 10 * k))) t ↔ PW (fun a t => BS (eA (E (20 + n) (15 + 10 * a))) t) (fun b => 12 * n + mdv g n b) 0 k t) from fun j hj t ht => Iff.rfl), (show ∀ o8, (∀ j8, j8 < mk → ¬ o8 = 15 + 10 * j8) → E (20 + n) o8 = E (20 + n) o8 from fun o _ => rfl)⟩
  intro n9 ih1 a9 ls H locs hμ hl hP hD hS hI
  subst hμ
  obtain ⟨via, E1⟩ := a9
  obtain ⟨hi, hRI, hPW, hot⟩ := hI
  have hi : via ≤ mk := hi
  have hRI : RI kA (20 + n) E E1 := hRI
  have hPW : ∀ k, k < mk → ∀ t, t < 72 → (BS (eA (E1 (20 + n) (15 + 10 * k))) t ↔ PW (fun a t => BS (eA (E (20 + n) (15 + 10 * a))) t) (fun b => 12 * n + mdv g n b) via k t) := hPW
  have hot : ∀ o8, (∀ j8, j8 < mk → ¬ o8 = 15 + 10 * j8) → E1 (20 + n) o8 = E (20 + n) o8 := hot
  have hl : lv_has ls 4 [(2, .int (nI via)), (1, .ref (ad (20 + n) 2)), (0, .ref (ad (20 + n) 0))] := hl
  have hP : va_P D xcl (rp ad E1 RL) H := hP
  have hD : va_D A (rp ad E1 RL) := hD
  have hDIs := DIs_RU hRI.ru hnd12 hDIs0
  have hLIs := LIs_RU hRI.ru hLIs0
  have hTL1 : TLas g ad E1 nd nL := TLas_ro (fun n9 o9 hn9 ho9 => by
    by_cases q : n9 = n
    · rw [q]; exact hot o9 (fun k9 _ e9 => by rcases ho9 with z | z | ⟨z, z2⟩ <;> omega)
    · exact hRI.out (by omega)) hTL
  have hk9 : ∀ k, k < mk → fm k = some (ad (20 + n) (10 + 10 * k)) ∧ MEI kA ad E1 RL nd n k := fun k h => ⟨(hfm k h).1, MEI_RU hRI.ru (hfm k h).2⟩
  have c_2 : E1 (20 + n) 0 = .inr (5, [.int (nI n), pv, .ref (ad (20 + n) 1), .int lo]) := hRI.obj yc0
  have c_3 : E1 (20 + n) 1 = .inl (kA 6, mk, .inr (.inr (.inr (.inr fm)))) := hRI.arr yc1
  have c_4 : E1 (20 + n) 2 = .inl (kA 7, mk, .inr (.inr (.inr (.inr fs)))) := hRI.arr yc2
  refine lv_iload_n hx hb xd_Ly_follow_2 rfl (lv_at hl 0 rfl) ?_
  refine lv_aload_n hx hb xd_Ly_follow_3 rfl (lv_at hl 2 rfl) ?_
  refine px_get (D := D) (ci := 5) (v := .ref (ad (20 + n) 1)) (C := xR_Ly) (T := xT_Ly) (N := 4) hx hb hT xi_Ly hown hK.1 hP ym0 c_2 rfl 2 (by decide) (hT _ k5t_0) (fun _ h9 => h9) rfl xd_Ly_follow_4 ?_
  refine px_alen hx hb hK.1 hP ym1 c_3 6 rfl xd_Ly_follow_7 ?_
  refine W.eq (g2 := F0 m 8 ls [.int (nI mk), .int (nI via)]) rfl ?_
  refine xn_ge (a := via) (b := mk) (tgt := 58) hx hb xd_Ly_follow_8 (by decide) (by omega) (by omega) (fun hc5 => ?_) (fun hc5 => ?_)
  · exact W.vret hx hb hr (fun t ht hW => ⟨⟨E1, rfl, ⟨hRI, (by have q := hPW; rw [show via = mk by omega] at q; exact q), hot⟩, by rw [ht]; exact hP, hD⟩, hS.F ht⟩) hS.2.2 xd_Ly_follow_58
  · refine lv_iconst (v := 0) hx hb xd_Ly_follow_11 (by decide) ?_
    refine lv_istore_n hx hb xd_Ly_follow_12 rfl hl (Nat.le_of_ble_eq_true rfl) rfl (fun ls hl => ?_)
    have hl : lv_has ls 4 [(3, .int 0), (2, .int (nI via)), (1, .ref (ad (20 + n) 2)), (0, .ref (ad (20 + n) 0))] := hl
    refine xlab (σ := Nat × (Nat → Nat → va_E)) (ml := 4) 13 (fun (k, E3) => [(3, .int (nI k)), (2, .int (nI via)), (1, .ref (ad (20 + n) 2)), (0, .ref (ad (20 + n) 0))]) (fun (k, E3) => []) (fun (k, E3) => rp ad E3 RL) (fun (k, E3) => (k ≤ mk) ∧ (RI kA (20 + n) E E3) ∧ (PJ (fun a t => BS (eA (E (20 + n) (15 + 10 * a))) t) (fun b => 12 * n + mdv g n b) mk via k (fun j => eA (E3 (20 + n) (15 + 10 * j)))) ∧ (∀ o8, (∀ j8, j8 < mk → ¬ o8 = 15 + 10 * j8) → E3 (20 + n) o8 = E (20 + n) o8)) (fun (k, E3) => mk - k) ?_ (0, E1) _ _ _ (lv_sub hl [0, 1, 2, 3] rfl) hP hD hS ⟨(show 0 ≤ mk from by first | assumption | omega), (show RI kA (20 + n) E E1 from hRI), (show PJ (fun a t => BS (eA (E (20 + n) (15 + 10 * a))) t) (fun b => 12 * n + mdv g n b) mk via 0 (fun j => eA (E1 (20 + n) (15 + 10 * j))) from PJ_0 hPW), (show ∀ o8, (∀ j8, j8 < mk → ¬ o8 = 15 + 10 * j8) → E1 (20 + n) o8 = E (20 + n) o8 from hot)⟩
    intro n9 ih6 a9 ls H locs hμ hl hP hD hS hI
    subst hμ
    obtain ⟨k, E3⟩ := a9
    obtain ⟨hk0, hRI, hPJ, hot⟩ := hI
    have hk0 : k ≤ mk := hk0
    have hRI : RI kA (20 + n) E E3 := hRI
    have hPJ : PJ (fun a t => BS (eA (E (20 + n) (15 + 10 * a))) t) (fun b => 12 * n + mdv g n b) mk via k (fun j => eA (E3 (20 + n) (15 + 10 * j))) := hPJ
    have hot : ∀ o8, (∀ j8, j8 < mk → ¬ o8 = 15 + 10 * j8) → E3 (20 + n) o8 = E (20 + n) o8 := hot
    have hl : lv_has ls 4 [(3, .int (nI k)), (2, .int (nI via)), (1, .ref (ad (20 + n) 2)), (0, .ref (ad (20 + n) 0))] := hl
    have hP : va_P D xcl (rp ad E3 RL) H := hP
    have hD : va_D A (rp ad E3 RL) := hD
    have hDIs := DIs_RU hRI.ru hnd12 hDIs0
    have hLIs := LIs_RU hRI.ru hLIs0
    have hTL1 : TLas g ad E3 nd nL := TLas_ro (fun n9 o9 hn9 ho9 => by
      by_cases q : n9 = n
      · rw [q]; exact hot o9 (fun k9 _ e9 => by rcases ho9 with z | z | ⟨z, z2⟩ <;> omega)
      · exact hRI.out (by omega)) hTL
    have hk9 : ∀ k, k < mk → fm k = some (ad (20 + n) (10 + 10 * k)) ∧ MEI kA ad E3 RL nd n k := fun k h => ⟨(hfm k h).1, MEI_RU hRI.ru (hfm k h).2⟩
    have c_7 : E3 (20 + n) 0 = .inr (5, [.int (nI n), pv, .ref (ad (20 + n) 1), .int lo]) := hRI.obj yc0
    have c_8 : E3 (20 + n) 1 = .inl (kA 6, mk, .inr (.inr (.inr (.inr fm)))) := hRI.arr yc1
    have c_9 : E3 (20 + n) 2 = .inl (kA 7, mk, .inr (.inr (.inr (.inr fs)))) := hRI.arr yc2
    refine lv_iload_n hx hb xd_Ly_follow_13 rfl (lv_at hl 0 rfl) ?_
    refine lv_aload_n hx hb xd_Ly_follow_14 rfl (lv_at hl 3 rfl) ?_
    refine px_get (D := D) (ci := 5) (v := .ref (ad (20 + n) 1)) (C := xR_Ly) (T := xT_Ly) (N := 4) hx hb hT xi_Ly hown hK.1 hP ym0 c_7 rfl 2 (by decide) (hT _ k5t_0) (fun _ h9 => h9) rfl xd_Ly_follow_15 ?_
    refine px_alen hx hb hK.1 hP ym1 c_8 6 rfl xd_Ly_follow_18 ?_
    refine W.eq (g2 := F0 m 19 ls [.int (nI mk), .int (nI k)]) rfl ?_
    refine xn_ge (a := k) (b := mk) (tgt := 52) hx hb xd_Ly_follow_19 (by decide) (by omega) (by omega) (fun hc10 => ?_) (fun hc10 => ?_)
    · refine lv_iinc (k := 1) (x := (nI via)) (v := (nI (via + 1))) hx hb xd_Ly_follow_52 hl rfl (xb_inc via 1) (Nat.le_of_ble_eq_true rfl) rfl (fun ls hl => ?_)
      have hl : lv_has ls 4 [(2, .int (nI (via + 1))), (3, .int (nI k)), (1, .ref (ad (20 + n) 2)), (0, .ref (ad (20 + n) 0))] := hl
      refine lv_goto (tgt := 2) hx hb xd_Ly_follow_55 (by decide) ?_
      exact ih1 (via + 1, E3) _ _ _ (show mk - (via + 1) < mk - via by omega) (lv_sub hl [0, 2, 3] rfl) hP hD hS ⟨(show (via + 1) ≤ mk from by first | assumption | omega), (show RI kA (20 + n) E E3 from hRI), (show ∀ k, k < mk → ∀ t, t < 72 → (BS (eA (E3 (20 + n) (15 + 10 * k))) t ↔ PW (fun a t => BS (eA (E (20 + n) (15 + 10 * a))) t) (fun b => 12 * n + mdv g n b) (via + 1) k t) from PJ_e (by omega) hPJ), (show ∀ o8, (∀ j8, j8 < mk → ¬ o8 = 15 + 10 * j8) → E3 (20 + n) o8 = E (20 + n) o8 from hot)⟩
    · have hM11 := (hk9 k (by omega)).2
      obtain ⟨hm_12, d_12, rs_12, fr_12, g2_12, g3_12, g4_12, hd_12, hrs_12, q0_12, q1_12, q2_12, q3_12, q4_12, q5_12, q6_12, q7_12⟩ := id hM11
      have c_13 : E3 (20 + n) (10 + 10 * k) = .inr (6, [.ref (ad (20 + n) 0), .ref (ad (1 + d_12) 0), .ref (ad (20 + n) (11 + 10 * k)), .ref (ad (20 + n) (12 + 10 * k)), .ref (ad (20 + n) (13 + 10 * k)), .ref (ad (20 + n) (14 + 10 * k))]) := q0_12
      have m_14 : (20 + n, 10 + 10 * k) ∈ RL := hm_12 0 (by omega)
      have c_15 : E3 (20 + n) (11 + 10 * k) = .inl (kA 6, rs_12, .inr (.inr (.inr (.inr fr_12)))) := q1_12
      have m_16 : (20 + n, 11 + 10 * k) ∈ RL := hm_12 1 (by omega)
      have c_17 : E3 (20 + n) (12 + 10 * k) = .inr (10, [.ref (ad (20 + n) (15 + 10 * k))]) := q2_12
      have m_18 : (20 + n, 12 + 10 * k) ∈ RL := hm_12 2 (by omega)
      have c_19 : E3 (20 + n) (13 + 10 * k) = .inr (10, [.ref (ad (20 + n) (16 + 10 * k))]) := q3_12
      have m_20 : (20 + n, 13 + 10 * k) ∈ RL := hm_12 3 (by omega)
      have c_21 : E3 (20 + n) (14 + 10 * k) = .inr (10, [.ref (ad (20 + n) (17 + 10 * k))]) := q4_12
      have m_22 : (20 + n, 14 + 10 * k) ∈ RL := hm_12 4 (by omega)
      have c_23 : E3 (20 + n) (15 + 10 * k) = .inl (kA 0, 6, .inl g2_12) := q5_12
      have m_24 : (20 + n, 15 + 10 * k) ∈ RL := hm_12 5 (by omega)
      have c_25 : E3 (20 + n) (16 + 10 * k) = .inl (kA 0, 6, .inl g3_12) := q6_12
      have m_26 : (20 + n, 16 + 10 * k) ∈ RL := hm_12 6 (by omega)
      have c_27 : E3 (20 + n) (17 + 10 * k) = .inl (kA 0, 6, .inl g4_12) := q7_12
      have m_28 : (20 + n, 17 + 10 * k) ∈ RL := hm_12 7 (by omega)
      have hrwk : eA (E3 (20 + n) (15 + 10 * k)) = g2_12 := by rw [c_23]; rfl
      have hM29 := (hk9 via (by omega)).2
      obtain ⟨hm_30, d_30, rs_30, fr_30, g2_30, g3_30, g4_30, hd_30, hrs_30, q0_30, q1_30, q2_30, q3_30, q4_30, q5_30, q6_30, q7_30⟩ := id hM29
      have c_31 : E3 (20 + n) (10 + 10 * via) = .inr (6, [.ref (ad (20 + n) 0), .ref (ad (1 + d_30) 0), .ref (ad (20 + n) (11 + 10 * via)), .ref (ad (20 + n) (12 + 10 * via)), .ref (ad (20 + n) (13 + 10 * via)), .ref (ad (20 + n) (14 + 10 * via))]) := q0_30
      have m_32 : (20 + n, 10 + 10 * via) ∈ RL := hm_30 0 (by omega)
      have c_33 : E3 (20 + n) (11 + 10 * via) = .inl (kA 6, rs_30, .inr (.inr (.inr (.inr fr_30)))) := q1_30
      have m_34 : (20 + n, 11 + 10 * via) ∈ RL := hm_30 1 (by omega)
      have c_35 : E3 (20 + n) (12 + 10 * via) = .inr (10, [.ref (ad (20 + n) (15 + 10 * via))]) := q2_30
      have m_36 : (20 + n, 12 + 10 * via) ∈ RL := hm_30 2 (by omega)
      have c_37 : E3 (20 + n) (13 + 10 * via) = .inr (10, [.ref (ad (20 + n) (16 + 10 * via))]) := q3_30
      have m_38 : (20 + n, 13 + 10 * via) ∈ RL := hm_30 3 (by omega)
      have c_39 : E3 (20 + n) (14 + 10 * via) = .inr (10, [.ref (ad (20 + n) (17 + 10 * via))]) := q4_30
      have m_40 : (20 + n, 14 + 10 * via) ∈ RL := hm_30 4 (by omega)
      have c_41 : E3 (20 + n) (15 + 10 * via) = .inl (kA 0, 6, .inl g2_30) := q5_30
      have m_42 : (20 + n, 15 + 10 * via) ∈ RL := hm_30 5 (by omega)
      have c_43 : E3 (20 + n) (16 + 10 * via) = .inl (kA 0, 6, .inl g3_30) := q6_30
      have m_44 : (20 + n, 16 + 10 * via) ∈ RL := hm_30 6 (by omega)
      have c_45 : E3 (20 + n) (17 + 10 * via) = .inl (kA 0, 6, .inl g4_30) := q7_30
      have m_46 : (20 + n, 17 + 10 * via) ∈ RL := hm_30 7 (by omega)
      have hrwvia : eA (E3 (20 + n) (15 + 10 * via)) = g2_30 := by rw [c_41]; rfl
      have hdmv : mdv g n via = d_30 := by
        obtain ⟨_, _, h20z, hmz⟩ := hTL1 n hn
        rw [show eL (E3 (20 + n) 1) = mk from by rw [c_8]; rfl] at h20z hmz
        obtain ⟨dz, hdz, h21z, hvz⟩ := hmz via (by omega)
        rw [c_31] at hvz
        have ez := (rp_inj hD ((hDIs d_30 hd_30).1 0 (by omega)) ((hDIs dz hdz).1 0 (by omega)) (Value.ref.inj hvz)).1
        unfold mdv
        rw [h21z, iN_nI (by omega)]; omega
      refine lv_aload_n hx hb xd_Ly_follow_22 rfl (lv_at hl 2 rfl) ?_
      refine lv_iload_n hx hb xd_Ly_follow_23 rfl (lv_at hl 0 rfl) ?_
      refine px_aald (i := k) (x := (some (ad (20 + n) (12 + 10 * k)))) hx hb hK.1 hP ym2 c_9 7 rfl (hfs k (by omega)) (by omega) (by omega) xd_Ly_follow_24 ?_
      refine lv_aload_n hx hb xd_Ly_follow_25 rfl (lv_at hl 3 rfl) ?_
      refine px_get (D := D) (ci := 5) (v := .ref (ad (20 + n) 1)) (C := xR_Ly) (T := xT_Ly) (N := 4) hx hb hT xi_Ly hown hK.1 hP ym0 c_7 rfl 2 (by decide) (hT _ k5t_0) (fun _ h9 => h9) rfl xd_Ly_follow_26 ?_
      refine lv_iload_n hx hb xd_Ly_follow_29 rfl (lv_at hl 1 rfl) ?_
      refine px_aald (i := via) (x := (some (ad (20 + n) (10 + 10 * via)))) hx hb hK.1 hP ym1 c_8 6 rfl ((hk9 via (by omega)).1) (by omega) (by omega) xd_Ly_follow_30 ?_
      obtain ⟨hm_47, fd_47, nm_47, sd_47, k0_47, k1_47, k2_47, k3_47, f0_47, f1_47, f2_47, f3_47, fe_47, fo_47, tr_47, op_47, hk0_47, hk1_47, hk2_47, hk3_47, q0_47, q1_47, q2_47, q3_47, q4_47, q5_47, q6_47, q7_47, q8_47, q9_47, q10_47, q11_47, q12_47, hg_47⟩ := id (hDIs d_30 (by omega))
      have c_48 : E3 (1 + d_30) 0 = .inr (7, [.int (nI d_30), .int fd_47, .int nm_47, .ref (ad (1 + d_30) 1), .ref (ad (1 + d_30) 9), .ref (ad (1 + d_30) 10), .ref (ad (1 + d_30) 2), .ref (ad (1 + d_30) 11), .ref (ad (1 + d_30) 12), .ref (ad (1 + d_30) 3), .ref (ad (1 + d_30) 4), .int sd_47]) := q0_47
      have m_49 : (1 + d_30, 0) ∈ RL := hm_47 0 (by omega)
      have c_50 : E3 (1 + d_30) 1 = .inr (8, [.ref (ad (1 + d_30) 5), .int (nI k0_47)]) := q1_47
      have m_51 : (1 + d_30, 1) ∈ RL := hm_47 1 (by omega)
      have c_52 : E3 (1 + d_30) 2 = .inr (8, [.ref (ad (1 + d_30) 6), .int (nI k1_47)]) := q2_47
      have m_53 : (1 + d_30, 2) ∈ RL := hm_47 2 (by omega)
      have c_54 : E3 (1 + d_30) 3 = .inr (8, [.ref (ad (1 + d_30) 7), .int (nI k2_47)]) := q3_47
      have m_55 : (1 + d_30, 3) ∈ RL := hm_47 3 (by omega)
      have c_56 : E3 (1 + d_30) 4 = .inr (8, [.ref (ad (1 + d_30) 8), .int (nI k3_47)]) := q4_47
      have m_57 : (1 + d_30, 4) ∈ RL := hm_47 4 (by omega)
      have c_58 : E3 (1 + d_30) 5 = .inl (kA 0, 6, .inl f0_47) := q5_47
      have m_59 : (1 + d_30, 5) ∈ RL := hm_47 5 (by omega)
      have c_60 : E3 (1 + d_30) 6 = .inl (kA 0, 5, .inl f1_47) := q6_47
      have m_61 : (1 + d_30, 6) ∈ RL := hm_47 6 (by omega)
      have c_62 : E3 (1 + d_30) 7 = .inl (kA 0, 3, .inl f2_47) := q7_47
      have m_63 : (1 + d_30, 7) ∈ RL := hm_47 7 (by omega)
      have c_64 : E3 (1 + d_30) 8 = .inl (kA 0, 3, .inl f3_47) := q8_47
      have m_65 : (1 + d_30, 8) ∈ RL := hm_47 8 (by omega)
      have c_66 : E3 (1 + d_30) 9 = .inl (kA 8, 6, .inr (.inr (.inr (.inr fe_47)))) := q9_47
      have m_67 : (1 + d_30, 9) ∈ RL := hm_47 9 (by omega)
      have c_68 : E3 (1 + d_30) 10 = .inl (kA 8, 6, .inr (.inr (.inr (.inr fo_47)))) := q10_47
      have m_69 : (1 + d_30, 10) ∈ RL := hm_47 10 (by omega)
      have c_70 : E3 (1 + d_30) 11 = .inl (kA 2, 5, .inl tr_47) := q11_47
      have m_71 : (1 + d_30, 11) ∈ RL := hm_47 11 (by omega)
      have c_72 : E3 (1 + d_30) 12 = .inl (kA 2, 5, .inl op_47) := q12_47
      have m_73 : (1 + d_30, 12) ∈ RL := hm_47 12 (by omega)
      have hg_47 : ∀ w9, w9 < k0_47 → fe_47 w9 = some (ad (1 + d_30) (20 + 3 * w9)) ∧ fo_47 w9 = some (ad (1 + d_30) (38 + 3 * w9)) ∧ GI kA (ad (1 + d_30)) (E3 (1 + d_30)) (fun o => (1 + d_30, o) ∈ RL) (20 + 3 * w9) (21 + 3 * w9) (22 + 3 * w9) ∧ GI kA (ad (1 + d_30)) (E3 (1 + d_30)) (fun o => (1 + d_30, o) ∈ RL) (38 + 3 * w9) (39 + 3 * w9) (40 + 3 * w9) := hg_47
      have hFc := px_free hD hS hA
      refine va_calli (va_runV (As := [.ref (ad (20 + n) (10 + 10 * via))]) (rest := []) ⟨hx, hb, hml, hown, hT⟩ (xc_Re_marks l D kA H.size ad E3 RL (20 + n) (12 + 10 * k) (15 + 10 * k) g2_12 n via d_30 pv lo fd_47 nm_47 sd_47 m_18 c_17 m_24 c_23 m_32 c_31 ym0 c_7 m_49 c_48 (by first | assumption | omega)) (cwV 1 hT (wT_V k5t_2 k5t_3 k5t_4 k5t_5 k5t_1) rfl rfl rfl (by decide +kernel) ⟨Nat.le_of_ble_eq_true rfl, Nat.le_of_ble_eq_true rfl⟩) (px_preV hK hP hD m_18 c_17 rfl) rfl rfl hl.1 rfl (lv_room (Nat.le_of_ble_eq_true rfl)) xd_Ly_follow_31 ⟨(Nat.le_of_ble_eq_true rfl), (Nat.le_of_ble_eq_true rfl)⟩) hS (fun q _ h => hFc q h) hFc (fun r74 u75 t H1 locs ht hvm hp76 hB hz1 hk1 hS => ?_)
      obtain ⟨hP1, hD1⟩ := hB
      rw [ht] at hP1
      have hD1 := hD1.weaken (fun _ _ _ h => hFc _ h)
      generalize H1 = H at hP1 hS ⊢
      have hP := hP1
      have hD := hD1
      have hP : va_P D xcl (rp ad E3 RL) H := hP
      have hD : va_D A (rp ad E3 RL) := hD
      rcases hp76 with ⟨rfl, z77⟩ | ⟨rfl, z78⟩
      · have hmk9 : PW (fun a t => BS (eA (E (20 + n) (15 + 10 * a))) t) (fun b => 12 * n + mdv g n b) via k ((fun b => 12 * n + mdv g n b) via) := ((BS_marks (f := g2_12) (n := n) (d := d_30) (by omega)).trans (by rw [← hrwk, ← hdmv]; exact PJ_at hPJ (by omega) (by have q := hdmv; omega))).mp z77
        refine W.eq (g2 := F0 m 34 ls [.int 1]) rfl ?_
        refine lv_if_eq (tgt := 46) hx hb xd_Ly_follow_34 (by decide) (fun hc79 => absurd hc79 (by decide)) (fun _ => ?_)
        by_cases hkv : k = via
        · rw [hkv] at hl
          have hl : lv_has ls 4 [(3, .int (nI via)), (2, .int (nI via)), (1, .ref (ad (20 + n) 2)), (0, .ref (ad (20 + n) 0))] := hl
          refine lv_aload_n hx hb xd_Ly_follow_37 rfl (lv_at hl 2 rfl) ?_
          refine lv_iload_n hx hb xd_Ly_follow_38 rfl (lv_at hl 0 rfl) ?_
          refine px_aald (i := via) (x := (some (ad (20 + n) (12 + 10 * via)))) hx hb hK.1 hP ym2 c_9 7 rfl (hfs via (by omega)) (by omega) (by omega) xd_Ly_follow_39 ?_
          refine lv_aload_n hx hb xd_Ly_follow_40 rfl (lv_at hl 2 rfl) ?_
          refine lv_iload_n hx hb xd_Ly_follow_41 rfl (lv_at hl 1 rfl) ?_
          refine px_aald (i := via) (x := (some (ad (20 + n) (12 + 10 * via)))) hx hb hK.1 hP ym2 c_9 7 rfl (hfs via (by omega)) (by omega) (by omega) xd_Ly_follow_42 ?_
          have hFc := px_free hD hS hA
          refine va_callv (va_runV (As := [.ref (ad (20 + n) (12 + 10 * via))]) (rest := []) ⟨hx, hb, hml, hown, hT⟩ (xc_Re_joinSX l D kA H.size ad E3 RL (20 + n) (12 + 10 * via) (15 + 10 * via) g2_30 m_36 c_35 m_42 c_41 (by first | assumption | omega)) (cwV 1 hT (wT_V k5t_7 k5t_8 k5t_9 k5t_5 k5t_6) rfl rfl rfl (by decide +kernel) ⟨Nat.le_of_ble_eq_true rfl, Nat.le_of_ble_eq_true rfl⟩) (px_preV hK hP hD m_36 c_35 rfl) rfl rfl hl.1 rfl (lv_room (Nat.le_of_ble_eq_true rfl)) xd_Ly_follow_43 ⟨(Nat.le_of_ble_eq_true rfl), (Nat.le_of_ble_eq_true rfl)⟩) hS (fun q _ h => hFc q h) hFc (fun u81 t H1 locs ht hvm hp82 hB hz1 hk1 hS => ?_)
          obtain ⟨hP1, hD1⟩ := hB
          rw [ht] at hP1
          have hD1 := hD1.weaken (fun _ _ _ h => hFc _ h)
          generalize H1 = H at hP1 hS ⊢
          have hP := hP1
          have hD := hD1
          obtain ⟨E83, rfl⟩ : ∃ z, z = u81 := ⟨_, rfl⟩
          obtain ⟨w84, hp87, p_85, p_86⟩ := hp82
          have p_85 : E83 (20 + n) (15 + 10 * via) = .inl (kA 0, 6, .inl w84) := p_85
          have p_86 : (∀ b2 o2, ¬ (b2 = (20 + n) ∧ o2 = (15 + 10 * via)) → E83 b2 o2 = E3 b2 o2) := p_86
          have c_88 : E83 (20 + n) (12 + 10 * via) = .inr (10, [.ref (ad (20 + n) (15 + 10 * via))]) := (p_86 (20 + n) (12 + 10 * via) (by omega)).trans c_35
          have hP : va_P D xcl (rp ad E83 RL) H := hP
          have hD : va_D A (rp ad E83 RL) := hD
          have hPJn : PJ (fun a t => BS (eA (E (20 + n) (15 + 10 * a))) t) (fun b => 12 * n + mdv g n b) mk via (k + 1) (fun j => eA (E83 (20 + n) (15 + 10 * j))) := PJ_y (Rw := (fun j => eA (E3 (20 + n) (15 + 10 * j)))) (by omega) (by omega) hmk9 hPJ (fun j hj hne => by
            show eA (E83 (20 + n) (15 + 10 * j)) = eA (E3 (20 + n) (15 + 10 * j))
            rw [p_86 (20 + n) (15 + 10 * j) (by omega)]) (fun t ht => by
            show BS (eA (E83 (20 + n) (15 + 10 * k))) t ↔ (BS (eA (E3 (20 + n) (15 + 10 * k))) t ∨ BS (eA (E3 (20 + n) (15 + 10 * via))) t)
            rw [hkv, hrwvia, show eA (E83 (20 + n) (15 + 10 * via)) = w84 from by rw [p_85]; rfl]
            exact BS_join ht hp87)
          refine lv_iinc (k := 0) (x := (nI via)) (v := (nI (via + 1))) hx hb xd_Ly_follow_46 hl rfl (xb_inc via 1) (Nat.le_of_ble_eq_true rfl) rfl (fun ls hl => ?_)
          have hl : lv_has ls 4 [(3, .int (nI (via + 1))), (2, .int (nI via)), (1, .ref (ad (20 + n) 2)), (0, .ref (ad (20 + n) 0))] := hl
          refine lv_goto (tgt := 13) hx hb xd_Ly_follow_49 (by decide) ?_
          exact ih6 (via + 1, E83) _ _ _ (show mk - (via + 1) < mk - k by omega) (lv_sub hl [0, 1, 2, 3] rfl) hP hD hS ⟨(show (via + 1) ≤ mk from by first | assumption | omega), (show RI kA (20 + n) E E83 from RI.trans' hRI (RI.row c_41 p_85 p_86)), (show PJ (fun a t => BS (eA (E (20 + n) (15 + 10 * a))) t) (fun b => 12 * n + mdv g n b) mk via (via + 1) (fun j => eA (E83 (20 + n) (15 + 10 * j))) from (by have q := hPJn; rw [hkv] at q; exact q)), (show ∀ o8, (∀ j8, j8 < mk → ¬ o8 = 15 + 10 * j8) → E83 (20 + n) o8 = E (20 + n) o8 from fun o9 h9 => (p_86 (20 + n) o9 (by
        have q := h9 via (by omega)
        omega)).trans (hot o9 h9))⟩
        · have hkv := hkv
          refine lv_aload_n hx hb xd_Ly_follow_37 rfl (lv_at hl 2 rfl) ?_
          refine lv_iload_n hx hb xd_Ly_follow_38 rfl (lv_at hl 0 rfl) ?_
          refine px_aald (i := k) (x := (some (ad (20 + n) (12 + 10 * k)))) hx hb hK.1 hP ym2 c_9 7 rfl (hfs k (by omega)) (by omega) (by omega) xd_Ly_follow_39 ?_
          refine lv_aload_n hx hb xd_Ly_follow_40 rfl (lv_at hl 2 rfl) ?_
          refine lv_iload_n hx hb xd_Ly_follow_41 rfl (lv_at hl 1 rfl) ?_
          refine px_aald (i := via) (x := (some (ad (20 + n) (12 + 10 * via)))) hx hb hK.1 hP ym2 c_9 7 rfl (hfs via (by omega)) (by omega) (by omega) xd_Ly_follow_42 ?_
          have hFc := px_free hD hS hA
          refine va_callv (va_runV (As := [.ref (ad (20 + n) (12 + 10 * via))]) (rest := []) ⟨hx, hb, hml, hown, hT⟩ (xc_Re_joinX l D kA H.size ad E3 RL (20 + n) (12 + 10 * k) (15 + 10 * k) g2_12 (20 + n) (12 + 10 * via) (15 + 10 * via) g2_30 m_18 c_17 m_24 c_23 m_36 c_35 m_42 c_41 (by first | assumption | omega) (by first | assumption | omega)) (cwV 1 hT (wT_V k5t_7 k5t_8 k5t_9 k5t_5 k5t_6) rfl rfl rfl (by decide +kernel) ⟨Nat.le_of_ble_eq_true rfl, Nat.le_of_ble_eq_true rfl⟩) (px_preV hK hP hD m_18 c_17 rfl) rfl rfl hl.1 rfl (lv_room (Nat.le_of_ble_eq_true rfl)) xd_Ly_follow_43 ⟨(Nat.le_of_ble_eq_true rfl), (Nat.le_of_ble_eq_true rfl)⟩) hS (fun q _ h => hFc q h) hFc (fun u90 t H1 locs ht hvm hp91 hB hz1 hk1 hS => ?_)
          obtain ⟨hP1, hD1⟩ := hB
          rw [ht] at hP1
          have hD1 := hD1.weaken (fun _ _ _ h => hFc _ h)
          generalize H1 = H at hP1 hS ⊢
          have hP := hP1
          have hD := hD1
          obtain ⟨E92, rfl⟩ : ∃ z, z = u90 := ⟨_, rfl⟩
          obtain ⟨w93, hp96, p_94, p_95⟩ := hp91
          have p_94 : E92 (20 + n) (15 + 10 * k) = .inl (kA 0, 6, .inl w93) := p_94
          have p_95 : (∀ b2 o2, ¬ (b2 = (20 + n) ∧ o2 = (15 + 10 * k)) → E92 b2 o2 = E3 b2 o2) := p_95
          have c_97 : E92 (20 + n) (12 + 10 * k) = .inr (10, [.ref (ad (20 + n) (15 + 10 * k))]) := (p_95 (20 + n) (12 + 10 * k) (by omega)).trans c_17
          have c_98 : E92 (20 + n) (12 + 10 * via) = .inr (10, [.ref (ad (20 + n) (15 + 10 * via))]) := (p_95 (20 + n) (12 + 10 * via) (by omega)).trans c_35
          have c_99 : E92 (20 + n) (15 + 10 * via) = .inl (kA 0, 6, .inl g2_30) := (p_95 (20 + n) (15 + 10 * via) (by omega)).trans c_41
          have hP : va_P D xcl (rp ad E92 RL) H := hP
          have hD : va_D A (rp ad E92 RL) := hD
          have hPJn : PJ (fun a t => BS (eA (E (20 + n) (15 + 10 * a))) t) (fun b => 12 * n + mdv g n b) mk via (k + 1) (fun j => eA (E92 (20 + n) (15 + 10 * j))) := PJ_y (Rw := (fun j => eA (E3 (20 + n) (15 + 10 * j)))) (by omega) (by omega) hmk9 hPJ (fun j hj hne => by
            show eA (E92 (20 + n) (15 + 10 * j)) = eA (E3 (20 + n) (15 + 10 * j))
            rw [p_95 (20 + n) (15 + 10 * j) (by omega)]) (fun t ht => by
            show BS (eA (E92 (20 + n) (15 + 10 * k))) t ↔ (BS (eA (E3 (20 + n) (15 + 10 * k))) t ∨ BS (eA (E3 (20 + n) (15 + 10 * via))) t)
            rw [hrwk, hrwvia, show eA (E92 (20 + n) (15 + 10 * k)) = w93 from by rw [p_94]; rfl]
            exact BS_join ht hp96)
          refine lv_iinc (k := 0) (x := (nI k)) (v := (nI (k + 1))) hx hb xd_Ly_follow_46 hl rfl (xb_inc k 1) (Nat.le_of_ble_eq_true rfl) rfl (fun ls hl => ?_)
          have hl : lv_has ls 4 [(3, .int (nI (k + 1))), (2, .int (nI via)), (1, .ref (ad (20 + n) 2)), (0, .ref (ad (20 + n) 0))] := hl
          refine lv_goto (tgt := 13) hx hb xd_Ly_follow_49 (by decide) ?_
          exact ih6 (k + 1, E92) _ _ _ (show mk - (k + 1) < mk - k by omega) (lv_sub hl [0, 1, 2, 3] rfl) hP hD hS ⟨(show (k + 1) ≤ mk from by first | assumption | omega), (show RI kA (20 + n) E E92 from RI.trans' hRI (RI.row c_23 p_94 p_95)), (show PJ (fun a t => BS (eA (E (20 + n) (15 + 10 * a))) t) (fun b => 12 * n + mdv g n b) mk via (k + 1) (fun j => eA (E92 (20 + n) (15 + 10 * j))) from hPJn), (show ∀ o8, (∀ j8, j8 < mk → ¬ o8 = 15 + 10 * j8) → E92 (20 + n) o8 = E (20 + n) o8 from fun o9 h9 => (p_95 (20 + n) o9 (by
        have q := h9 k (by omega)
        omega)).trans (hot o9 h9))⟩
      · have hmk9 : ¬ PW (fun a t => BS (eA (E (20 + n) (15 + 10 * a))) t) (fun b => 12 * n + mdv g n b) via k ((fun b => 12 * n + mdv g n b) via) := fun q => absurd z78 (((BS_marks (f := g2_12) (n := n) (d := d_30) (by omega)).trans (by rw [← hrwk, ← hdmv]; exact PJ_at hPJ (by omega) (by have q := hdmv; omega))).mpr q)
        refine W.eq (g2 := F0 m 34 ls [.int 0]) rfl ?_
        refine lv_if_eq (tgt := 46) hx hb xd_Ly_follow_34 (by decide) (fun _ => ?_) (fun hc100 => absurd (by decide) hc100)
        refine lv_iinc (k := 0) (x := (nI k)) (v := (nI (k + 1))) hx hb xd_Ly_follow_46 hl rfl (xb_inc k 1) (Nat.le_of_ble_eq_true rfl) rfl (fun ls hl => ?_)
        have hl : lv_has ls 4 [(3, .int (nI (k + 1))), (2, .int (nI via)), (1, .ref (ad (20 + n) 2)), (0, .ref (ad (20 + n) 0))] := hl
        refine lv_goto (tgt := 13) hx hb xd_Ly_follow_49 (by decide) ?_
        exact ih6 (k + 1, E3) _ _ _ (show mk - (k + 1) < mk - k by omega) (lv_sub hl [0, 1, 2, 3] rfl) hP hD hS ⟨(show (k + 1) ≤ mk from by first | assumption | omega), (show RI kA (20 + n) E E3 from hRI), (show PJ (fun a t => BS (eA (E (20 + n) (15 + 10 * a))) t) (fun b => 12 * n + mdv g n b) mk via (k + 1) (fun j => eA (E3 (20 + n) (15 + 10 * j))) from PJ_n hmk9 hPJ), (show ∀ o8, (∀ j8, j8 < mk → ¬ o8 = 15 + 10 * j8) → E3 (20 + n) o8 = E (20 + n) o8 from hot)⟩
set_option maxHeartbeats 4000000 in
set_option maxRecDepth 100000 in
theorem xc_Ly_followCX (l : Launch) (D : va_G) (kA : Nat → ClassId) (sz : Nat) (ad : Nat → Nat → Nat) (E : Nat → Nat → va_E) (RL : List (Nat × Nat)) (g : Nat → Nat → Int32) (nd : Nat) (nL : Nat) (n : Nat) (pv : Value) (lo : Int32) (mk : Nat) (fm : Nat → Option Nat) (fs : Nat → Option Nat) (ym0 : (20 + n, 0) ∈ RL) (yc0 : E (20 + n) 0 = .inr (5, [.int (nI n), pv, .ref (ad (20 + n) 1), .int lo])) (ym1 : (20 + n, 1) ∈ RL) (yc1 : E (20 + n) 1 = .inl (kA 6, mk, .inr (.inr (.inr (.inr fm))))) (ym2 : (20 + n, 3) ∈ RL) (yc2 : E (20 + n) 3 = .inl (kA 7, mk, .inr (.inr (.inr (.inr fs))))) (hDIs : DIs kA ad E RL nd) (hLIs : LIs kA ad E RL nd nL) (hnd12 : nd ≤ 12) (hnL : nL ≤ 6) (hn : n < nL) (hmk : mk ≤ 12) (hfm : ∀ k, k < mk → fm k = some (ad (20 + n) (10 + 10 * k)) ∧ MEI kA ad E RL nd n k) (hfs : ∀ k, k < mk → fs k = some (ad (20 + n) (13 + 10 * k))) (hTL : TLas g ad E nd nL) : Met l xy_Ly_follow (.code xy_Ly_follow xb_Ly_follow 4 none :: wT) { frames := 1, cells := 0, slots := 0, locals := 22 } (va_Pc [.ref (ad (20 + n) 0), .ref (ad (20 + n) 3)] (xPre D kA sz (rp ad E RL))) (va_Qv (fun (u : Nat → Nat → va_E) => RI kA (20 + n) E u ∧ (∀ k, k < mk → ∀ t, t < 72 → (BS (eA (u (20 + n) (16 + 10 * k))) t ↔ PW (fun a t => BS (eA (E (20 + n) (16 + 10 * a))) t) (fun b => 12 * n + mdv g n b) mk k t)) ∧ (∀ o8, (∀ j8, j8 < mk → ¬ o8 = 16 + 10 * j8) → u (20 + n) o8 = E (20 + n) o8)) (fun (u : Nat → Nat → va_E) t => va_P D xcl (rp ad u RL) t.heap ∧ va_D (va_A (rp ad E RL) sz) (rp ad u RL)) (va_A (rp ad E RL) sz)) 0 0 (va_A (rp ad E RL) sz) := by
  refine Met.ofW (cc := xb_Ly_follow) (maxL := 4) (ret := none) (by decide) rfl ?_
  intro p e s m args below meth c s₁ B hml hv
  obtain ⟨rfl, hsz, hP, hK, hD0⟩ := hv
  have hx := B.exec
  have hb := B.bytes
  have hr := B.returns
  have hT := x_hT B.pre
  have hown : s.vm.findClass xR_Ly = some m.cls := findClass_of_methodNamed B.named
  have hlocks := B.notSynchronized
  subst hsz
  have hD := hD0.self (sz := s.heap.size)
  generalize hAe : va_A (rp ad E RL) s.heap.size = A at hD ⊢
  have hA : ∀ q : Nat, s.heap.size ≤ q → A q := fun q h => by rw [← hAe]; exact Or.inr h
  have hS : va_S A s.heap s.heap [] := va_S.rf
  have hl := lv_entry ([.ref (ad (20 + n) 0), .ref (ad (20 + n) 3)]) (n := 4) (Nat.le_of_ble_eq_true rfl)
  rw [lg_entry_eq]
  generalize (lg_sl ([.ref (ad (20 + n) 0), .ref (ad (20 + n) 3)]) ++ List.replicate (4 - (lg_sl ([.ref (ad (20 + n) 0), .ref (ad (20 + n) 3)])).length) Slot.unset).toArray = ls at hl ⊢
  have hl : lv_has ls 4 [(0, .ref (ad (20 + n) 0)), (1, .ref (ad (20 + n) 3))] := hl
  have hP : va_P D xcl (rp ad E RL) s.heap := hP
  have hDIs0 := hDIs
  have hLIs0 := hLIs
  refine lv_iconst (v := 0) hx hb xd_Ly_follow_0 (by decide) ?_
  refine lv_istore_n hx hb xd_Ly_follow_1 rfl hl (Nat.le_of_ble_eq_true rfl) rfl (fun ls hl => ?_)
  have hl : lv_has ls 4 [(2, .int 0), (0, .ref (ad (20 + n) 0)), (1, .ref (ad (20 + n) 3))] := hl
  refine xlab (σ := Nat × (Nat → Nat → va_E)) (ml := 4) 2 (fun (via, E1) => [(2, .int (nI via)), (1, .ref (ad (20 + n) 3)), (0, .ref (ad (20 + n) 0))]) (fun (via, E1) => []) (fun (via, E1) => rp ad E1 RL) (fun (via, E1) => (via ≤ mk) ∧ (RI kA (20 + n) E E1) ∧ (∀ k, k < mk → ∀ t, t < 72 → (BS (eA (E1 (20 + n) (16 + 10 * k))) t ↔ PW (fun a t => BS (eA (E (20 + n) (16 + 10 * a))) t) (fun b => 12 * n + mdv g n b) via k t)) ∧ (∀ o8, (∀ j8, j8 < mk → ¬ o8 = 16 + 10 * j8) → E1 (20 + n) o8 = E (20 + n) o8)) (fun (via, E1) => mk - via) ?_ (0, E) _ _ _ (lv_sub hl [0, 2, 1] rfl) hP hD hS ⟨(show 0 ≤ mk from by first | assumption | omega), (show RI kA (20 + n) E E from RI.rfl'), (show ∀ k, k < mk → ∀ t, t < 72 → (BS (eA (E (20 + n) (16 + 10 * k))) t ↔ PW (fun a t => BS (eA (E (20 + n) (16 + 10 * a))) t) (fun b => 12 * n + mdv g n b) 0 k t) from fun j hj t ht => Iff.rfl), (show ∀ o8, (∀ j8, j8 < mk → ¬ o8 = 16 + 10 * j8) → E (20 + n) o8 = E (20 + n) o8 from fun o _ => rfl)⟩
  intro n9 ih1 a9 ls H locs hμ hl hP hD hS hI
  subst hμ
  obtain ⟨via, E1⟩ := a9
  obtain ⟨hi, hRI, hPW, hot⟩ := hI
  have hi : via ≤ mk := hi
  have hRI : RI kA (20 + n) E E1 := hRI
  have hPW : ∀ k, k < mk → ∀ t, t < 72 → (BS (eA (E1 (20 + n) (16 + 10 * k))) t ↔ PW (fun a t => BS (eA (E (20 + n) (16 + 10 * a))) t) (fun b => 12 * n + mdv g n b) via k t) := hPW
  have hot : ∀ o8, (∀ j8, j8 < mk → ¬ o8 = 16 + 10 * j8) → E1 (20 + n) o8 = E (20 + n) o8 := hot
  have hl : lv_has ls 4 [(2, .int (nI via)), (1, .ref (ad (20 + n) 3)), (0, .ref (ad (20 + n) 0))] := hl
  have hP : va_P D xcl (rp ad E1 RL) H := hP
  have hD : va_D A (rp ad E1 RL) := hD
  have hDIs := DIs_RU hRI.ru hnd12 hDIs0
  have hLIs := LIs_RU hRI.ru hLIs0
  have hTL1 : TLas g ad E1 nd nL := TLas_ro (fun n9 o9 hn9 ho9 => by
    by_cases q : n9 = n
    · rw [q]; exact hot o9 (fun k9 _ e9 => by rcases ho9 with z | z | ⟨z, z2⟩ <;> omega)
    · exact hRI.out (by omega)) hTL
  have hk9 : ∀ k, k < mk → fm k = some (ad (20 + n) (10 + 10 * k)) ∧ MEI kA ad E1 RL nd n k := fun k h => ⟨(hfm k h).1, MEI_RU hRI.ru (hfm k h).2⟩
  have c_2 : E1 (20 + n) 0 = .inr (5, [.int (nI n), pv, .ref (ad (20 + n) 1), .int lo]) := hRI.obj yc0
  have c_3 : E1 (20 + n) 1 = .inl (kA 6, mk, .inr (.inr (.inr (.inr fm)))) := hRI.arr yc1
  have c_4 : E1 (20 + n) 3 = .inl (kA 7, mk, .inr (.inr (.inr (.inr fs)))) := hRI.arr yc2
  refine lv_iload_n hx hb xd_Ly_follow_2 rfl (lv_at hl 0 rfl) ?_
  refine lv_aload_n hx hb xd_Ly_follow_3 rfl (lv_at hl 2 rfl) ?_
  refine px_get (D := D) (ci := 5) (v := .ref (ad (20 + n) 1)) (C := xR_Ly) (T := xT_Ly) (N := 4) hx hb hT xi_Ly hown hK.1 hP ym0 c_2 rfl 2 (by decide) (hT _ k5t_0) (fun _ h9 => h9) rfl xd_Ly_follow_4 ?_
  refine px_alen hx hb hK.1 hP ym1 c_3 6 rfl xd_Ly_follow_7 ?_
  refine W.eq (g2 := F0 m 8 ls [.int (nI mk), .int (nI via)]) rfl ?_
  refine xn_ge (a := via) (b := mk) (tgt := 58) hx hb xd_Ly_follow_8 (by decide) (by omega) (by omega) (fun hc5 => ?_) (fun hc5 => ?_)
  · exact W.vret hx hb hr (fun t ht hW => ⟨⟨E1, rfl, ⟨hRI, (by have q := hPW; rw [show via = mk by omega] at q; exact q), hot⟩, by rw [ht]; exact hP, hD⟩, hS.F ht⟩) hS.2.2 xd_Ly_follow_58
  · refine lv_iconst (v := 0) hx hb xd_Ly_follow_11 (by decide) ?_
    refine lv_istore_n hx hb xd_Ly_follow_12 rfl hl (Nat.le_of_ble_eq_true rfl) rfl (fun ls hl => ?_)
    have hl : lv_has ls 4 [(3, .int 0), (2, .int (nI via)), (1, .ref (ad (20 + n) 3)), (0, .ref (ad (20 + n) 0))] := hl
    refine xlab (σ := Nat × (Nat → Nat → va_E)) (ml := 4) 13 (fun (k, E3) => [(3, .int (nI k)), (2, .int (nI via)), (1, .ref (ad (20 + n) 3)), (0, .ref (ad (20 + n) 0))]) (fun (k, E3) => []) (fun (k, E3) => rp ad E3 RL) (fun (k, E3) => (k ≤ mk) ∧ (RI kA (20 + n) E E3) ∧ (PJ (fun a t => BS (eA (E (20 + n) (16 + 10 * a))) t) (fun b => 12 * n + mdv g n b) mk via k (fun j => eA (E3 (20 + n) (16 + 10 * j)))) ∧ (∀ o8, (∀ j8, j8 < mk → ¬ o8 = 16 + 10 * j8) → E3 (20 + n) o8 = E (20 + n) o8)) (fun (k, E3) => mk - k) ?_ (0, E1) _ _ _ (lv_sub hl [0, 1, 2, 3] rfl) hP hD hS ⟨(show 0 ≤ mk from by first | assumption | omega), (show RI kA (20 + n) E E1 from hRI), (show PJ (fun a t => BS (eA (E (20 + n) (16 + 10 * a))) t) (fun b => 12 * n + mdv g n b) mk via 0 (fun j => eA (E1 (20 + n) (16 + 10 * j))) from PJ_0 hPW), (show ∀ o8, (∀ j8, j8 < mk → ¬ o8 = 16 + 10 * j8) → E1 (20 + n) o8 = E (20 + n) o8 from hot)⟩
    intro n9 ih6 a9 ls H locs hμ hl hP hD hS hI
    subst hμ
    obtain ⟨k, E3⟩ := a9
    obtain ⟨hk0, hRI, hPJ, hot⟩ := hI
    have hk0 : k ≤ mk := hk0
    have hRI : RI kA (20 + n) E E3 := hRI
    have hPJ : PJ (fun a t => BS (eA (E (20 + n) (16 + 10 * a))) t) (fun b => 12 * n + mdv g n b) mk via k (fun j => eA (E3 (20 + n) (16 + 10 * j))) := hPJ
    have hot : ∀ o8, (∀ j8, j8 < mk → ¬ o8 = 16 + 10 * j8) → E3 (20 + n) o8 = E (20 + n) o8 := hot
    have hl : lv_has ls 4 [(3, .int (nI k)), (2, .int (nI via)), (1, .ref (ad (20 + n) 3)), (0, .ref (ad (20 + n) 0))] := hl
    have hP : va_P D xcl (rp ad E3 RL) H := hP
    have hD : va_D A (rp ad E3 RL) := hD
    have hDIs := DIs_RU hRI.ru hnd12 hDIs0
    have hLIs := LIs_RU hRI.ru hLIs0
    have hTL1 : TLas g ad E3 nd nL := TLas_ro (fun n9 o9 hn9 ho9 => by
      by_cases q : n9 = n
      · rw [q]; exact hot o9 (fun k9 _ e9 => by rcases ho9 with z | z | ⟨z, z2⟩ <;> omega)
      · exact hRI.out (by omega)) hTL
    have hk9 : ∀ k, k < mk → fm k = some (ad (20 + n) (10 + 10 * k)) ∧ MEI kA ad E3 RL nd n k := fun k h => ⟨(hfm k h).1, MEI_RU hRI.ru (hfm k h).2⟩
    have c_7 : E3 (20 + n) 0 = .inr (5, [.int (nI n), pv, .ref (ad (20 + n) 1), .int lo]) := hRI.obj yc0
    have c_8 : E3 (20 + n) 1 = .inl (kA 6, mk, .inr (.inr (.inr (.inr fm)))) := hRI.arr yc1
    have c_9 : E3 (20 + n) 3 = .inl (kA 7, mk, .inr (.inr (.inr (.inr fs)))) := hRI.arr yc2
    refine lv_iload_n hx hb xd_Ly_follow_13 rfl (lv_at hl 0 rfl) ?_
    refine lv_aload_n hx hb xd_Ly_follow_14 rfl (lv_at hl 3 rfl) ?_
    refine px_get (D := D) (ci := 5) (v := .ref (ad (20 + n) 1)) (C := xR_Ly) (T := xT_Ly) (N := 4) hx hb hT xi_Ly hown hK.1 hP ym0 c_7 rfl 2 (by decide) (hT _ k5t_0) (fun _ h9 => h9) rfl xd_Ly_follow_15 ?_
    refine px_alen hx hb hK.1 hP ym1 c_8 6 rfl xd_Ly_follow_18 ?_
    refine W.eq (g2 := F0 m 19 ls [.int (nI mk), .int (nI k)]) rfl ?_
    refine xn_ge (a := k) (b := mk) (tgt := 52) hx hb xd_Ly_follow_19 (by decide) (by omega) (by omega) (fun hc10 => ?_) (fun hc10 => ?_)
    · refine lv_iinc (k := 1) (x := (nI via)) (v := (nI (via + 1))) hx hb xd_Ly_follow_52 hl rfl (xb_inc via 1) (Nat.le_of_ble_eq_true rfl) rfl (fun ls hl => ?_)
      have hl : lv_has ls 4 [(2, .int (nI (via + 1))), (3, .int (nI k)), (1, .ref (ad (20 + n) 3)), (0, .ref (ad (20 + n) 0))] := hl
      refine lv_goto (tgt := 2) hx hb xd_Ly_follow_55 (by decide) ?_
      exact ih1 (via + 1, E3) _ _ _ (show mk - (via + 1) < mk - via by omega) (lv_sub hl [0, 2, 3] rfl) hP hD hS ⟨(show (via + 1) ≤ mk from by first | assumption | omega), (show RI kA (20 + n) E E3 from hRI), (show ∀ k, k < mk → ∀ t, t < 72 → (BS (eA (E3 (20 + n) (16 + 10 * k))) t ↔ PW (fun a t => BS (eA (E (20 + n) (16 + 10 * a))) t) (fun b => 12 * n + mdv g n b) (via + 1) k t) from PJ_e (by omega) hPJ), (show ∀ o8, (∀ j8, j8 < mk → ¬ o8 = 16 + 10 * j8) → E3 (20 + n) o8 = E (20 + n) o8 from hot)⟩
    · have hM11 := (hk9 k (by omega)).2
      obtain ⟨hm_12, d_12, rs_12, fr_12, g2_12, g3_12, g4_12, hd_12, hrs_12, q0_12, q1_12, q2_12, q3_12, q4_12, q5_12, q6_12, q7_12⟩ := id hM11
      have c_13 : E3 (20 + n) (10 + 10 * k) = .inr (6, [.ref (ad (20 + n) 0), .ref (ad (1 + d_12) 0), .ref (ad (20 + n) (11 + 10 * k)), .ref (ad (20 + n) (12 + 10 * k)), .ref (ad (20 + n) (13 + 10 * k)), .ref (ad (20 + n) (14 + 10 * k))]) := q0_12
      have m_14 : (20 + n, 10 + 10 * k) ∈ RL := hm_12 0 (by omega)
      have c_15 : E3 (20 + n) (11 + 10 * k) = .inl (kA 6, rs_12, .inr (.inr (.inr (.inr fr_12)))) := q1_12
      have m_16 : (20 + n, 11 + 10 * k) ∈ RL := hm_12 1 (by omega)
      have c_17 : E3 (20 + n) (12 + 10 * k) = .inr (10, [.ref (ad (20 + n) (15 + 10 * k))]) := q2_12
      have m_18 : (20 + n, 12 + 10 * k) ∈ RL := hm_12 2 (by omega)
      have c_19 : E3 (20 + n) (13 + 10 * k) = .inr (10, [.ref (ad (20 + n) (16 + 10 * k))]) := q3_12
      have m_20 : (20 + n, 13 + 10 * k) ∈ RL := hm_12 3 (by omega)
      have c_21 : E3 (20 + n) (14 + 10 * k) = .inr (10, [.ref (ad (20 + n) (17 + 10 * k))]) := q4_12
      have m_22 : (20 + n, 14 + 10 * k) ∈ RL := hm_12 4 (by omega)
      have c_23 : E3 (20 + n) (15 + 10 * k) = .inl (kA 0, 6, .inl g2_12) := q5_12
      have m_24 : (20 + n, 15 + 10 * k) ∈ RL := hm_12 5 (by omega)
      have c_25 : E3 (20 + n) (16 + 10 * k) = .inl (kA 0, 6, .inl g3_12) := q6_12
      have m_26 : (20 + n, 16 + 10 * k) ∈ RL := hm_12 6 (by omega)
      have c_27 : E3 (20 + n) (17 + 10 * k) = .inl (kA 0, 6, .inl g4_12) := q7_12
      have m_28 : (20 + n, 17 + 10 * k) ∈ RL := hm_12 7 (by omega)
      have hrwk : eA (E3 (20 + n) (16 + 10 * k)) = g3_12 := by rw [c_25]; rfl
      have hM29 := (hk9 via (by omega)).2
      obtain ⟨hm_30, d_30, rs_30, fr_30, g2_30, g3_30, g4_30, hd_30, hrs_30, q0_30, q1_30, q2_30, q3_30, q4_30, q5_30, q6_30, q7_30⟩ := id hM29
      have c_31 : E3 (20 + n) (10 + 10 * via) = .inr (6, [.ref (ad (20 + n) 0), .ref (ad (1 + d_30) 0), .ref (ad (20 + n) (11 + 10 * via)), .ref (ad (20 + n) (12 + 10 * via)), .ref (ad (20 + n) (13 + 10 * via)), .ref (ad (20 + n) (14 + 10 * via))]) := q0_30
      have m_32 : (20 + n, 10 + 10 * via) ∈ RL := hm_30 0 (by omega)
      have c_33 : E3 (20 + n) (11 + 10 * via) = .inl (kA 6, rs_30, .inr (.inr (.inr (.inr fr_30)))) := q1_30
      have m_34 : (20 + n, 11 + 10 * via) ∈ RL := hm_30 1 (by omega)
      have c_35 : E3 (20 + n) (12 + 10 * via) = .inr (10, [.ref (ad (20 + n) (15 + 10 * via))]) := q2_30
      have m_36 : (20 + n, 12 + 10 * via) ∈ RL := hm_30 2 (by omega)
      have c_37 : E3 (20 + n) (13 + 10 * via) = .inr (10, [.ref (ad (20 + n) (16 + 10 * via))]) := q3_30
      have m_38 : (20 + n, 13 + 10 * via) ∈ RL := hm_30 3 (by omega)
      have c_39 : E3 (20 + n) (14 + 10 * via) = .inr (10, [.ref (ad (20 + n) (17 + 10 * via))]) := q4_30
      have m_40 : (20 + n, 14 + 10 * via) ∈ RL := hm_30 4 (by omega)
      have c_41 : E3 (20 + n) (15 + 10 * via) = .inl (kA 0, 6, .inl g2_30) := q5_30
      have m_42 : (20 + n, 15 + 10 * via) ∈ RL := hm_30 5 (by omega)
      have c_43 : E3 (20 + n) (16 + 10 * via) = .inl (kA 0, 6, .inl g3_30) := q6_30
      have m_44 : (20 + n, 16 + 10 * via) ∈ RL := hm_30 6 (by omega)
      have c_45 : E3 (20 + n) (17 + 10 * via) = .inl (kA 0, 6, .inl g4_30) := q7_30
      have m_46 : (20 + n, 17 + 10 * via) ∈ RL := hm_30 7 (by omega)
      have hrwvia : eA (E3 (20 + n) (16 + 10 * via)) = g3_30 := by rw [c_43]; rfl
      have hdmv : mdv g n via = d_30 := by
        obtain ⟨_, _, h20z, hmz⟩ := hTL1 n hn
        rw [show eL (E3 (20 + n) 1) = mk from by rw [c_8]; rfl] at h20z hmz
        obtain ⟨dz, hdz, h21z, hvz⟩ := hmz via (by omega)
        rw [c_31] at hvz
        have ez := (rp_inj hD ((hDIs d_30 hd_30).1 0 (by omega)) ((hDIs dz hdz).1 0 (by omega)) (Value.ref.inj hvz)).1
        unfold mdv
        rw [h21z, iN_nI (by omega)]; omega
      refine lv_aload_n hx hb xd_Ly_follow_22 rfl (lv_at hl 2 rfl) ?_
      refine lv_iload_n hx hb xd_Ly_follow_23 rfl (lv_at hl 0 rfl) ?_
      refine px_aald (i := k) (x := (some (ad (20 + n) (13 + 10 * k)))) hx hb hK.1 hP ym2 c_9 7 rfl (hfs k (by omega)) (by omega) (by omega) xd_Ly_follow_24 ?_
      refine lv_aload_n hx hb xd_Ly_follow_25 rfl (lv_at hl 3 rfl) ?_
      refine px_get (D := D) (ci := 5) (v := .ref (ad (20 + n) 1)) (C := xR_Ly) (T := xT_Ly) (N := 4) hx hb hT xi_Ly hown hK.1 hP ym0 c_7 rfl 2 (by decide) (hT _ k5t_0) (fun _ h9 => h9) rfl xd_Ly_follow_26 ?_
      refine lv_iload_n hx hb xd_Ly_follow_29 rfl (lv_at hl 1 rfl) ?_
      refine px_aald (i := via) (x := (some (ad (20 + n) (10 + 10 * via)))) hx hb hK.1 hP ym1 c_8 6 rfl ((hk9 via (by omega)).1) (by omega) (by omega) xd_Ly_follow_30 ?_
      obtain ⟨hm_47, fd_47, nm_47, sd_47, k0_47, k1_47, k2_47, k3_47, f0_47, f1_47, f2_47, f3_47, fe_47, fo_47, tr_47, op_47, hk0_47, hk1_47, hk2_47, hk3_47, q0_47, q1_47, q2_47, q3_47, q4_47, q5_47, q6_47, q7_47, q8_47, q9_47, q10_47, q11_47, q12_47, hg_47⟩ := id (hDIs d_30 (by omega))
      have c_48 : E3 (1 + d_30) 0 = .inr (7, [.int (nI d_30), .int fd_47, .int nm_47, .ref (ad (1 + d_30) 1), .ref (ad (1 + d_30) 9), .ref (ad (1 + d_30) 10), .ref (ad (1 + d_30) 2), .ref (ad (1 + d_30) 11), .ref (ad (1 + d_30) 12), .ref (ad (1 + d_30) 3), .ref (ad (1 + d_30) 4), .int sd_47]) := q0_47
      have m_49 : (1 + d_30, 0) ∈ RL := hm_47 0 (by omega)
      have c_50 : E3 (1 + d_30) 1 = .inr (8, [.ref (ad (1 + d_30) 5), .int (nI k0_47)]) := q1_47
      have m_51 : (1 + d_30, 1) ∈ RL := hm_47 1 (by omega)
      have c_52 : E3 (1 + d_30) 2 = .inr (8, [.ref (ad (1 + d_30) 6), .int (nI k1_47)]) := q2_47
      have m_53 : (1 + d_30, 2) ∈ RL := hm_47 2 (by omega)
      have c_54 : E3 (1 + d_30) 3 = .inr (8, [.ref (ad (1 + d_30) 7), .int (nI k2_47)]) := q3_47
      have m_55 : (1 + d_30, 3) ∈ RL := hm_47 3 (by omega)
      have c_56 : E3 (1 + d_30) 4 = .inr (8, [.ref (ad (1 + d_30) 8), .int (nI k3_47)]) := q4_47
      have m_57 : (1 + d_30, 4) ∈ RL := hm_47 4 (by omega)
      have c_58 : E3 (1 + d_30) 5 = .inl (kA 0, 6, .inl f0_47) := q5_47
      have m_59 : (1 + d_30, 5) ∈ RL := hm_47 5 (by omega)
      have c_60 : E3 (1 + d_30) 6 = .inl (kA 0, 5, .inl f1_47) := q6_47
      have m_61 : (1 + d_30, 6) ∈ RL := hm_47 6 (by omega)
      have c_62 : E3 (1 + d_30) 7 = .inl (kA 0, 3, .inl f2_47) := q7_47
      have m_63 : (1 + d_30, 7) ∈ RL := hm_47 7 (by omega)
      have c_64 : E3 (1 + d_30) 8 = .inl (kA 0, 3, .inl f3_47) := q8_47
      have m_65 : (1 + d_30, 8) ∈ RL := hm_47 8 (by omega)
      have c_66 : E3 (1 + d_30) 9 = .inl (kA 8, 6, .inr (.inr (.inr (.inr fe_47)))) := q9_47
      have m_67 : (1 + d_30, 9) ∈ RL := hm_47 9 (by omega)
      have c_68 : E3 (1 + d_30) 10 = .inl (kA 8, 6, .inr (.inr (.inr (.inr fo_47)))) := q10_47
      have m_69 : (1 + d_30, 10) ∈ RL := hm_47 10 (by omega)
      have c_70 : E3 (1 + d_30) 11 = .inl (kA 2, 5, .inl tr_47) := q11_47
      have m_71 : (1 + d_30, 11) ∈ RL := hm_47 11 (by omega)
      have c_72 : E3 (1 + d_30) 12 = .inl (kA 2, 5, .inl op_47) := q12_47
      have m_73 : (1 + d_30, 12) ∈ RL := hm_47 12 (by omega)
      have hg_47 : ∀ w9, w9 < k0_47 → fe_47 w9 = some (ad (1 + d_30) (20 + 3 * w9)) ∧ fo_47 w9 = some (ad (1 + d_30) (38 + 3 * w9)) ∧ GI kA (ad (1 + d_30)) (E3 (1 + d_30)) (fun o => (1 + d_30, o) ∈ RL) (20 + 3 * w9) (21 + 3 * w9) (22 + 3 * w9) ∧ GI kA (ad (1 + d_30)) (E3 (1 + d_30)) (fun o => (1 + d_30, o) ∈ RL) (38 + 3 * w9) (39 + 3 * w9) (40 + 3 * w9) := hg_47
      have hFc := px_free hD hS hA
      refine va_calli (va_runV (As := [.ref (ad (20 + n) (10 + 10 * via))]) (rest := []) ⟨hx, hb, hml, hown, hT⟩ (xc_Re_marks l D kA H.size ad E3 RL (20 + n) (13 + 10 * k) (16 + 10 * k) g3_12 n via d_30 pv lo fd_47 nm_47 sd_47 m_20 c_19 m_26 c_25 m_32 c_31 ym0 c_7 m_49 c_48 (by first | assumption | omega)) (cwV 1 hT (wT_V k5t_2 k5t_3 k5t_4 k5t_5 k5t_1) rfl rfl rfl (by decide +kernel) ⟨Nat.le_of_ble_eq_true rfl, Nat.le_of_ble_eq_true rfl⟩) (px_preV hK hP hD m_20 c_19 rfl) rfl rfl hl.1 rfl (lv_room (Nat.le_of_ble_eq_true rfl)) xd_Ly_follow_31 ⟨(Nat.le_of_ble_eq_true rfl), (Nat.le_of_ble_eq_true rfl)⟩) hS (fun q _ h => hFc q h) hFc (fun r74 u75 t H1 locs ht hvm hp76 hB hz1 hk1 hS => ?_)
      obtain ⟨hP1, hD1⟩ := hB
      rw [ht] at hP1
      have hD1 := hD1.weaken (fun _ _ _ h => hFc _ h)
      generalize H1 = H at hP1 hS ⊢
      have hP := hP1
      have hD := hD1
      have hP : va_P D xcl (rp ad E3 RL) H := hP
      have hD : va_D A (rp ad E3 RL) := hD
      rcases hp76 with ⟨rfl, z77⟩ | ⟨rfl, z78⟩
      · have hmk9 : PW (fun a t => BS (eA (E (20 + n) (16 + 10 * a))) t) (fun b => 12 * n + mdv g n b) via k ((fun b => 12 * n + mdv g n b) via) := ((BS_marks (f := g3_12) (n := n) (d := d_30) (by omega)).trans (by rw [← hrwk, ← hdmv]; exact PJ_at hPJ (by omega) (by have q := hdmv; omega))).mp z77
        refine W.eq (g2 := F0 m 34 ls [.int 1]) rfl ?_
        refine lv_if_eq (tgt := 46) hx hb xd_Ly_follow_34 (by decide) (fun hc79 => absurd hc79 (by decide)) (fun _ => ?_)
        by_cases hkv : k = via
        · rw [hkv] at hl
          have hl : lv_has ls 4 [(3, .int (nI via)), (2, .int (nI via)), (1, .ref (ad (20 + n) 3)), (0, .ref (ad (20 + n) 0))] := hl
          refine lv_aload_n hx hb xd_Ly_follow_37 rfl (lv_at hl 2 rfl) ?_
          refine lv_iload_n hx hb xd_Ly_follow_38 rfl (lv_at hl 0 rfl) ?_
          refine px_aald (i := via) (x := (some (ad (20 + n) (13 + 10 * via)))) hx hb hK.1 hP ym2 c_9 7 rfl (hfs via (by omega)) (by omega) (by omega) xd_Ly_follow_39 ?_
          refine lv_aload_n hx hb xd_Ly_follow_40 rfl (lv_at hl 2 rfl) ?_
          refine lv_iload_n hx hb xd_Ly_follow_41 rfl (lv_at hl 1 rfl) ?_
          refine px_aald (i := via) (x := (some (ad (20 + n) (13 + 10 * via)))) hx hb hK.1 hP ym2 c_9 7 rfl (hfs via (by omega)) (by omega) (by omega) xd_Ly_follow_42 ?_
          have hFc := px_free hD hS hA
          refine va_callv (va_runV (As := [.ref (ad (20 + n) (13 + 10 * via))]) (rest := []) ⟨hx, hb, hml, hown, hT⟩ (xc_Re_joinSX l D kA H.size ad E3 RL (20 + n) (13 + 10 * via) (16 + 10 * via) g3_30 m_38 c_37 m_44 c_43 (by first | assumption | omega)) (cwV 1 hT (wT_V k5t_7 k5t_8 k5t_9 k5t_5 k5t_6) rfl rfl rfl (by decide +kernel) ⟨Nat.le_of_ble_eq_true rfl, Nat.le_of_ble_eq_true rfl⟩) (px_preV hK hP hD m_38 c_37 rfl) rfl rfl hl.1 rfl (lv_room (Nat.le_of_ble_eq_true rfl)) xd_Ly_follow_43 ⟨(Nat.le_of_ble_eq_true rfl), (Nat.le_of_ble_eq_true rfl)⟩) hS (fun q _ h => hFc q h) hFc (fun u81 t H1 locs ht hvm hp82 hB hz1 hk1 hS => ?_)
          obtain ⟨hP1, hD1⟩ := hB
          rw [ht] at hP1
          have hD1 := hD1.weaken (fun _ _ _ h => hFc _ h)
          generalize H1 = H at hP1 hS ⊢
          have hP := hP1
          have hD := hD1
          obtain ⟨E83, rfl⟩ : ∃ z, z = u81 := ⟨_, rfl⟩
          obtain ⟨w84, hp87, p_85, p_86⟩ := hp82
          have p_85 : E83 (20 + n) (16 + 10 * via) = .inl (kA 0, 6, .inl w84) := p_85
          have p_86 : (∀ b2 o2, ¬ (b2 = (20 + n) ∧ o2 = (16 + 10 * via)) → E83 b2 o2 = E3 b2 o2) := p_86
          have c_88 : E83 (20 + n) (13 + 10 * via) = .inr (10, [.ref (ad (20 + n) (16 + 10 * via))]) := (p_86 (20 + n) (13 + 10 * via) (by omega)).trans c_37
          have hP : va_P D xcl (rp ad E83 RL) H := hP
          have hD : va_D A (rp ad E83 RL) := hD
          have hPJn : PJ (fun a t => BS (eA (E (20 + n) (16 + 10 * a))) t) (fun b => 12 * n + mdv g n b) mk via (k + 1) (fun j => eA (E83 (20 + n) (16 + 10 * j))) := PJ_y (Rw := (fun j => eA (E3 (20 + n) (16 + 10 * j)))) (by omega) (by omega) hmk9 hPJ (fun j hj hne => by
            show eA (E83 (20 + n) (16 + 10 * j)) = eA (E3 (20 + n) (16 + 10 * j))
            rw [p_86 (20 + n) (16 + 10 * j) (by omega)]) (fun t ht => by
            show BS (eA (E83 (20 + n) (16 + 10 * k))) t ↔ (BS (eA (E3 (20 + n) (16 + 10 * k))) t ∨ BS (eA (E3 (20 + n) (16 + 10 * via))) t)
            rw [hkv, hrwvia, show eA (E83 (20 + n) (16 + 10 * via)) = w84 from by rw [p_85]; rfl]
            exact BS_join ht hp87)
          refine lv_iinc (k := 0) (x := (nI via)) (v := (nI (via + 1))) hx hb xd_Ly_follow_46 hl rfl (xb_inc via 1) (Nat.le_of_ble_eq_true rfl) rfl (fun ls hl => ?_)
          have hl : lv_has ls 4 [(3, .int (nI (via + 1))), (2, .int (nI via)), (1, .ref (ad (20 + n) 3)), (0, .ref (ad (20 + n) 0))] := hl
          refine lv_goto (tgt := 13) hx hb xd_Ly_follow_49 (by decide) ?_
          exact ih6 (via + 1, E83) _ _ _ (show mk - (via + 1) < mk - k by omega) (lv_sub hl [0, 1, 2, 3] rfl) hP hD hS ⟨(show (via + 1) ≤ mk from by first | assumption | omega), (show RI kA (20 + n) E E83 from RI.trans' hRI (RI.row c_43 p_85 p_86)), (show PJ (fun a t => BS (eA (E (20 + n) (16 + 10 * a))) t) (fun b => 12 * n + mdv g n b) mk via (via + 1) (fun j => eA (E83 (20 + n) (16 + 10 * j))) from (by have q := hPJn; rw [hkv] at q; exact q)), (show ∀ o8, (∀ j8, j8 < mk → ¬ o8 = 16 + 10 * j8) → E83 (20 + n) o8 = E (20 + n) o8 from fun o9 h9 => (p_86 (20 + n) o9 (by
        have q := h9 via (by omega)
        omega)).trans (hot o9 h9))⟩
        · have hkv := hkv
          refine lv_aload_n hx hb xd_Ly_follow_37 rfl (lv_at hl 2 rfl) ?_
          refine lv_iload_n hx hb xd_Ly_follow_38 rfl (lv_at hl 0 rfl) ?_
          refine px_aald (i := k) (x := (some (ad (20 + n) (13 + 10 * k)))) hx hb hK.1 hP ym2 c_9 7 rfl (hfs k (by omega)) (by omega) (by omega) xd_Ly_follow_39 ?_
          refine lv_aload_n hx hb xd_Ly_follow_40 rfl (lv_at hl 2 rfl) ?_
          refine lv_iload_n hx hb xd_Ly_follow_41 rfl (lv_at hl 1 rfl) ?_
          refine px_aald (i := via) (x := (some (ad (20 + n) (13 + 10 * via)))) hx hb hK.1 hP ym2 c_9 7 rfl (hfs via (by omega)) (by omega) (by omega) xd_Ly_follow_42 ?_
          have hFc := px_free hD hS hA
          refine va_callv (va_runV (As := [.ref (ad (20 + n) (13 + 10 * via))]) (rest := []) ⟨hx, hb, hml, hown, hT⟩ (xc_Re_joinX l D kA H.size ad E3 RL (20 + n) (13 + 10 * k) (16 + 10 * k) g3_12 (20 + n) (13 + 10 * via) (16 + 10 * via) g3_30 m_20 c_19 m_26 c_25 m_38 c_37 m_44 c_43 (by first | assumption | omega) (by first | assumption | omega)) (cwV 1 hT (wT_V k5t_7 k5t_8 k5t_9 k5t_5 k5t_6) rfl rfl rfl (by decide +kernel) ⟨Nat.le_of_ble_eq_true rfl, Nat.le_of_ble_eq_true rfl⟩) (px_preV hK hP hD m_20 c_19 rfl) rfl rfl hl.1 rfl (lv_room (Nat.le_of_ble_eq_true rfl)) xd_Ly_follow_43 ⟨(Nat.le_of_ble_eq_true rfl), (Nat.le_of_ble_eq_true rfl)⟩) hS (fun q _ h => hFc q h) hFc (fun u90 t H1 locs ht hvm hp91 hB hz1 hk1 hS => ?_)
          obtain ⟨hP1, hD1⟩ := hB
          rw [ht] at hP1
          have hD1 := hD1.weaken (fun _ _ _ h => hFc _ h)
          generalize H1 = H at hP1 hS ⊢
          have hP := hP1
          have hD := hD1
          obtain ⟨E92, rfl⟩ : ∃ z, z = u90 := ⟨_, rfl⟩
          obtain ⟨w93, hp96, p_94, p_95⟩ := hp91
          have p_94 : E92 (20 + n) (16 + 10 * k) = .inl (kA 0, 6, .inl w93) := p_94
          have p_95 : (∀ b2 o2, ¬ (b2 = (20 + n) ∧ o2 = (16 + 10 * k)) → E92 b2 o2 = E3 b2 o2) := p_95
          have c_97 : E92 (20 + n) (13 + 10 * k) = .inr (10, [.ref (ad (20 + n) (16 + 10 * k))]) := (p_95 (20 + n) (13 + 10 * k) (by omega)).trans c_19
          have c_98 : E92 (20 + n) (13 + 10 * via) = .inr (10, [.ref (ad (20 + n) (16 + 10 * via))]) := (p_95 (20 + n) (13 + 10 * via) (by omega)).trans c_37
          have c_99 : E92 (20 + n) (16 + 10 * via) = .inl (kA 0, 6, .inl g3_30) := (p_95 (20 + n) (16 + 10 * via) (by omega)).trans c_43
          have hP : va_P D xcl (rp ad E92 RL) H := hP
          have hD : va_D A (rp ad E92 RL) := hD
          have hPJn : PJ (fun a t => BS (eA (E (20 + n) (16 + 10 * a))) t) (fun b => 12 * n + mdv g n b) mk via (k + 1) (fun j => eA (E92 (20 + n) (16 + 10 * j))) := PJ_y (Rw := (fun j => eA (E3 (20 + n) (16 + 10 * j)))) (by omega) (by omega) hmk9 hPJ (fun j hj hne => by
            show eA (E92 (20 + n) (16 + 10 * j)) = eA (E3 (20 + n) (16 + 10 * j))
            rw [p_95 (20 + n) (16 + 10 * j) (by omega)]) (fun t ht => by
            show BS (eA (E92 (20 + n) (16 + 10 * k))) t ↔ (BS (eA (E3 (20 + n) (16 + 10 * k))) t ∨ BS (eA (E3 (20 + n) (16 + 10 * via))) t)
            rw [hrwk, hrwvia, show eA (E92 (20 + n) (16 + 10 * k)) = w93 from by rw [p_94]; rfl]
            exact BS_join ht hp96)
          refine lv_iinc (k := 0) (x := (nI k)) (v := (nI (k + 1))) hx hb xd_Ly_follow_46 hl rfl (xb_inc k 1) (Nat.le_of_ble_eq_true rfl) rfl (fun ls hl => ?_)
          have hl : lv_has ls 4 [(3, .int (nI (k + 1))), (2, .int (nI via)), (1, .ref (ad (20 + n) 3)), (0, .ref (ad (20 + n) 0))] := hl
          refine lv_goto (tgt := 13) hx hb xd_Ly_follow_49 (by decide) ?_
          exact ih6 (k + 1, E92) _ _ _ (show mk - (k + 1) < mk - k by omega) (lv_sub hl [0, 1, 2, 3] rfl) hP hD hS ⟨(show (k + 1) ≤ mk from by first | assumption | omega), (show RI kA (20 + n) E E92 from RI.trans' hRI (RI.row c_25 p_94 p_95)), (show PJ (fun a t => BS (eA (E (20 + n) (16 + 10 * a))) t) (fun b => 12 * n + mdv g n b) mk via (k + 1) (fun j => eA (E92 (20 + n) (16 + 10 * j))) from hPJn), (show ∀ o8, (∀ j8, j8 < mk → ¬ o8 = 16 + 10 * j8) → E92 (20 + n) o8 = E (20 + n) o8 from fun o9 h9 => (p_95 (20 + n) o9 (by
        have q := h9 k (by omega)
        omega)).trans (hot o9 h9))⟩
      · have hmk9 : ¬ PW (fun a t => BS (eA (E (20 + n) (16 + 10 * a))) t) (fun b => 12 * n + mdv g n b) via k ((fun b => 12 * n + mdv g n b) via) := fun q => absurd z78 (((BS_marks (f := g3_12) (n := n) (d := d_30) (by omega)).trans (by rw [← hrwk, ← hdmv]; exact PJ_at hPJ (by omega) (by have q := hdmv; omega))).mpr q)
        refine W.eq (g2 := F0 m 34 ls [.int 0]) rfl ?_
        refine lv_if_eq (tgt := 46) hx hb xd_Ly_follow_34 (by decide) (fun _ => ?_) (fun hc100 => absurd (by decide) hc100)
        refine lv_iinc (k := 0) (x := (nI k)) (v := (nI (k + 1))) hx hb xd_Ly_follow_46 hl rfl (xb_inc k 1) (Nat.le_of_ble_eq_true rfl) rfl (fun ls hl => ?_)
        have hl : lv_has ls 4 [(3, .int (nI (k + 1))), (2, .int (nI via)), (1, .ref (ad (20 + n) 3)), (0, .ref (ad (20 + n) 0))] := hl
        refine lv_goto (tgt := 13) hx hb xd_Ly_follow_49 (by decide) ?_
        exact ih6 (k + 1, E3) _ _ _ (show mk - (k + 1) < mk - k by omega) (lv_sub hl [0, 1, 2, 3] rfl) hP hD hS ⟨(show (k + 1) ≤ mk from by first | assumption | omega), (show RI kA (20 + n) E E3 from hRI), (show PJ (fun a t => BS (eA (E (20 + n) (16 + 10 * a))) t) (fun b => 12 * n + mdv g n b) mk via (k + 1) (fun j => eA (E3 (20 + n) (16 + 10 * j))) from PJ_n hmk9 hPJ), (show ∀ o8, (∀ j8, j8 < mk → ¬ o8 = 16 + 10 * j8) → E3 (20 + n) o8 = E (20 + n) o8 from hot)⟩
def RDp (g : gT) (n d k t : Nat) : Prop := ∃ i, i < k ∧ ∃ la e, lkG g (n + 1) (g 13 (5 * d + i)) = some (la, e) ∧ (t = 12 * la + e ∨ tc (pst g) (12 * la + e) t)
theorem RDp_0 {g : gT} {n d t : Nat} : ¬ RDp g n d 0 t := fun ⟨j, h, _⟩ => by omega
theorem RDp_y {g : gT} {n d i t la e : Nat} (hl : lkG g (n + 1) (g 13 (5 * d + i)) = some (la, e)) : RDp g n d (i + 1) t ↔ (RDp g n d i t ∨ (t = 12 * la + e ∨ tc (pst g) (12 * la + e) t)) := by
  constructor
  · intro ⟨j, h1, la2, e2, h3, h4⟩
    rcases Nat.lt_or_ge j i with q | q
    · exact Or.inl ⟨j, q, la2, e2, h3, h4⟩
    · rw [show j = i by omega, hl] at h3
      have q1 := congrArg Prod.fst (Option.some.inj h3)
      have q2 := congrArg Prod.snd (Option.some.inj h3)
      simp only at q1 q2
      subst q1
      subst q2
      exact Or.inr h4
  · rintro (⟨j, h1, h2⟩ | q)
    · exact ⟨j, by omega, h2⟩
    · exact ⟨i, by omega, la, e, hl, q⟩
theorem RDp_n {g : gT} {n d i t : Nat} (h : lkG g (n + 1) (g 13 (5 * d + i)) = none) : RDp g n d (i + 1) t ↔ RDp g n d i t := by
  constructor
  · intro ⟨j, h1, la2, e2, h3, h4⟩
    rcases Nat.lt_or_ge j i with q | q
    · exact ⟨j, q, la2, e2, h3, h4⟩
    · rw [show j = i by omega] at h3
      rw [h] at h3; cases h3
  · intro ⟨j, h1, h2⟩
    exact ⟨j, by omega, h2⟩
theorem RDp_rd {g : gT} {n d t : Nat} : RDp g n d (iN (g 12 d)) t ↔ rdP g n d t := by
  constructor
  · intro ⟨i, h1, la, e, h2, h3⟩
    have hr : rd0 g n d (5 * d + iN (g 12 d)) (12 * la + e) := ⟨5 * d + i, by omega, by omega, la, e, h2, rfl⟩
    rcases h3 with q | q
    · rw [q]; exact Or.inl hr
    · exact Or.inr ⟨_, hr, q⟩
  · rintro (⟨i, h0, h1, la, e, h2, h3⟩ | ⟨c, ⟨i, h0, h1, la, e, h2, h3⟩, h4⟩)
    · refine ⟨i - 5 * d, by omega, la, e, ?_, Or.inl h3⟩
      rw [show 5 * d + (i - 5 * d) = i by omega]; exact h2
    · refine ⟨i - 5 * d, by omega, la, e, ?_, Or.inr (by rw [← h3]; exact h4)⟩
      rw [show 5 * d + (i - 5 * d) = i by omega]; exact h2
def LKH (g : gT) (n : Nat) : Prop := (∀ x, x < n + 1 → prv g x ≤ x) ∧ ∀ la, la < n + 1 → ∀ k, k < mcv g la → mdv g la k < 12
theorem LKH_T {g : gT} {ad : Nat → Nat → Nat} {E : Nat → Nat → va_E} {nd nL n : Nat} (hL : nL ≤ 6) (hnd : nd ≤ 12) (hm : ∀ la, la < nL → eL (E (20 + la) 1) ≤ 12) (hn : n < nL) (h : TLas g ad E nd nL) : LKH g n := by
  refine ⟨fun x hx => prv_T hL h x (by omega), fun la hl k hk => ?_⟩
  obtain ⟨_, _, h3, h4⟩ := h la (by omega)
  unfold mcv at hk
  rw [h3, iN_nI (by have q := hm la (by omega); omega)] at hk
  obtain ⟨d, q1, q2, _⟩ := h4 k hk
  unfold mdv
  rw [q2, iN_nI (by omega)]; omega
theorem lkG_ltP {g : gT} {n lq la b : Nat} {nm : Int32} (hk : LKH g n) (hl : lq ≤ n + 1) (h : lkG g lq nm = some (la, b)) : la < lq ∧ b < 12 ∧ ∃ k, k < mcv g la ∧ mdv g la k = b := by
  obtain ⟨q1, k, q2, q3, _⟩ := lkf_lt lq lq (fun x hx => hk.1 x (by omega)) h
  exact ⟨q1, by rw [← q3]; exact hk.2 la (by omega) k q2, k, q2, q3⟩
theorem tc_last {R : Nat → Nat → Prop} {a b : Nat} (h : tc R a b) : R a b ∨ ∃ x, tc R a x ∧ R x b := by
  obtain ⟨k, hk⟩ := h
  cases k with
  | zero => exact Or.inl hk
  | succ j => obtain ⟨c, h1, h2⟩ := hk; exact Or.inr ⟨c, ⟨j, h1⟩, h2⟩
theorem PW_congr {F F2 : Nat → Nat → Prop} {nf : Nat → Nat} {mk : Nat} (hn : ∀ a, a < mk → nf a < 72) (h : ∀ a, a < mk → ∀ t, t < 72 → (F a t ↔ F2 a t)) : ∀ v, v ≤ mk → ∀ a, a < mk → ∀ t, t < 72 → (PW F nf v a t ↔ PW F2 nf v a t)
  | 0, _, a, ha, t, ht => h a ha t ht
  | v + 1, hv, a, ha, t, ht => by
    have i1 := PW_congr hn h v (by omega) a ha t ht
    have i2 := PW_congr hn h v (by omega) a ha (nf v) (hn v (by omega))
    have i3 := PW_congr hn h v (by omega) v (by omega) t ht
    constructor
    · rintro (q | ⟨q1, q2⟩)
      · exact Or.inl (i1.mp q)
      · exact Or.inr ⟨i2.mp q1, i3.mp q2⟩
    · rintro (q | ⟨q1, q2⟩)
      · exact Or.inl (i1.mpr q)
      · exact Or.inr ⟨i2.mpr q1, i3.mpr q2⟩
def LSr (g : gT) (n a t : Nat) : Prop := LSp g n (mdv g n a) (iN (g 12 (mdv g n a))) t
def CSr (g : gT) (n a t : Nat) : Prop := CSp g n (mdv g n a) (iN (g 12 (mdv g n a))) t
theorem LS_tc {g : gT} {n mk a e : Nat} (hk : LKH g n) (hm : mcv g n = mk) (ha : a < mk) (he : e < 12) : tc (RN (LSr g n) (fun b => 12 * n + mdv g n b) mk) (12 * n + mdv g n a) (12 * n + e) ↔ tc (stp g n) (mdv g n a) e := by
  have hst : ∀ b t, b < mk → LSr g n b t → ∀ e2, e2 < 12 → t = 12 * n + e2 → stp g n (mdv g n b) e2 := fun b t hb ⟨i, h1, h2, la, e3, h3, h4⟩ e2 he2 ht => by
    obtain ⟨_, q2, _⟩ := lkG_ltP hk (Nat.le_refl _) h3
    have ela : la = n := by omega
    have ee : e3 = e2 := by omega
    rw [ela, ee] at h3
    exact ⟨5 * mdv g n b + i, by omega, by omega, h2, h3⟩
  constructor
  · intro h
    refine tc_min (S := fun t => ∀ e2, e2 < 12 → t = 12 * n + e2 → tc (stp g n) (mdv g n a) e2) ?_ ?_ h e he rfl
    · intro t ⟨b, hb, hx, hF⟩ e2 he2 ht
      have hx : 12 * n + mdv g n a = 12 * n + mdv g n b := hx
      rw [show mdv g n a = mdv g n b by omega]
      exact tc_1 (hst b t hb hF e2 he2 ht)
    · intro x t hS ⟨b, hb, hx, hF⟩ e2 he2 ht
      exact tc_s (hS (mdv g n b) (hk.2 n (by omega) b (by omega)) hx) (hst b t hb hF e2 he2 ht)
  · intro h
    have hR : ∀ b c, b < mk → stp g n (mdv g n b) c → RN (LSr g n) (fun b => 12 * n + mdv g n b) mk (12 * n + mdv g n b) (12 * n + c) := fun b c hb ⟨i, h1, h2, h3, h4⟩ => ⟨b, hb, rfl, i - 5 * mdv g n b, by omega, by rw [show 5 * mdv g n b + (i - 5 * mdv g n b) = i by omega]; exact h3, n, c, by rw [show 5 * mdv g n b + (i - 5 * mdv g n b) = i by omega]; exact h4, rfl⟩
    have hMB : ∀ b c, stp g n b c → ∃ k, k < mk ∧ mdv g n k = c := fun b c ⟨i, _, _, _, h4⟩ => by
      obtain ⟨_, _, k, q1, q2⟩ := lkG_ltP hk (Nat.le_refl _) h4
      exact ⟨k, by omega, q2⟩
    refine (tc_min (S := fun x => tc (RN (LSr g n) (fun b => 12 * n + mdv g n b) mk) (12 * n + mdv g n a) (12 * n + x) ∧ ∃ k, k < mk ∧ mdv g n k = x) ?_ ?_ h).1
    · intro c hs
      exact ⟨tc_1 (hR a c ha hs), hMB _ c hs⟩
    · intro b c ⟨h1, k, hk9, hb⟩ hs
      subst hb
      exact ⟨tc_s h1 (hR k c hk9 hs), hMB _ c hs⟩
theorem pst_at {g : gT} {n d t : Nat} (hd : d < 12) : pst g (12 * n + d) t ↔ ∃ i, i < iN (g 12 d) ∧ ¬ g 16 (5 * d + i) = 0 ∧ ∃ la e, lkG g (n + 1) (g 13 (5 * d + i)) = some (la, e) ∧ t = 12 * la + e := by
  unfold pst
  rw [show (12 * n + d) % 12 = d by omega, show (12 * n + d) / 12 = n by omega]
  constructor
  · intro ⟨i, h1, h2, h3, la, e, h4, h5⟩
    exact ⟨i - 5 * d, by omega, by rw [show 5 * d + (i - 5 * d) = i by omega]; exact h3, la, e, by rw [show 5 * d + (i - 5 * d) = i by omega]; exact h4, h5⟩
  · intro ⟨i, h1, h3, la, e, h4, h5⟩
    exact ⟨5 * d + i, by omega, by omega, h3, la, e, h4, h5⟩
theorem CS_tc {g : gT} {n mk a t : Nat} (hk : LKH g n) (hm : mcv g n = mk) (ha : a < mk) : tc (RN (CSr g n) (fun b => 12 * n + mdv g n b) mk) (12 * n + mdv g n a) t ↔ tc (pst g) (12 * n + mdv g n a) t := by
  have hR : ∀ x t, RN (CSr g n) (fun b => 12 * n + mdv g n b) mk x t → tc (pst g) x t := fun x t ⟨b, hb, hx, i, h1, h2, la, e, h3, h4⟩ => by
    have hx : x = 12 * n + mdv g n b := hx
    have hp : pst g x (12 * la + e) := by rw [hx]; exact (pst_at (hk.2 n (by omega) b (by omega))).mpr ⟨i, h1, h2, la, e, h3, rfl⟩
    rcases h4 with q | ⟨_, q⟩
    · rw [q]; exact tc_1 hp
    · exact tc_tr (tc_1 hp) q
  constructor
  · intro h
    exact tc_min (S := fun x => tc (pst g) (12 * n + mdv g n a) x) (fun b hb => hR _ b hb) (fun b c h1 h2 => tc_tr h1 (hR b c h2)) h
  · intro h
    have hM : ∀ b c, b < mk → pst g (12 * n + mdv g n b) c → RN (CSr g n) (fun b => 12 * n + mdv g n b) mk (12 * n + mdv g n b) c := fun b c hb hp => by
      obtain ⟨i, h1, h2, la, e, h3, h4⟩ := (pst_at (hk.2 n (by omega) b (by omega))).mp hp
      exact ⟨b, hb, rfl, i, h1, h2, la, e, h3, Or.inl h4⟩
    have hL : ∀ b c, b < 12 * (n + 1) → pst g b c → c / 12 < b / 12 + 1 ∧ (c / 12 = n → ∃ k, k < mk ∧ c = 12 * n + mdv g n k) := fun b c hb hp => by
      obtain ⟨i, _, _, _, la, e, h4, h5⟩ := hp
      obtain ⟨q1, q2, k, q3, q4⟩ := lkG_ltP hk (by omega) h4
      refine ⟨by omega, fun hc => ⟨k, ?_, ?_⟩⟩
      · have : la = n := by omega
        rw [this] at q3; omega
      · have : la = n := by omega
        rw [this] at q4; omega
    have hlast : ∀ x b c, RN (CSr g n) (fun b => 12 * n + mdv g n b) mk x b → ¬ b / 12 = n → pst g b c → RN (CSr g n) (fun b => 12 * n + mdv g n b) mk x c := fun x b c ⟨y, hy, hx, i, h1, h2, la, e, h3, h4⟩ hbn hp => by
      refine ⟨y, hy, hx, i, h1, h2, la, e, h3, Or.inr ?_⟩
      obtain ⟨_, q2, _⟩ := lkG_ltP hk (Nat.le_refl _) h3
      rcases h4 with q | ⟨q, q9⟩
      · refine ⟨by omega, tc_1 ?_⟩
        rw [← q]; exact hp
      · exact ⟨q, tc_s q9 hp⟩
    refine (tc_min (S := fun x => tc (RN (CSr g n) (fun b => 12 * n + mdv g n b) mk) (12 * n + mdv g n a) x ∧ x < 12 * (n + 1) ∧ (x / 12 = n → ∃ k, k < mk ∧ x = 12 * n + mdv g n k)) ?_ ?_ h).1
    · intro c hp
      have q0 := hk.2 n (by omega) a (by omega)
      obtain ⟨q1, q2⟩ := hL _ c (by omega) hp
      exact ⟨tc_1 (hM a c ha hp), by omega, q2⟩
    · intro b c ⟨h1, h2, h3⟩ hp
      obtain ⟨q1, q2⟩ := hL b c h2 hp
      refine ⟨?_, by omega, q2⟩
      by_cases hbn : b / 12 = n
      · obtain ⟨k, hk9, hb⟩ := h3 hbn
        subst hb
        exact tc_s h1 (hM k c hk9 hp)
      · rcases tc_last h1 with q | ⟨x, q3, q4⟩
        · exact tc_1 (hlast _ b c q hbn hp)
        · exact tc_s q3 (hlast x b c q4 hbn hp)
theorem k5u_0 : (Cond.fieldLink "LayerDesk$Member" 44 "LayerDesk$Member" "required" "[LLayerDesk$Member;") ∈ wT := wT_t (List.mem_append_right _ (List.mem_append_right _ (List.mem_append_left _ (List.mem_of_getElem? (i := 186) rfl)))) rfl
theorem k5u_1 : (Cond.fieldLink "LayerDesk$Member" 21 "LayerDesk$Member" "reading" "LLayerDesk$Reach;") ∈ wT := wT_t (List.mem_append_right _ (List.mem_append_right _ (List.mem_append_left _ (List.mem_of_getElem? (i := 191) rfl)))) rfl
theorem k5u_2 : (Cond.code xy_Re_unmark xb_Re_unmark 2 none) ∈ wT := wT_t (List.mem_append_right _ (List.mem_append_right _ (List.mem_append_left _ (List.mem_of_getElem? (i := 239) rfl)))) rfl
theorem k5u_3 : (Cond.methodLink "LayerDesk$Member" 72 xy_Re_unmark) ∈ wT := wT_t (List.mem_append_right _ (List.mem_append_right _ (List.mem_append_left _ (List.mem_of_getElem? (i := 236) rfl)))) rfl
theorem k5u_4 : (Cond.instanceMethod xy_Re_unmark) ∈ wT := wT_t (List.mem_append_right _ (List.mem_append_right _ (List.mem_append_left _ (List.mem_of_getElem? (i := 237) rfl)))) rfl
theorem k5u_5 : (Cond.selects "LayerDesk$Reach" xy_Re_unmark xy_Re_unmark) ∈ wT := wT_t (List.mem_append_right _ (List.mem_append_right _ (List.mem_append_left _ (List.mem_of_getElem? (i := 238) rfl)))) rfl
theorem k5u_6 : (Cond.initialized "LayerDesk$Reach") ∈ wT := wT_t (List.mem_append_left _ (List.mem_of_getElem? (i := 21) rfl)) rfl
theorem k5u_7 : (Cond.code xy_Re_mark xb_Re_mark 2 none) ∈ wT := wT_t (List.mem_append_right _ (List.mem_append_right _ (List.mem_append_left _ (List.mem_of_getElem? (i := 221) rfl)))) rfl
theorem k5u_8 : (Cond.methodLink "LayerDesk$Member" 61 xy_Re_mark) ∈ wT := wT_t (List.mem_append_right _ (List.mem_append_right _ (List.mem_append_left _ (List.mem_of_getElem? (i := 218) rfl)))) rfl
theorem k5u_9 : (Cond.instanceMethod xy_Re_mark) ∈ wT := wT_t (List.mem_append_right _ (List.mem_append_right _ (List.mem_append_left _ (List.mem_of_getElem? (i := 219) rfl)))) rfl
theorem k5u_10 : (Cond.selects "LayerDesk$Reach" xy_Re_mark xy_Re_mark) ∈ wT := wT_t (List.mem_append_right _ (List.mem_append_right _ (List.mem_append_left _ (List.mem_of_getElem? (i := 220) rfl)))) rfl
theorem k5u_11 : (Cond.fieldLink "LayerDesk$Member" 18 "LayerDesk$Member" "carried" "LLayerDesk$Reach;") ∈ wT := wT_t (List.mem_append_right _ (List.mem_append_right _ (List.mem_append_left _ (List.mem_of_getElem? (i := 189) rfl)))) rfl
theorem k5u_12 : (Cond.code xy_Re_join xb_Re_join 3 none) ∈ wT := wT_t (List.mem_append_right _ (List.mem_append_right _ (List.mem_append_left _ (List.mem_of_getElem? (i := 225) rfl)))) rfl
theorem k5u_13 : (Cond.methodLink "LayerDesk$Member" 68 xy_Re_join) ∈ wT := wT_t (List.mem_append_right _ (List.mem_append_right _ (List.mem_append_left _ (List.mem_of_getElem? (i := 222) rfl)))) rfl
theorem k5u_14 : (Cond.instanceMethod xy_Re_join) ∈ wT := wT_t (List.mem_append_right _ (List.mem_append_right _ (List.mem_append_left _ (List.mem_of_getElem? (i := 223) rfl)))) rfl
theorem k5u_15 : (Cond.selects "LayerDesk$Reach" xy_Re_join xy_Re_join) ∈ wT := wT_t (List.mem_append_right _ (List.mem_append_right _ (List.mem_append_left _ (List.mem_of_getElem? (i := 224) rfl)))) rfl
set_option maxHeartbeats 4000000 in
set_option maxRecDepth 100000 in
theorem xc_Me_settleReadingX (l : Launch) (D : va_G) (kA : Nat → ClassId) (sz : Nat) (ad : Nat → Nat → Nat) (E : Nat → Nat → va_E) (RL : List (Nat × Nat)) (g : Nat → Nat → Int32) (nd : Nat) (nL : Nat) (n : Nat) (k : Nat) (d : Nat) (rs : Nat) (fr : Nat → Option Nat) (gc : Nat → Int32) (gb : Nat → Int32) (ym0 : (20 + n, 10 + 10 * k) ∈ RL) (yc0 : E (20 + n) (10 + 10 * k) = .inr (6, [.ref (ad (20 + n) 0), .ref (ad (1 + d) 0), .ref (ad (20 + n) (11 + 10 * k)), .ref (ad (20 + n) (12 + 10 * k)), .ref (ad (20 + n) (13 + 10 * k)), .ref (ad (20 + n) (14 + 10 * k))])) (ym1 : (20 + n, 11 + 10 * k) ∈ RL) (yc1 : E (20 + n) (11 + 10 * k) = .inl (kA 6, rs, .inr (.inr (.inr (.inr fr))))) (ym2 : (20 + n, 13 + 10 * k) ∈ RL) (yc2 : E (20 + n) (13 + 10 * k) = .inr (10, [.ref (ad (20 + n) (16 + 10 * k))])) (ym3 : (20 + n, 14 + 10 * k) ∈ RL) (yc3 : E (20 + n) (14 + 10 * k) = .inr (10, [.ref (ad (20 + n) (17 + 10 * k))])) (ym4 : (20 + n, 17 + 10 * k) ∈ RL) (yc4 : E (20 + n) (17 + 10 * k) = .inl (kA 0, 6, .inl gc)) (ym5 : (20 + n, 16 + 10 * k) ∈ RL) (yc5 : E (20 + n) (16 + 10 * k) = .inl (kA 0, 6, .inl gb)) (hDIs : DIs kA ad E RL nd) (hLIs : LIs kA ad E RL nd nL) (hnd12 : nd ≤ 12) (hnL : nL ≤ 6) (hn : n < nL) (hd : d < nd) (hrs : rs ≤ 5) (hRQ : RQX g kA ad E RL nd n d rs fr) (hTD : TDs g E nd) (hTL : TLas g ad E nd nL) (hdk : mdv g n k = d) (hCB : CBs g E (n + 1)) (hkm : k < iN (g 20 n)) : Met l xy_Me_settleReading (.code xy_Me_settleReading xb_Me_settleReading 2 none :: wT) { frames := 1, cells := 0, slots := 0, locals := 22 } (va_Pc [.ref (ad (20 + n) (10 + 10 * k))] (xPre D kA sz (rp ad E RL))) (va_Qv (fun (u : Nat → Nat → va_E) => ∃ gc2 : Nat → Int32, (∀ t, t < 72 → (BS gc2 t ↔ ((BS gc t ∨ RDp g n d rs t) ∧ t ≠ 12 * n + d))) ∧ (u (20 + n) (17 + 10 * k) = .inl (kA 0, 6, .inl gc2)) ∧ ((∀ b2 o2, ¬ (b2 = 20 + n ∧ o2 = 17 + 10 * k) → u b2 o2 = E b2 o2))) (fun (u : Nat → Nat → va_E) t => va_P D xcl (rp ad u RL) t.heap ∧ va_D (va_A (rp ad E RL) sz) (rp ad u RL)) (va_A (rp ad E RL) sz)) 0 0 (va_A (rp ad E RL) sz) := by
  refine Met.ofW (cc := xb_Me_settleReading) (maxL := 2) (ret := none) (by decide) rfl ?_
  intro p e s m args below meth c s₁ B hml hv
  obtain ⟨rfl, hsz, hP, hK, hD0⟩ := hv
  have hx := B.exec
  have hb := B.bytes
  have hr := B.returns
  have hT := x_hT B.pre
  have hown : s.vm.findClass xR_Me = some m.cls := findClass_of_methodNamed B.named
  have hlocks := B.notSynchronized
  subst hsz
  have hD := hD0.self (sz := s.heap.size)
  generalize hAe : va_A (rp ad E RL) s.heap.size = A at hD ⊢
  have hA : ∀ q : Nat, s.heap.size ≤ q → A q := fun q h => by rw [← hAe]; exact Or.inr h
  have hS : va_S A s.heap s.heap [] := va_S.rf
  have hl := lv_entry ([.ref (ad (20 + n) (10 + 10 * k))]) (n := 2) (Nat.le_of_ble_eq_true rfl)
  rw [lg_entry_eq]
  generalize (lg_sl ([.ref (ad (20 + n) (10 + 10 * k))]) ++ List.replicate (2 - (lg_sl ([.ref (ad (20 + n) (10 + 10 * k))])).length) Slot.unset).toArray = ls at hl ⊢
  have hl : lv_has ls 2 [(0, .ref (ad (20 + n) (10 + 10 * k)))] := hl
  have hP : va_P D xcl (rp ad E RL) s.heap := hP
  have hDIs0 := hDIs
  have hLIs0 := hLIs
  refine lv_iconst (v := 0) hx hb xd_Me_settleReading_0 (by decide) ?_
  refine lv_istore_n hx hb xd_Me_settleReading_1 rfl hl (Nat.le_of_ble_eq_true rfl) rfl (fun ls hl => ?_)
  have hl : lv_has ls 2 [(1, .int 0), (0, .ref (ad (20 + n) (10 + 10 * k)))] := hl
  refine xlab (σ := Nat × (Nat → Nat → va_E) × (Nat → Int32)) (ml := 2) 2 (fun (i, E1, gc1) => [(1, .int (nI i)), (0, .ref (ad (20 + n) (10 + 10 * k)))]) (fun (i, E1, gc1) => []) (fun (i, E1, gc1) => rp ad E1 RL) (fun (i, E1, gc1) => (i ≤ rs) ∧ (E1 (20 + n) (17 + 10 * k) = .inl (kA 0, 6, .inl gc1)) ∧ (∀ b2 o2, ¬ (b2 = 20 + n ∧ o2 = 17 + 10 * k) → E1 b2 o2 = E b2 o2) ∧ (∀ t, t < 72 → (BS gc1 t ↔ (BS gc t ∨ RDp g n d i t)))) (fun (i, E1, gc1) => rs - i) ?_ (0, E, gc) _ _ _ (lv_sub hl [0, 1] rfl) hP hD hS ⟨(show 0 ≤ rs from by first | assumption | omega), (show E (20 + n) (17 + 10 * k) = .inl (kA 0, 6, .inl gc) from yc4), (show ∀ b2 o2, ¬ (b2 = 20 + n ∧ o2 = 17 + 10 * k) → E b2 o2 = E b2 o2 from fun b2 o2 h09 => rfl), (show ∀ t, t < 72 → (BS gc t ↔ (BS gc t ∨ RDp g n d 0 t)) from fun t _ => ⟨Or.inl, fun q => q.elim id (fun z => absurd z RDp_0)⟩)⟩
  intro n9 ih1 a9 ls H locs hμ hl hP hD hS hI
  subst hμ
  obtain ⟨i, E1, gc1⟩ := a9
  obtain ⟨hi, hcA7, hfr, hR9⟩ := hI
  have hi : i ≤ rs := hi
  have hcA7 : E1 (20 + n) (17 + 10 * k) = .inl (kA 0, 6, .inl gc1) := hcA7
  have hfr : ∀ b2 o2, ¬ (b2 = 20 + n ∧ o2 = 17 + 10 * k) → E1 b2 o2 = E b2 o2 := hfr
  have hR9 : ∀ t, t < 72 → (BS gc1 t ↔ (BS gc t ∨ RDp g n d i t)) := hR9
  have hl : lv_has ls 2 [(1, .int (nI i)), (0, .ref (ad (20 + n) (10 + 10 * k)))] := hl
  have hP : va_P D xcl (rp ad E1 RL) H := hP
  have hD : va_D A (rp ad E1 RL) := hD
  have hTD1 : TDs g E1 nd := TDs_same (fun d9 hd9 => fun2 fun o9 => hfr (1 + d9) o9 (by omega)) hTD
  have hTL1 : TLas g ad E1 nd nL := TLas_ro (fun n9 o9 hn9 ho9 => hfr (20 + n9) o9 (by omega)) hTL
  have hRU : RU kA E E1 := (RI.row yc4 hcA7 hfr).ru
  have hDIs := DIs_RU hRU hnd12 hDIs0
  have hLIs := LIs_RU hRU hLIs0
  have c_2 : E1 (20 + n) (10 + 10 * k) = .inr (6, [.ref (ad (20 + n) 0), .ref (ad (1 + d) 0), .ref (ad (20 + n) (11 + 10 * k)), .ref (ad (20 + n) (12 + 10 * k)), .ref (ad (20 + n) (13 + 10 * k)), .ref (ad (20 + n) (14 + 10 * k))]) := (hfr (20 + n) (10 + 10 * k) (by omega)).trans yc0
  have c_3 : E1 (20 + n) (11 + 10 * k) = .inl (kA 6, rs, .inr (.inr (.inr (.inr fr)))) := (hfr (20 + n) (11 + 10 * k) (by omega)).trans yc1
  have c_4 : E1 (20 + n) (13 + 10 * k) = .inr (10, [.ref (ad (20 + n) (16 + 10 * k))]) := (hfr (20 + n) (13 + 10 * k) (by omega)).trans yc2
  have c_5 : E1 (20 + n) (14 + 10 * k) = .inr (10, [.ref (ad (20 + n) (17 + 10 * k))]) := (hfr (20 + n) (14 + 10 * k) (by omega)).trans yc3
  have c_6 : E1 (20 + n) (16 + 10 * k) = .inl (kA 0, 6, .inl gb) := (hfr (20 + n) (16 + 10 * k) (by omega)).trans yc5
  refine lv_iload_n hx hb xd_Me_settleReading_2 rfl (lv_at hl 0 rfl) ?_
  refine lv_aload_n hx hb xd_Me_settleReading_3 rfl (lv_at hl 1 rfl) ?_
  refine px_get (D := D) (ci := 6) (v := .ref (ad (20 + n) (11 + 10 * k))) (C := xR_Me) (T := xT_Me) (N := 6) hx hb hT xi_Me hown hK.1 hP ym0 c_2 rfl 2 (by decide) (hT _ k5u_0) (fun _ h9 => h9) rfl xd_Me_settleReading_4 ?_
  refine px_alen hx hb hK.1 hP ym1 c_3 6 rfl xd_Me_settleReading_7 ?_
  refine W.eq (g2 := F0 m 8 ls [.int (nI rs), .int (nI i)]) rfl ?_
  refine xn_ge (a := i) (b := rs) (tgt := 55) hx hb xd_Me_settleReading_8 (by decide) (by omega) (by omega) (fun hc7 => ?_) (fun hc7 => ?_)
  · obtain ⟨m0_8, m1_8, pv_8, op_8, mk_8, fm_8, hmk_8, hpv_8, q0_8, q1_8, hk_8⟩ := id (hLIs n (by omega))
    have c_9 : E1 (20 + n) 0 = .inr (5, [.int (nI n), pv_8, .ref (ad (20 + n) 1), .int op_8]) := q0_8
    have m_10 : (20 + n, 0) ∈ RL := m0_8
    have c_11 : E1 (20 + n) 1 = .inl (kA 6, mk_8, .inr (.inr (.inr (.inr fm_8)))) := q1_8
    have m_12 : (20 + n, 1) ∈ RL := m1_8
    obtain ⟨top_8, ⟨lq_8, hlq_8, h19_8, hpv2_8⟩, h20_8, tmd_8⟩ := TLa_get c_9 c_11 (hTL1 n (by omega))
    have c_13 : E1 (20 + n) 0 = .inr (5, [.int (nI n), (lyv ad lq_8), .ref (ad (20 + n) 1), .int op_8]) := by rw [← hpv2_8]; exact c_9
    have i20_8 : iN (g 20 n) = mk_8 := by rw [h20_8, iN_nI (by omega)]
    obtain ⟨hm_14, fd_14, nm_14, sd_14, k0_14, k1_14, k2_14, k3_14, f0_14, f1_14, f2_14, f3_14, fe_14, fo_14, tr_14, op_14, hk0_14, hk1_14, hk2_14, hk3_14, q0_14, q1_14, q2_14, q3_14, q4_14, q5_14, q6_14, q7_14, q8_14, q9_14, q10_14, q11_14, q12_14, hg_14⟩ := id (hDIs d (by omega))
    have c_15 : E1 (1 + d) 0 = .inr (7, [.int (nI d), .int fd_14, .int nm_14, .ref (ad (1 + d) 1), .ref (ad (1 + d) 9), .ref (ad (1 + d) 10), .ref (ad (1 + d) 2), .ref (ad (1 + d) 11), .ref (ad (1 + d) 12), .ref (ad (1 + d) 3), .ref (ad (1 + d) 4), .int sd_14]) := q0_14
    have m_16 : (1 + d, 0) ∈ RL := hm_14 0 (by omega)
    have c_17 : E1 (1 + d) 1 = .inr (8, [.ref (ad (1 + d) 5), .int (nI k0_14)]) := q1_14
    have m_18 : (1 + d, 1) ∈ RL := hm_14 1 (by omega)
    have c_19 : E1 (1 + d) 2 = .inr (8, [.ref (ad (1 + d) 6), .int (nI k1_14)]) := q2_14
    have m_20 : (1 + d, 2) ∈ RL := hm_14 2 (by omega)
    have c_21 : E1 (1 + d) 3 = .inr (8, [.ref (ad (1 + d) 7), .int (nI k2_14)]) := q3_14
    have m_22 : (1 + d, 3) ∈ RL := hm_14 3 (by omega)
    have c_23 : E1 (1 + d) 4 = .inr (8, [.ref (ad (1 + d) 8), .int (nI k3_14)]) := q4_14
    have m_24 : (1 + d, 4) ∈ RL := hm_14 4 (by omega)
    have c_25 : E1 (1 + d) 5 = .inl (kA 0, 6, .inl f0_14) := q5_14
    have m_26 : (1 + d, 5) ∈ RL := hm_14 5 (by omega)
    have c_27 : E1 (1 + d) 6 = .inl (kA 0, 5, .inl f1_14) := q6_14
    have m_28 : (1 + d, 6) ∈ RL := hm_14 6 (by omega)
    have c_29 : E1 (1 + d) 7 = .inl (kA 0, 3, .inl f2_14) := q7_14
    have m_30 : (1 + d, 7) ∈ RL := hm_14 7 (by omega)
    have c_31 : E1 (1 + d) 8 = .inl (kA 0, 3, .inl f3_14) := q8_14
    have m_32 : (1 + d, 8) ∈ RL := hm_14 8 (by omega)
    have c_33 : E1 (1 + d) 9 = .inl (kA 8, 6, .inr (.inr (.inr (.inr fe_14)))) := q9_14
    have m_34 : (1 + d, 9) ∈ RL := hm_14 9 (by omega)
    have c_35 : E1 (1 + d) 10 = .inl (kA 8, 6, .inr (.inr (.inr (.inr fo_14)))) := q10_14
    have m_36 : (1 + d, 10) ∈ RL := hm_14 10 (by omega)
    have c_37 : E1 (1 + d) 11 = .inl (kA 2, 5, .inl tr_14) := q11_14
    have m_38 : (1 + d, 11) ∈ RL := hm_14 11 (by omega)
    have c_39 : E1 (1 + d) 12 = .inl (kA 2, 5, .inl op_14) := q12_14
    have m_40 : (1 + d, 12) ∈ RL := hm_14 12 (by omega)
    have hg_14 : ∀ w9, w9 < k0_14 → fe_14 w9 = some (ad (1 + d) (20 + 3 * w9)) ∧ fo_14 w9 = some (ad (1 + d) (38 + 3 * w9)) ∧ GI kA (ad (1 + d)) (E1 (1 + d)) (fun o => (1 + d, o) ∈ RL) (20 + 3 * w9) (21 + 3 * w9) (22 + 3 * w9) ∧ GI kA (ad (1 + d)) (E1 (1 + d)) (fun o => (1 + d, o) ∈ RL) (38 + 3 * w9) (39 + 3 * w9) (40 + 3 * w9) := hg_14
    obtain ⟨hTT_14, tgr_14⟩ := TD_get hk0_14 hk1_14 hk2_14 hk3_14 c_15 c_17 c_19 c_21 c_23 c_25 c_27 c_29 c_31 c_37 c_39 (hTD1 d (by omega))
    obtain ⟨tfd_14, tnm_14, tsd_14, tk0_14, tf0_14, tk1_14, tf1_14, tk2_14, tk3_14⟩ := id hTT_14
    have ik0_14 : iN (g 5 d) = k0_14 := by rw [← tk0_14, iN_nI (by omega)]
    have ik1_14 : iN (g 12 d) = k1_14 := by rw [← tk1_14, iN_nI (by omega)]
    refine lv_aload_n hx hb xd_Me_settleReading_55 rfl (lv_at hl 1 rfl) ?_
    refine px_get (D := D) (ci := 6) (v := .ref (ad (20 + n) (14 + 10 * k))) (C := xR_Me) (T := xT_Me) (N := 6) hx hb hT xi_Me hown hK.1 hP ym0 c_2 rfl 5 (by decide) (hT _ k5u_1) (fun _ h9 => h9) rfl xd_Me_settleReading_56 ?_
    refine lv_aload_n hx hb xd_Me_settleReading_59 rfl (lv_at hl 1 rfl) ?_
    have hFc := px_free hD hS hA
    refine va_callv (va_runV (As := [.ref (ad (20 + n) (10 + 10 * k))]) (rest := []) ⟨hx, hb, hml, hown, hT⟩ (xc_Re_unmark l D kA H.size ad E1 RL (20 + n) (14 + 10 * k) (17 + 10 * k) gc1 n k d (lyv ad lq_8) op_8 fd_14 nm_14 sd_14 ym3 c_5 ym4 hcA7 ym0 c_2 m_10 c_13 m_16 c_15 (by first | assumption | omega) (by first | assumption | omega) (by first | assumption | omega)) (cwV 1 hT (wT_V k5u_3 k5u_4 k5u_5 k5u_6 k5u_2) rfl rfl rfl (by decide +kernel) ⟨Nat.le_of_ble_eq_true rfl, Nat.le_of_ble_eq_true rfl⟩) (px_preV hK hP hD ym3 c_5 rfl) rfl rfl hl.1 rfl (lv_room (Nat.le_of_ble_eq_true rfl)) xd_Me_settleReading_60 ⟨(Nat.le_of_ble_eq_true rfl), (Nat.le_of_ble_eq_true rfl)⟩) hS (fun q _ h => hFc q h) hFc (fun u42 t H1 locs ht hvm hp43 hB hz1 hk1 hS => ?_)
    obtain ⟨hP1, hD1⟩ := hB
    rw [ht] at hP1
    have hD1 := hD1.weaken (fun _ _ _ h => hFc _ h)
    generalize H1 = H at hP1 hS ⊢
    have hP := hP1
    have hD := hD1
    obtain ⟨E44, rfl⟩ : ∃ z, z = u42 := ⟨_, rfl⟩
    obtain ⟨w45, hp48, p_46, p_47⟩ := hp43
    have p_46 : E44 (20 + n) (17 + 10 * k) = .inl (kA 0, 6, .inl w45) := p_46
    have p_47 : (∀ b2 o2, ¬ (b2 = (20 + n) ∧ o2 = (17 + 10 * k)) → E44 b2 o2 = E1 b2 o2) := p_47
    have c_49 : E44 (20 + n) (10 + 10 * k) = .inr (6, [.ref (ad (20 + n) 0), .ref (ad (1 + d) 0), .ref (ad (20 + n) (11 + 10 * k)), .ref (ad (20 + n) (12 + 10 * k)), .ref (ad (20 + n) (13 + 10 * k)), .ref (ad (20 + n) (14 + 10 * k))]) := (p_47 (20 + n) (10 + 10 * k) (by omega)).trans c_2
    have c_50 : E44 (20 + n) (11 + 10 * k) = .inl (kA 6, rs, .inr (.inr (.inr (.inr fr)))) := (p_47 (20 + n) (11 + 10 * k) (by omega)).trans c_3
    have c_51 : E44 (20 + n) (13 + 10 * k) = .inr (10, [.ref (ad (20 + n) (16 + 10 * k))]) := (p_47 (20 + n) (13 + 10 * k) (by omega)).trans c_4
    have c_52 : E44 (20 + n) (14 + 10 * k) = .inr (10, [.ref (ad (20 + n) (17 + 10 * k))]) := (p_47 (20 + n) (14 + 10 * k) (by omega)).trans c_5
    have c_53 : E44 (20 + n) (16 + 10 * k) = .inl (kA 0, 6, .inl gb) := (p_47 (20 + n) (16 + 10 * k) (by omega)).trans c_6
    have c_54 : E44 (20 + n) 0 = .inr (5, [.int (nI n), (lyv ad lq_8), .ref (ad (20 + n) 1), .int op_8]) := (p_47 (20 + n) 0 (by omega)).trans c_13
    have c_55 : E44 (20 + n) 1 = .inl (kA 6, mk_8, .inr (.inr (.inr (.inr fm_8)))) := (p_47 (20 + n) 1 (by omega)).trans c_11
    have c_56 : E44 (1 + d) 0 = .inr (7, [.int (nI d), .int fd_14, .int nm_14, .ref (ad (1 + d) 1), .ref (ad (1 + d) 9), .ref (ad (1 + d) 10), .ref (ad (1 + d) 2), .ref (ad (1 + d) 11), .ref (ad (1 + d) 12), .ref (ad (1 + d) 3), .ref (ad (1 + d) 4), .int sd_14]) := (p_47 (1 + d) 0 (by omega)).trans c_15
    have c_57 : E44 (1 + d) 1 = .inr (8, [.ref (ad (1 + d) 5), .int (nI k0_14)]) := (p_47 (1 + d) 1 (by omega)).trans c_17
    have c_58 : E44 (1 + d) 2 = .inr (8, [.ref (ad (1 + d) 6), .int (nI k1_14)]) := (p_47 (1 + d) 2 (by omega)).trans c_19
    have c_59 : E44 (1 + d) 3 = .inr (8, [.ref (ad (1 + d) 7), .int (nI k2_14)]) := (p_47 (1 + d) 3 (by omega)).trans c_21
    have c_60 : E44 (1 + d) 4 = .inr (8, [.ref (ad (1 + d) 8), .int (nI k3_14)]) := (p_47 (1 + d) 4 (by omega)).trans c_23
    have c_61 : E44 (1 + d) 5 = .inl (kA 0, 6, .inl f0_14) := (p_47 (1 + d) 5 (by omega)).trans c_25
    have c_62 : E44 (1 + d) 6 = .inl (kA 0, 5, .inl f1_14) := (p_47 (1 + d) 6 (by omega)).trans c_27
    have c_63 : E44 (1 + d) 7 = .inl (kA 0, 3, .inl f2_14) := (p_47 (1 + d) 7 (by omega)).trans c_29
    have c_64 : E44 (1 + d) 8 = .inl (kA 0, 3, .inl f3_14) := (p_47 (1 + d) 8 (by omega)).trans c_31
    have c_65 : E44 (1 + d) 9 = .inl (kA 8, 6, .inr (.inr (.inr (.inr fe_14)))) := (p_47 (1 + d) 9 (by omega)).trans c_33
    have c_66 : E44 (1 + d) 10 = .inl (kA 8, 6, .inr (.inr (.inr (.inr fo_14)))) := (p_47 (1 + d) 10 (by omega)).trans c_35
    have c_67 : E44 (1 + d) 11 = .inl (kA 2, 5, .inl tr_14) := (p_47 (1 + d) 11 (by omega)).trans c_37
    have c_68 : E44 (1 + d) 12 = .inl (kA 2, 5, .inl op_14) := (p_47 (1 + d) 12 (by omega)).trans c_39
    have hP : va_P D xcl (rp ad E44 RL) H := hP
    have hD : va_D A (rp ad E44 RL) := hD
    have hRu : ∀ t, t < 72 → (BS w45 t ↔ ((BS gc t ∨ RDp g n d rs t) ∧ t ≠ 12 * n + d)) := fun t ht => by rw [hp48, BS_unmark (by omega), hR9 t ht, show i = rs by omega]
    exact W.vret hx hb hr (fun t ht hW => ⟨⟨E44, rfl, ⟨w45, hRu, p_46, (fun b2 o2 h09 => by show E44 b2 o2 = _; rw [p_47 b2 o2 (by omega), hfr b2 o2 (by omega)])⟩, by rw [ht]; exact hP, hD⟩, hS.F ht⟩) hS.2.2 xd_Me_settleReading_63
  · rcases (show (fr i = none ∧ lkG g (n + 1) (g 13 (5 * d + i)) = none) ∨ (∃ x9 k9, (x9 = n ∧ k9 = k) ∧ fr i = some (ad (20 + x9) (10 + 10 * k9)) ∧ lkG g (n + 1) (g 13 (5 * d + i)) = some (x9, mdv g x9 k9)) ∨ ∃ x9 k9, x9 ≤ n ∧ ¬ (x9 = n ∧ k9 = k) ∧ fr i = some (ad (20 + x9) (10 + 10 * k9)) ∧ MEI kA ad E RL nd x9 k9 ∧ k9 < iN (g 20 x9) ∧ lkG g (n + 1) (g 13 (5 * d + i)) = some (x9, mdv g x9 k9) from by
      rcases hRQ i (by omega) with q | ⟨x9, k9, q1, q2, q3, q5, q6⟩
      · exact Or.inl q
      · by_cases q4 : x9 = n ∧ k9 = k
        · exact Or.inr (Or.inl ⟨x9, k9, q4, q2, q6⟩)
        · exact Or.inr (Or.inr ⟨x9, k9, q1, q4, q2, q3, q5, q6⟩)) with ⟨hq, hlk9⟩ | ⟨x9, k9, ⟨hxk1, hxk2⟩, hq, hlk8⟩ | ⟨x9, k9, hx9, hxk, hq, hM9, hkm9, hlk8⟩
    · have hq := hq
      refine lv_aload_n hx hb xd_Me_settleReading_11 rfl (lv_at hl 1 rfl) ?_
      refine px_get (D := D) (ci := 6) (v := .ref (ad (20 + n) (11 + 10 * k))) (C := xR_Me) (T := xT_Me) (N := 6) hx hb hT xi_Me hown hK.1 hP ym0 c_2 rfl 2 (by decide) (hT _ k5u_0) (fun _ h9 => h9) rfl xd_Me_settleReading_12 ?_
      refine lv_iload_n hx hb xd_Me_settleReading_15 rfl (lv_at hl 0 rfl) ?_
      refine px_aald (i := i) (x := none) hx hb hK.1 hP ym1 c_3 6 rfl (hq) (by omega) (by omega) xd_Me_settleReading_16 ?_
      refine lv_ifnullN (tgt := 49) hx hb xd_Me_settleReading_17 (by decide) ?_
      refine lv_iinc (k := 0) (x := (nI i)) (v := (nI (i + 1))) hx hb xd_Me_settleReading_49 hl rfl (xb_inc i 1) (Nat.le_of_ble_eq_true rfl) rfl (fun ls hl => ?_)
      have hl : lv_has ls 2 [(1, .int (nI (i + 1))), (0, .ref (ad (20 + n) (10 + 10 * k)))] := hl
      refine lv_goto (tgt := 2) hx hb xd_Me_settleReading_52 (by decide) ?_
      exact ih1 (i + 1, E1, gc1) _ _ _ (show rs - (i + 1) < rs - i by omega) (lv_sub hl [0, 1] rfl) hP hD hS ⟨(show (i + 1) ≤ rs from by first | assumption | omega), (show E1 (20 + n) (17 + 10 * k) = .inl (kA 0, 6, .inl gc1) from hcA7), (show ∀ b2 o2, ¬ (b2 = 20 + n ∧ o2 = 17 + 10 * k) → E1 b2 o2 = E b2 o2 from fun b2 o2 h09 => by rw [hfr b2 o2 (by omega)]), (show ∀ t, t < 72 → (BS gc1 t ↔ (BS gc t ∨ RDp g n d (i + 1) t)) from fun t ht => by rw [hR9 t ht, RDp_n hlk9])⟩
    · rw [hxk1, hxk2] at hq
      have hlk9 : lkG g (n + 1) (g 13 (5 * d + i)) = some (n, d) := by rw [hxk1, hxk2, hdk] at hlk8; exact hlk8
      obtain ⟨m0_69, m1_69, pv_69, op_69, mk_69, fm_69, hmk_69, hpv_69, q0_69, q1_69, hk_69⟩ := id (hLIs n (by omega))
      have c_70 : E1 (20 + n) 0 = .inr (5, [.int (nI n), pv_69, .ref (ad (20 + n) 1), .int op_69]) := q0_69
      have m_71 : (20 + n, 0) ∈ RL := m0_69
      have c_72 : E1 (20 + n) 1 = .inl (kA 6, mk_69, .inr (.inr (.inr (.inr fm_69)))) := q1_69
      have m_73 : (20 + n, 1) ∈ RL := m1_69
      obtain ⟨top_69, ⟨lq_69, hlq_69, h19_69, hpv2_69⟩, h20_69, tmd_69⟩ := TLa_get c_70 c_72 (hTL1 n (by omega))
      have c_74 : E1 (20 + n) 0 = .inr (5, [.int (nI n), (lyv ad lq_69), .ref (ad (20 + n) 1), .int op_69]) := by rw [← hpv2_69]; exact c_70
      have i20_69 : iN (g 20 n) = mk_69 := by rw [h20_69, iN_nI (by omega)]
      obtain ⟨hm_75, fd_75, nm_75, sd_75, k0_75, k1_75, k2_75, k3_75, f0_75, f1_75, f2_75, f3_75, fe_75, fo_75, tr_75, op_75, hk0_75, hk1_75, hk2_75, hk3_75, q0_75, q1_75, q2_75, q3_75, q4_75, q5_75, q6_75, q7_75, q8_75, q9_75, q10_75, q11_75, q12_75, hg_75⟩ := id (hDIs d (by omega))
      have c_76 : E1 (1 + d) 0 = .inr (7, [.int (nI d), .int fd_75, .int nm_75, .ref (ad (1 + d) 1), .ref (ad (1 + d) 9), .ref (ad (1 + d) 10), .ref (ad (1 + d) 2), .ref (ad (1 + d) 11), .ref (ad (1 + d) 12), .ref (ad (1 + d) 3), .ref (ad (1 + d) 4), .int sd_75]) := q0_75
      have m_77 : (1 + d, 0) ∈ RL := hm_75 0 (by omega)
      have c_78 : E1 (1 + d) 1 = .inr (8, [.ref (ad (1 + d) 5), .int (nI k0_75)]) := q1_75
      have m_79 : (1 + d, 1) ∈ RL := hm_75 1 (by omega)
      have c_80 : E1 (1 + d) 2 = .inr (8, [.ref (ad (1 + d) 6), .int (nI k1_75)]) := q2_75
      have m_81 : (1 + d, 2) ∈ RL := hm_75 2 (by omega)
      have c_82 : E1 (1 + d) 3 = .inr (8, [.ref (ad (1 + d) 7), .int (nI k2_75)]) := q3_75
      have m_83 : (1 + d, 3) ∈ RL := hm_75 3 (by omega)
      have c_84 : E1 (1 + d) 4 = .inr (8, [.ref (ad (1 + d) 8), .int (nI k3_75)]) := q4_75
      have m_85 : (1 + d, 4) ∈ RL := hm_75 4 (by omega)
      have c_86 : E1 (1 + d) 5 = .inl (kA 0, 6, .inl f0_75) := q5_75
      have m_87 : (1 + d, 5) ∈ RL := hm_75 5 (by omega)
      have c_88 : E1 (1 + d) 6 = .inl (kA 0, 5, .inl f1_75) := q6_75
      have m_89 : (1 + d, 6) ∈ RL := hm_75 6 (by omega)
      have c_90 : E1 (1 + d) 7 = .inl (kA 0, 3, .inl f2_75) := q7_75
      have m_91 : (1 + d, 7) ∈ RL := hm_75 7 (by omega)
      have c_92 : E1 (1 + d) 8 = .inl (kA 0, 3, .inl f3_75) := q8_75
      have m_93 : (1 + d, 8) ∈ RL := hm_75 8 (by omega)
      have c_94 : E1 (1 + d) 9 = .inl (kA 8, 6, .inr (.inr (.inr (.inr fe_75)))) := q9_75
      have m_95 : (1 + d, 9) ∈ RL := hm_75 9 (by omega)
      have c_96 : E1 (1 + d) 10 = .inl (kA 8, 6, .inr (.inr (.inr (.inr fo_75)))) := q10_75
      have m_97 : (1 + d, 10) ∈ RL := hm_75 10 (by omega)
      have c_98 : E1 (1 + d) 11 = .inl (kA 2, 5, .inl tr_75) := q11_75
      have m_99 : (1 + d, 11) ∈ RL := hm_75 11 (by omega)
      have c_100 : E1 (1 + d) 12 = .inl (kA 2, 5, .inl op_75) := q12_75
      have m_101 : (1 + d, 12) ∈ RL := hm_75 12 (by omega)
      have hg_75 : ∀ w9, w9 < k0_75 → fe_75 w9 = some (ad (1 + d) (20 + 3 * w9)) ∧ fo_75 w9 = some (ad (1 + d) (38 + 3 * w9)) ∧ GI kA (ad (1 + d)) (E1 (1 + d)) (fun o => (1 + d, o) ∈ RL) (20 + 3 * w9) (21 + 3 * w9) (22 + 3 * w9) ∧ GI kA (ad (1 + d)) (E1 (1 + d)) (fun o => (1 + d, o) ∈ RL) (38 + 3 * w9) (39 + 3 * w9) (40 + 3 * w9) := hg_75
      obtain ⟨hTT_75, tgr_75⟩ := TD_get hk0_75 hk1_75 hk2_75 hk3_75 c_76 c_78 c_80 c_82 c_84 c_86 c_88 c_90 c_92 c_98 c_100 (hTD1 d (by omega))
      obtain ⟨tfd_75, tnm_75, tsd_75, tk0_75, tf0_75, tk1_75, tf1_75, tk2_75, tk3_75⟩ := id hTT_75
      have ik0_75 : iN (g 5 d) = k0_75 := by rw [← tk0_75, iN_nI (by omega)]
      have ik1_75 : iN (g 12 d) = k1_75 := by rw [← tk1_75, iN_nI (by omega)]
      refine lv_aload_n hx hb xd_Me_settleReading_11 rfl (lv_at hl 1 rfl) ?_
      refine px_get (D := D) (ci := 6) (v := .ref (ad (20 + n) (11 + 10 * k))) (C := xR_Me) (T := xT_Me) (N := 6) hx hb hT xi_Me hown hK.1 hP ym0 c_2 rfl 2 (by decide) (hT _ k5u_0) (fun _ h9 => h9) rfl xd_Me_settleReading_12 ?_
      refine lv_iload_n hx hb xd_Me_settleReading_15 rfl (lv_at hl 0 rfl) ?_
      refine px_aald (i := i) (x := (some (ad (20 + n) (10 + 10 * k)))) hx hb hK.1 hP ym1 c_3 6 rfl (hq) (by omega) (by omega) xd_Me_settleReading_16 ?_
      refine lv_ifnull hx hb xd_Me_settleReading_17 ?_
      refine lv_aload_n hx hb xd_Me_settleReading_20 rfl (lv_at hl 1 rfl) ?_
      refine px_get (D := D) (ci := 6) (v := .ref (ad (20 + n) (14 + 10 * k))) (C := xR_Me) (T := xT_Me) (N := 6) hx hb hT xi_Me hown hK.1 hP ym0 c_2 rfl 5 (by decide) (hT _ k5u_1) (fun _ h9 => h9) rfl xd_Me_settleReading_21 ?_
      refine lv_aload_n hx hb xd_Me_settleReading_24 rfl (lv_at hl 1 rfl) ?_
      refine px_get (D := D) (ci := 6) (v := .ref (ad (20 + n) (11 + 10 * k))) (C := xR_Me) (T := xT_Me) (N := 6) hx hb hT xi_Me hown hK.1 hP ym0 c_2 rfl 2 (by decide) (hT _ k5u_0) (fun _ h9 => h9) rfl xd_Me_settleReading_25 ?_
      refine lv_iload_n hx hb xd_Me_settleReading_28 rfl (lv_at hl 0 rfl) ?_
      refine px_aald (i := i) (x := (some (ad (20 + n) (10 + 10 * k)))) hx hb hK.1 hP ym1 c_3 6 rfl (hq) (by omega) (by omega) xd_Me_settleReading_29 ?_
      have hFc := px_free hD hS hA
      refine va_callv (va_runV (As := [.ref (ad (20 + n) (10 + 10 * k))]) (rest := []) ⟨hx, hb, hml, hown, hT⟩ (xc_Re_mark l D kA H.size ad E1 RL (20 + n) (14 + 10 * k) (17 + 10 * k) gc1 n k d (lyv ad lq_69) op_69 fd_75 nm_75 sd_75 ym3 c_5 ym4 hcA7 ym0 c_2 m_71 c_74 m_77 c_76 (by first | assumption | omega) (by first | assumption | omega) (by first | assumption | omega)) (cwV 1 hT (wT_V k5u_8 k5u_9 k5u_10 k5u_6 k5u_7) rfl rfl rfl (by decide +kernel) ⟨Nat.le_of_ble_eq_true rfl, Nat.le_of_ble_eq_true rfl⟩) (px_preV hK hP hD ym3 c_5 rfl) rfl rfl hl.1 rfl (lv_room (Nat.le_of_ble_eq_true rfl)) xd_Me_settleReading_30 ⟨(Nat.le_of_ble_eq_true rfl), (Nat.le_of_ble_eq_true rfl)⟩) hS (fun q _ h => hFc q h) hFc (fun u103 t H1 locs ht hvm hp104 hB hz1 hk1 hS => ?_)
      obtain ⟨hP1, hD1⟩ := hB
      rw [ht] at hP1
      have hD1 := hD1.weaken (fun _ _ _ h => hFc _ h)
      generalize H1 = H at hP1 hS ⊢
      have hP := hP1
      have hD := hD1
      obtain ⟨E105, rfl⟩ : ∃ z, z = u103 := ⟨_, rfl⟩
      obtain ⟨w106, hp109, p_107, p_108⟩ := hp104
      have p_107 : E105 (20 + n) (17 + 10 * k) = .inl (kA 0, 6, .inl w106) := p_107
      have p_108 : (∀ b2 o2, ¬ (b2 = (20 + n) ∧ o2 = (17 + 10 * k)) → E105 b2 o2 = E1 b2 o2) := p_108
      have c_110 : E105 (20 + n) (10 + 10 * k) = .inr (6, [.ref (ad (20 + n) 0), .ref (ad (1 + d) 0), .ref (ad (20 + n) (11 + 10 * k)), .ref (ad (20 + n) (12 + 10 * k)), .ref (ad (20 + n) (13 + 10 * k)), .ref (ad (20 + n) (14 + 10 * k))]) := (p_108 (20 + n) (10 + 10 * k) (by omega)).trans c_2
      have c_111 : E105 (20 + n) (11 + 10 * k) = .inl (kA 6, rs, .inr (.inr (.inr (.inr fr)))) := (p_108 (20 + n) (11 + 10 * k) (by omega)).trans c_3
      have c_112 : E105 (20 + n) (13 + 10 * k) = .inr (10, [.ref (ad (20 + n) (16 + 10 * k))]) := (p_108 (20 + n) (13 + 10 * k) (by omega)).trans c_4
      have c_113 : E105 (20 + n) (14 + 10 * k) = .inr (10, [.ref (ad (20 + n) (17 + 10 * k))]) := (p_108 (20 + n) (14 + 10 * k) (by omega)).trans c_5
      have c_114 : E105 (20 + n) (16 + 10 * k) = .inl (kA 0, 6, .inl gb) := (p_108 (20 + n) (16 + 10 * k) (by omega)).trans c_6
      have c_115 : E105 (20 + n) 0 = .inr (5, [.int (nI n), (lyv ad lq_69), .ref (ad (20 + n) 1), .int op_69]) := (p_108 (20 + n) 0 (by omega)).trans c_74
      have c_116 : E105 (1 + d) 0 = .inr (7, [.int (nI d), .int fd_75, .int nm_75, .ref (ad (1 + d) 1), .ref (ad (1 + d) 9), .ref (ad (1 + d) 10), .ref (ad (1 + d) 2), .ref (ad (1 + d) 11), .ref (ad (1 + d) 12), .ref (ad (1 + d) 3), .ref (ad (1 + d) 4), .int sd_75]) := (p_108 (1 + d) 0 (by omega)).trans c_76
      have hP : va_P D xcl (rp ad E105 RL) H := hP
      have hD : va_D A (rp ad E105 RL) := hD
      have hRm : ∀ t, BS w106 t ↔ (BS gc1 t ∨ t = 12 * n + d) := fun t => by rw [hp109]; exact BS_mark (by omega)
      refine lv_aload_n hx hb xd_Me_settleReading_33 rfl (lv_at hl 1 rfl) ?_
      refine px_get (D := D) (ci := 6) (v := .ref (ad (20 + n) (14 + 10 * k))) (C := xR_Me) (T := xT_Me) (N := 6) hx hb hT xi_Me hown hK.1 hP ym0 c_110 rfl 5 (by decide) (hT _ k5u_1) (fun _ h9 => h9) rfl xd_Me_settleReading_34 ?_
      refine lv_aload_n hx hb xd_Me_settleReading_37 rfl (lv_at hl 1 rfl) ?_
      refine px_get (D := D) (ci := 6) (v := .ref (ad (20 + n) (11 + 10 * k))) (C := xR_Me) (T := xT_Me) (N := 6) hx hb hT xi_Me hown hK.1 hP ym0 c_110 rfl 2 (by decide) (hT _ k5u_0) (fun _ h9 => h9) rfl xd_Me_settleReading_38 ?_
      refine lv_iload_n hx hb xd_Me_settleReading_41 rfl (lv_at hl 0 rfl) ?_
      refine px_aald (i := i) (x := (some (ad (20 + n) (10 + 10 * k)))) hx hb hK.1 hP ym1 c_111 6 rfl (hq) (by omega) (by omega) xd_Me_settleReading_42 ?_
      refine px_get (D := D) (ci := 6) (v := .ref (ad (20 + n) (13 + 10 * k))) (C := xR_Me) (T := xT_Me) (N := 6) hx hb hT xi_Me hown hK.1 hP ym0 c_110 rfl 4 (by decide) (hT _ k5u_11) (fun _ h9 => h9) rfl xd_Me_settleReading_43 ?_
      have hFc := px_free hD hS hA
      refine va_callv (va_runV (As := [.ref (ad (20 + n) (13 + 10 * k))]) (rest := []) ⟨hx, hb, hml, hown, hT⟩ (xc_Re_joinX l D kA H.size ad E105 RL (20 + n) (14 + 10 * k) (17 + 10 * k) w106 (20 + n) (13 + 10 * k) (16 + 10 * k) gb ym3 c_113 ym4 p_107 ym2 c_112 ym5 c_114 (by first | assumption | omega) (by first | assumption | omega)) (cwV 1 hT (wT_V k5u_13 k5u_14 k5u_15 k5u_6 k5u_12) rfl rfl rfl (by decide +kernel) ⟨Nat.le_of_ble_eq_true rfl, Nat.le_of_ble_eq_true rfl⟩) (px_preV hK hP hD ym3 c_113 rfl) rfl rfl hl.1 rfl (lv_room (Nat.le_of_ble_eq_true rfl)) xd_Me_settleReading_46 ⟨(Nat.le_of_ble_eq_true rfl), (Nat.le_of_ble_eq_true rfl)⟩) hS (fun q _ h => hFc q h) hFc (fun u118 t H1 locs ht hvm hp119 hB hz1 hk1 hS => ?_)
      obtain ⟨hP1, hD1⟩ := hB
      rw [ht] at hP1
      have hD1 := hD1.weaken (fun _ _ _ h => hFc _ h)
      generalize H1 = H at hP1 hS ⊢
      have hP := hP1
      have hD := hD1
      obtain ⟨E120, rfl⟩ : ∃ z, z = u118 := ⟨_, rfl⟩
      obtain ⟨w121, hp124, p_122, p_123⟩ := hp119
      have p_122 : E120 (20 + n) (17 + 10 * k) = .inl (kA 0, 6, .inl w121) := p_122
      have p_123 : (∀ b2 o2, ¬ (b2 = (20 + n) ∧ o2 = (17 + 10 * k)) → E120 b2 o2 = E105 b2 o2) := p_123
      have c_125 : E120 (20 + n) (10 + 10 * k) = .inr (6, [.ref (ad (20 + n) 0), .ref (ad (1 + d) 0), .ref (ad (20 + n) (11 + 10 * k)), .ref (ad (20 + n) (12 + 10 * k)), .ref (ad (20 + n) (13 + 10 * k)), .ref (ad (20 + n) (14 + 10 * k))]) := (p_123 (20 + n) (10 + 10 * k) (by omega)).trans c_110
      have c_126 : E120 (20 + n) (11 + 10 * k) = .inl (kA 6, rs, .inr (.inr (.inr (.inr fr)))) := (p_123 (20 + n) (11 + 10 * k) (by omega)).trans c_111
      have c_127 : E120 (20 + n) (13 + 10 * k) = .inr (10, [.ref (ad (20 + n) (16 + 10 * k))]) := (p_123 (20 + n) (13 + 10 * k) (by omega)).trans c_112
      have c_128 : E120 (20 + n) (14 + 10 * k) = .inr (10, [.ref (ad (20 + n) (17 + 10 * k))]) := (p_123 (20 + n) (14 + 10 * k) (by omega)).trans c_113
      have c_129 : E120 (20 + n) (16 + 10 * k) = .inl (kA 0, 6, .inl gb) := (p_123 (20 + n) (16 + 10 * k) (by omega)).trans c_114
      have c_130 : E120 (20 + n) 0 = .inr (5, [.int (nI n), (lyv ad lq_69), .ref (ad (20 + n) 1), .int op_69]) := (p_123 (20 + n) 0 (by omega)).trans c_115
      have c_131 : E120 (1 + d) 0 = .inr (7, [.int (nI d), .int fd_75, .int nm_75, .ref (ad (1 + d) 1), .ref (ad (1 + d) 9), .ref (ad (1 + d) 10), .ref (ad (1 + d) 2), .ref (ad (1 + d) 11), .ref (ad (1 + d) 12), .ref (ad (1 + d) 3), .ref (ad (1 + d) 4), .int sd_75]) := (p_123 (1 + d) 0 (by omega)).trans c_116
      have hP : va_P D xcl (rp ad E120 RL) H := hP
      have hD : va_D A (rp ad E120 RL) := hD
      have hRj : ∀ t, t < 72 → (BS w121 t ↔ ((BS gc1 t ∨ t = 12 * n + d) ∨ tc (pst g) (12 * n + d) t)) := fun t ht => by
        rw [BS_join ht hp124, hRm t]
        have q := hCB n (by omega) k hkm t ht
        rw [hdk, show eA (E (20 + n) (16 + 10 * k)) = gb from by rw [yc5]; rfl] at q
        rw [← q]
      refine lv_iinc (k := 0) (x := (nI i)) (v := (nI (i + 1))) hx hb xd_Me_settleReading_49 hl rfl (xb_inc i 1) (Nat.le_of_ble_eq_true rfl) rfl (fun ls hl => ?_)
      have hl : lv_has ls 2 [(1, .int (nI (i + 1))), (0, .ref (ad (20 + n) (10 + 10 * k)))] := hl
      refine lv_goto (tgt := 2) hx hb xd_Me_settleReading_52 (by decide) ?_
      exact ih1 (i + 1, E120, w121) _ _ _ (show rs - (i + 1) < rs - i by omega) (lv_sub hl [0, 1] rfl) hP hD hS ⟨(show (i + 1) ≤ rs from by first | assumption | omega), (show E120 (20 + n) (17 + 10 * k) = .inl (kA 0, 6, .inl w121) from p_122), (show ∀ b2 o2, ¬ (b2 = 20 + n ∧ o2 = 17 + 10 * k) → E120 b2 o2 = E b2 o2 from fun b2 o2 h09 => by rw [p_123 b2 o2 (by omega), p_108 b2 o2 (by omega), hfr b2 o2 (by omega)]), (show ∀ t, t < 72 → (BS w121 t ↔ (BS gc t ∨ RDp g n d (i + 1) t)) from fun t ht => by rw [hRj t ht, hR9 t ht, RDp_y hlk9, or_assoc, or_assoc])⟩
    · have hM9 := MEI_RU hRU hM9
      obtain ⟨m0_132, m1_132, pv_132, op_132, mk_132, fm_132, hmk_132, hpv_132, q0_132, q1_132, hk_132⟩ := id (hLIs x9 (by omega))
      have c_133 : E1 (20 + x9) 0 = .inr (5, [.int (nI x9), pv_132, .ref (ad (20 + x9) 1), .int op_132]) := q0_132
      have m_134 : (20 + x9, 0) ∈ RL := m0_132
      have c_135 : E1 (20 + x9) 1 = .inl (kA 6, mk_132, .inr (.inr (.inr (.inr fm_132)))) := q1_132
      have m_136 : (20 + x9, 1) ∈ RL := m1_132
      obtain ⟨top_132, ⟨lq_132, hlq_132, h19_132, hpv2_132⟩, h20_132, tmd_132⟩ := TLa_get c_133 c_135 (hTL1 x9 (by omega))
      have c_137 : E1 (20 + x9) 0 = .inr (5, [.int (nI x9), (lyv ad lq_132), .ref (ad (20 + x9) 1), .int op_132]) := by rw [← hpv2_132]; exact c_133
      have i20_132 : iN (g 20 x9) = mk_132 := by rw [h20_132, iN_nI (by omega)]
      have hkk9 : k9 < mk_132 := by have q := hkm9; rw [i20_132] at q; exact q
      obtain ⟨hm_138, d_138, rs_138, fr_138, g2_138, g3_138, g4_138, hd_138, hrs_138, q0_138, q1_138, q2_138, q3_138, q4_138, q5_138, q6_138, q7_138⟩ := id hM9
      have c_139 : E1 (20 + x9) (10 + 10 * k9) = .inr (6, [.ref (ad (20 + x9) 0), .ref (ad (1 + d_138) 0), .ref (ad (20 + x9) (11 + 10 * k9)), .ref (ad (20 + x9) (12 + 10 * k9)), .ref (ad (20 + x9) (13 + 10 * k9)), .ref (ad (20 + x9) (14 + 10 * k9))]) := q0_138
      have m_140 : (20 + x9, 10 + 10 * k9) ∈ RL := hm_138 0 (by omega)
      have c_141 : E1 (20 + x9) (11 + 10 * k9) = .inl (kA 6, rs_138, .inr (.inr (.inr (.inr fr_138)))) := q1_138
      have m_142 : (20 + x9, 11 + 10 * k9) ∈ RL := hm_138 1 (by omega)
      have c_143 : E1 (20 + x9) (12 + 10 * k9) = .inr (10, [.ref (ad (20 + x9) (15 + 10 * k9))]) := q2_138
      have m_144 : (20 + x9, 12 + 10 * k9) ∈ RL := hm_138 2 (by omega)
      have c_145 : E1 (20 + x9) (13 + 10 * k9) = .inr (10, [.ref (ad (20 + x9) (16 + 10 * k9))]) := q3_138
      have m_146 : (20 + x9, 13 + 10 * k9) ∈ RL := hm_138 3 (by omega)
      have c_147 : E1 (20 + x9) (14 + 10 * k9) = .inr (10, [.ref (ad (20 + x9) (17 + 10 * k9))]) := q4_138
      have m_148 : (20 + x9, 14 + 10 * k9) ∈ RL := hm_138 4 (by omega)
      have c_149 : E1 (20 + x9) (15 + 10 * k9) = .inl (kA 0, 6, .inl g2_138) := q5_138
      have m_150 : (20 + x9, 15 + 10 * k9) ∈ RL := hm_138 5 (by omega)
      have c_151 : E1 (20 + x9) (16 + 10 * k9) = .inl (kA 0, 6, .inl g3_138) := q6_138
      have m_152 : (20 + x9, 16 + 10 * k9) ∈ RL := hm_138 6 (by omega)
      have c_153 : E1 (20 + x9) (17 + 10 * k9) = .inl (kA 0, 6, .inl g4_138) := q7_138
      have m_154 : (20 + x9, 17 + 10 * k9) ∈ RL := hm_138 7 (by omega)
      have hdm_138 : mdv g x9 k9 = d_138 := by
        obtain ⟨dz, hdz, h21z, hvz⟩ := tmd_132 k9 (by omega)
        rw [c_139] at hvz
        have ez := (rp_inj hD ((hDIs d_138 hd_138).1 0 (by omega)) ((hDIs dz hdz).1 0 (by omega)) (Value.ref.inj hvz)).1
        unfold mdv
        rw [h21z, iN_nI (by omega)]; omega
      obtain ⟨hm_155, fd_155, nm_155, sd_155, k0_155, k1_155, k2_155, k3_155, f0_155, f1_155, f2_155, f3_155, fe_155, fo_155, tr_155, op_155, hk0_155, hk1_155, hk2_155, hk3_155, q0_155, q1_155, q2_155, q3_155, q4_155, q5_155, q6_155, q7_155, q8_155, q9_155, q10_155, q11_155, q12_155, hg_155⟩ := id (hDIs d_138 (by omega))
      have c_156 : E1 (1 + d_138) 0 = .inr (7, [.int (nI d_138), .int fd_155, .int nm_155, .ref (ad (1 + d_138) 1), .ref (ad (1 + d_138) 9), .ref (ad (1 + d_138) 10), .ref (ad (1 + d_138) 2), .ref (ad (1 + d_138) 11), .ref (ad (1 + d_138) 12), .ref (ad (1 + d_138) 3), .ref (ad (1 + d_138) 4), .int sd_155]) := q0_155
      have m_157 : (1 + d_138, 0) ∈ RL := hm_155 0 (by omega)
      have c_158 : E1 (1 + d_138) 1 = .inr (8, [.ref (ad (1 + d_138) 5), .int (nI k0_155)]) := q1_155
      have m_159 : (1 + d_138, 1) ∈ RL := hm_155 1 (by omega)
      have c_160 : E1 (1 + d_138) 2 = .inr (8, [.ref (ad (1 + d_138) 6), .int (nI k1_155)]) := q2_155
      have m_161 : (1 + d_138, 2) ∈ RL := hm_155 2 (by omega)
      have c_162 : E1 (1 + d_138) 3 = .inr (8, [.ref (ad (1 + d_138) 7), .int (nI k2_155)]) := q3_155
      have m_163 : (1 + d_138, 3) ∈ RL := hm_155 3 (by omega)
      have c_164 : E1 (1 + d_138) 4 = .inr (8, [.ref (ad (1 + d_138) 8), .int (nI k3_155)]) := q4_155
      have m_165 : (1 + d_138, 4) ∈ RL := hm_155 4 (by omega)
      have c_166 : E1 (1 + d_138) 5 = .inl (kA 0, 6, .inl f0_155) := q5_155
      have m_167 : (1 + d_138, 5) ∈ RL := hm_155 5 (by omega)
      have c_168 : E1 (1 + d_138) 6 = .inl (kA 0, 5, .inl f1_155) := q6_155
      have m_169 : (1 + d_138, 6) ∈ RL := hm_155 6 (by omega)
      have c_170 : E1 (1 + d_138) 7 = .inl (kA 0, 3, .inl f2_155) := q7_155
      have m_171 : (1 + d_138, 7) ∈ RL := hm_155 7 (by omega)
      have c_172 : E1 (1 + d_138) 8 = .inl (kA 0, 3, .inl f3_155) := q8_155
      have m_173 : (1 + d_138, 8) ∈ RL := hm_155 8 (by omega)
      have c_174 : E1 (1 + d_138) 9 = .inl (kA 8, 6, .inr (.inr (.inr (.inr fe_155)))) := q9_155
      have m_175 : (1 + d_138, 9) ∈ RL := hm_155 9 (by omega)
      have c_176 : E1 (1 + d_138) 10 = .inl (kA 8, 6, .inr (.inr (.inr (.inr fo_155)))) := q10_155
      have m_177 : (1 + d_138, 10) ∈ RL := hm_155 10 (by omega)
      have c_178 : E1 (1 + d_138) 11 = .inl (kA 2, 5, .inl tr_155) := q11_155
      have m_179 : (1 + d_138, 11) ∈ RL := hm_155 11 (by omega)
      have c_180 : E1 (1 + d_138) 12 = .inl (kA 2, 5, .inl op_155) := q12_155
      have m_181 : (1 + d_138, 12) ∈ RL := hm_155 12 (by omega)
      have hg_155 : ∀ w9, w9 < k0_155 → fe_155 w9 = some (ad (1 + d_138) (20 + 3 * w9)) ∧ fo_155 w9 = some (ad (1 + d_138) (38 + 3 * w9)) ∧ GI kA (ad (1 + d_138)) (E1 (1 + d_138)) (fun o => (1 + d_138, o) ∈ RL) (20 + 3 * w9) (21 + 3 * w9) (22 + 3 * w9) ∧ GI kA (ad (1 + d_138)) (E1 (1 + d_138)) (fun o => (1 + d_138, o) ∈ RL) (38 + 3 * w9) (39 + 3 * w9) (40 + 3 * w9) := hg_155
      obtain ⟨hTT_155, tgr_155⟩ := TD_get hk0_155 hk1_155 hk2_155 hk3_155 c_156 c_158 c_160 c_162 c_164 c_166 c_168 c_170 c_172 c_178 c_180 (hTD1 d_138 (by omega))
      obtain ⟨tfd_155, tnm_155, tsd_155, tk0_155, tf0_155, tk1_155, tf1_155, tk2_155, tk3_155⟩ := id hTT_155
      have ik0_155 : iN (g 5 d_138) = k0_155 := by rw [← tk0_155, iN_nI (by omega)]
      have ik1_155 : iN (g 12 d_138) = k1_155 := by rw [← tk1_155, iN_nI (by omega)]
      have hlk9 : lkG g (n + 1) (g 13 (5 * d + i)) = some (x9, d_138) := by rw [hdm_138] at hlk8; exact hlk8
      have hoc9 : eA (E1 (20 + x9) (16 + 10 * k9)) = g3_138 := by rw [c_151]; rfl
      refine lv_aload_n hx hb xd_Me_settleReading_11 rfl (lv_at hl 1 rfl) ?_
      refine px_get (D := D) (ci := 6) (v := .ref (ad (20 + n) (11 + 10 * k))) (C := xR_Me) (T := xT_Me) (N := 6) hx hb hT xi_Me hown hK.1 hP ym0 c_2 rfl 2 (by decide) (hT _ k5u_0) (fun _ h9 => h9) rfl xd_Me_settleReading_12 ?_
      refine lv_iload_n hx hb xd_Me_settleReading_15 rfl (lv_at hl 0 rfl) ?_
      refine px_aald (i := i) (x := (some (ad (20 + x9) (10 + 10 * k9)))) hx hb hK.1 hP ym1 c_3 6 rfl (hq) (by omega) (by omega) xd_Me_settleReading_16 ?_
      refine lv_ifnull hx hb xd_Me_settleReading_17 ?_
      refine lv_aload_n hx hb xd_Me_settleReading_20 rfl (lv_at hl 1 rfl) ?_
      refine px_get (D := D) (ci := 6) (v := .ref (ad (20 + n) (14 + 10 * k))) (C := xR_Me) (T := xT_Me) (N := 6) hx hb hT xi_Me hown hK.1 hP ym0 c_2 rfl 5 (by decide) (hT _ k5u_1) (fun _ h9 => h9) rfl xd_Me_settleReading_21 ?_
      refine lv_aload_n hx hb xd_Me_settleReading_24 rfl (lv_at hl 1 rfl) ?_
      refine px_get (D := D) (ci := 6) (v := .ref (ad (20 + n) (11 + 10 * k))) (C := xR_Me) (T := xT_Me) (N := 6) hx hb hT xi_Me hown hK.1 hP ym0 c_2 rfl 2 (by decide) (hT _ k5u_0) (fun _ h9 => h9) rfl xd_Me_settleReading_25 ?_
      refine lv_iload_n hx hb xd_Me_settleReading_28 rfl (lv_at hl 0 rfl) ?_
      refine px_aald (i := i) (x := (some (ad (20 + x9) (10 + 10 * k9)))) hx hb hK.1 hP ym1 c_3 6 rfl (hq) (by omega) (by omega) xd_Me_settleReading_29 ?_
      have hFc := px_free hD hS hA
      refine va_callv (va_runV (As := [.ref (ad (20 + x9) (10 + 10 * k9))]) (rest := []) ⟨hx, hb, hml, hown, hT⟩ (xc_Re_mark l D kA H.size ad E1 RL (20 + n) (14 + 10 * k) (17 + 10 * k) gc1 x9 k9 d_138 (lyv ad lq_132) op_132 fd_155 nm_155 sd_155 ym3 c_5 ym4 hcA7 m_140 c_139 m_134 c_137 m_157 c_156 (by first | assumption | omega) (by first | assumption | omega) (by first | assumption | omega)) (cwV 1 hT (wT_V k5u_8 k5u_9 k5u_10 k5u_6 k5u_7) rfl rfl rfl (by decide +kernel) ⟨Nat.le_of_ble_eq_true rfl, Nat.le_of_ble_eq_true rfl⟩) (px_preV hK hP hD ym3 c_5 rfl) rfl rfl hl.1 rfl (lv_room (Nat.le_of_ble_eq_true rfl)) xd_Me_settleReading_30 ⟨(Nat.le_of_ble_eq_true rfl), (Nat.le_of_ble_eq_true rfl)⟩) hS (fun q _ h => hFc q h) hFc (fun u183 t H1 locs ht hvm hp184 hB hz1 hk1 hS => ?_)
      obtain ⟨hP1, hD1⟩ := hB
      rw [ht] at hP1
      have hD1 := hD1.weaken (fun _ _ _ h => hFc _ h)
      generalize H1 = H at hP1 hS ⊢
      have hP := hP1
      have hD := hD1
      obtain ⟨E185, rfl⟩ : ∃ z, z = u183 := ⟨_, rfl⟩
      obtain ⟨w186, hp189, p_187, p_188⟩ := hp184
      have p_187 : E185 (20 + n) (17 + 10 * k) = .inl (kA 0, 6, .inl w186) := p_187
      have p_188 : (∀ b2 o2, ¬ (b2 = (20 + n) ∧ o2 = (17 + 10 * k)) → E185 b2 o2 = E1 b2 o2) := p_188
      have c_190 : E185 (20 + n) (10 + 10 * k) = .inr (6, [.ref (ad (20 + n) 0), .ref (ad (1 + d) 0), .ref (ad (20 + n) (11 + 10 * k)), .ref (ad (20 + n) (12 + 10 * k)), .ref (ad (20 + n) (13 + 10 * k)), .ref (ad (20 + n) (14 + 10 * k))]) := (p_188 (20 + n) (10 + 10 * k) (by omega)).trans c_2
      have c_191 : E185 (20 + n) (11 + 10 * k) = .inl (kA 6, rs, .inr (.inr (.inr (.inr fr)))) := (p_188 (20 + n) (11 + 10 * k) (by omega)).trans c_3
      have c_192 : E185 (20 + n) (13 + 10 * k) = .inr (10, [.ref (ad (20 + n) (16 + 10 * k))]) := (p_188 (20 + n) (13 + 10 * k) (by omega)).trans c_4
      have c_193 : E185 (20 + n) (14 + 10 * k) = .inr (10, [.ref (ad (20 + n) (17 + 10 * k))]) := (p_188 (20 + n) (14 + 10 * k) (by omega)).trans c_5
      have c_194 : E185 (20 + n) (16 + 10 * k) = .inl (kA 0, 6, .inl gb) := (p_188 (20 + n) (16 + 10 * k) (by omega)).trans c_6
      have c_195 : E185 (20 + x9) 0 = .inr (5, [.int (nI x9), (lyv ad lq_132), .ref (ad (20 + x9) 1), .int op_132]) := (p_188 (20 + x9) 0 (by omega)).trans c_137
      have c_196 : E185 (20 + x9) (10 + 10 * k9) = .inr (6, [.ref (ad (20 + x9) 0), .ref (ad (1 + d_138) 0), .ref (ad (20 + x9) (11 + 10 * k9)), .ref (ad (20 + x9) (12 + 10 * k9)), .ref (ad (20 + x9) (13 + 10 * k9)), .ref (ad (20 + x9) (14 + 10 * k9))]) := (p_188 (20 + x9) (10 + 10 * k9) (by omega)).trans c_139
      have c_197 : E185 (20 + x9) (13 + 10 * k9) = .inr (10, [.ref (ad (20 + x9) (16 + 10 * k9))]) := (p_188 (20 + x9) (13 + 10 * k9) (by omega)).trans c_145
      have c_198 : E185 (20 + x9) (16 + 10 * k9) = .inl (kA 0, 6, .inl g3_138) := (p_188 (20 + x9) (16 + 10 * k9) (by omega)).trans c_151
      have c_199 : E185 (1 + d_138) 0 = .inr (7, [.int (nI d_138), .int fd_155, .int nm_155, .ref (ad (1 + d_138) 1), .ref (ad (1 + d_138) 9), .ref (ad (1 + d_138) 10), .ref (ad (1 + d_138) 2), .ref (ad (1 + d_138) 11), .ref (ad (1 + d_138) 12), .ref (ad (1 + d_138) 3), .ref (ad (1 + d_138) 4), .int sd_155]) := (p_188 (1 + d_138) 0 (by omega)).trans c_156
      have hP : va_P D xcl (rp ad E185 RL) H := hP
      have hD : va_D A (rp ad E185 RL) := hD
      have hRm : ∀ t, BS w186 t ↔ (BS gc1 t ∨ t = 12 * x9 + d_138) := fun t => by rw [hp189]; exact BS_mark (by omega)
      refine lv_aload_n hx hb xd_Me_settleReading_33 rfl (lv_at hl 1 rfl) ?_
      refine px_get (D := D) (ci := 6) (v := .ref (ad (20 + n) (14 + 10 * k))) (C := xR_Me) (T := xT_Me) (N := 6) hx hb hT xi_Me hown hK.1 hP ym0 c_190 rfl 5 (by decide) (hT _ k5u_1) (fun _ h9 => h9) rfl xd_Me_settleReading_34 ?_
      refine lv_aload_n hx hb xd_Me_settleReading_37 rfl (lv_at hl 1 rfl) ?_
      refine px_get (D := D) (ci := 6) (v := .ref (ad (20 + n) (11 + 10 * k))) (C := xR_Me) (T := xT_Me) (N := 6) hx hb hT xi_Me hown hK.1 hP ym0 c_190 rfl 2 (by decide) (hT _ k5u_0) (fun _ h9 => h9) rfl xd_Me_settleReading_38 ?_
      refine lv_iload_n hx hb xd_Me_settleReading_41 rfl (lv_at hl 0 rfl) ?_
      refine px_aald (i := i) (x := (some (ad (20 + x9) (10 + 10 * k9)))) hx hb hK.1 hP ym1 c_191 6 rfl (hq) (by omega) (by omega) xd_Me_settleReading_42 ?_
      refine px_get (D := D) (ci := 6) (v := .ref (ad (20 + x9) (13 + 10 * k9))) (C := xR_Me) (T := xT_Me) (N := 6) hx hb hT xi_Me hown hK.1 hP m_140 c_196 rfl 4 (by decide) (hT _ k5u_11) (fun _ h9 => h9) rfl xd_Me_settleReading_43 ?_
      have hFc := px_free hD hS hA
      refine va_callv (va_runV (As := [.ref (ad (20 + x9) (13 + 10 * k9))]) (rest := []) ⟨hx, hb, hml, hown, hT⟩ (xc_Re_joinX l D kA H.size ad E185 RL (20 + n) (14 + 10 * k) (17 + 10 * k) w186 (20 + x9) (13 + 10 * k9) (16 + 10 * k9) g3_138 ym3 c_193 ym4 p_187 m_146 c_197 m_152 c_198 (by first | assumption | omega) (by first | assumption | omega)) (cwV 1 hT (wT_V k5u_13 k5u_14 k5u_15 k5u_6 k5u_12) rfl rfl rfl (by decide +kernel) ⟨Nat.le_of_ble_eq_true rfl, Nat.le_of_ble_eq_true rfl⟩) (px_preV hK hP hD ym3 c_193 rfl) rfl rfl hl.1 rfl (lv_room (Nat.le_of_ble_eq_true rfl)) xd_Me_settleReading_46 ⟨(Nat.le_of_ble_eq_true rfl), (Nat.le_of_ble_eq_true rfl)⟩) hS (fun q _ h => hFc q h) hFc (fun u201 t H1 locs ht hvm hp202 hB hz1 hk1 hS => ?_)
      obtain ⟨hP1, hD1⟩ := hB
      rw [ht] at hP1
      have hD1 := hD1.weaken (fun _ _ _ h => hFc _ h)
      generalize H1 = H at hP1 hS ⊢
      have hP := hP1
      have hD := hD1
      obtain ⟨E203, rfl⟩ : ∃ z, z = u201 := ⟨_, rfl⟩
      obtain ⟨w204, hp207, p_205, p_206⟩ := hp202
      have p_205 : E203 (20 + n) (17 + 10 * k) = .inl (kA 0, 6, .inl w204) := p_205
      have p_206 : (∀ b2 o2, ¬ (b2 = (20 + n) ∧ o2 = (17 + 10 * k)) → E203 b2 o2 = E185 b2 o2) := p_206
      have c_208 : E203 (20 + n) (10 + 10 * k) = .inr (6, [.ref (ad (20 + n) 0), .ref (ad (1 + d) 0), .ref (ad (20 + n) (11 + 10 * k)), .ref (ad (20 + n) (12 + 10 * k)), .ref (ad (20 + n) (13 + 10 * k)), .ref (ad (20 + n) (14 + 10 * k))]) := (p_206 (20 + n) (10 + 10 * k) (by omega)).trans c_190
      have c_209 : E203 (20 + n) (11 + 10 * k) = .inl (kA 6, rs, .inr (.inr (.inr (.inr fr)))) := (p_206 (20 + n) (11 + 10 * k) (by omega)).trans c_191
      have c_210 : E203 (20 + n) (13 + 10 * k) = .inr (10, [.ref (ad (20 + n) (16 + 10 * k))]) := (p_206 (20 + n) (13 + 10 * k) (by omega)).trans c_192
      have c_211 : E203 (20 + n) (14 + 10 * k) = .inr (10, [.ref (ad (20 + n) (17 + 10 * k))]) := (p_206 (20 + n) (14 + 10 * k) (by omega)).trans c_193
      have c_212 : E203 (20 + n) (16 + 10 * k) = .inl (kA 0, 6, .inl gb) := (p_206 (20 + n) (16 + 10 * k) (by omega)).trans c_194
      have c_213 : E203 (20 + x9) 0 = .inr (5, [.int (nI x9), (lyv ad lq_132), .ref (ad (20 + x9) 1), .int op_132]) := (p_206 (20 + x9) 0 (by omega)).trans c_195
      have c_214 : E203 (20 + x9) (10 + 10 * k9) = .inr (6, [.ref (ad (20 + x9) 0), .ref (ad (1 + d_138) 0), .ref (ad (20 + x9) (11 + 10 * k9)), .ref (ad (20 + x9) (12 + 10 * k9)), .ref (ad (20 + x9) (13 + 10 * k9)), .ref (ad (20 + x9) (14 + 10 * k9))]) := (p_206 (20 + x9) (10 + 10 * k9) (by omega)).trans c_196
      have c_215 : E203 (20 + x9) (13 + 10 * k9) = .inr (10, [.ref (ad (20 + x9) (16 + 10 * k9))]) := (p_206 (20 + x9) (13 + 10 * k9) (by omega)).trans c_197
      have c_216 : E203 (20 + x9) (16 + 10 * k9) = .inl (kA 0, 6, .inl g3_138) := (p_206 (20 + x9) (16 + 10 * k9) (by omega)).trans c_198
      have c_217 : E203 (1 + d_138) 0 = .inr (7, [.int (nI d_138), .int fd_155, .int nm_155, .ref (ad (1 + d_138) 1), .ref (ad (1 + d_138) 9), .ref (ad (1 + d_138) 10), .ref (ad (1 + d_138) 2), .ref (ad (1 + d_138) 11), .ref (ad (1 + d_138) 12), .ref (ad (1 + d_138) 3), .ref (ad (1 + d_138) 4), .int sd_155]) := (p_206 (1 + d_138) 0 (by omega)).trans c_199
      have hP : va_P D xcl (rp ad E203 RL) H := hP
      have hD : va_D A (rp ad E203 RL) := hD
      have hRj : ∀ t, t < 72 → (BS w204 t ↔ ((BS gc1 t ∨ t = 12 * x9 + d_138) ∨ tc (pst g) (12 * x9 + d_138) t)) := fun t ht => by
        rw [BS_join ht hp207, hRm t]
        have q := hCB x9 (by omega) k9 hkm9 t ht
        rw [← hfr (20 + x9) (16 + 10 * k9) (by omega), hoc9, hdm_138] at q
        rw [← q]
      refine lv_iinc (k := 0) (x := (nI i)) (v := (nI (i + 1))) hx hb xd_Me_settleReading_49 hl rfl (xb_inc i 1) (Nat.le_of_ble_eq_true rfl) rfl (fun ls hl => ?_)
      have hl : lv_has ls 2 [(1, .int (nI (i + 1))), (0, .ref (ad (20 + n) (10 + 10 * k)))] := hl
      refine lv_goto (tgt := 2) hx hb xd_Me_settleReading_52 (by decide) ?_
      exact ih1 (i + 1, E203, w204) _ _ _ (show rs - (i + 1) < rs - i by omega) (lv_sub hl [0, 1] rfl) hP hD hS ⟨(show (i + 1) ≤ rs from by first | assumption | omega), (show E203 (20 + n) (17 + 10 * k) = .inl (kA 0, 6, .inl w204) from p_205), (show ∀ b2 o2, ¬ (b2 = 20 + n ∧ o2 = 17 + 10 * k) → E203 b2 o2 = E b2 o2 from fun b2 o2 h09 => by rw [p_206 b2 o2 (by omega), p_188 b2 o2 (by omega), hfr b2 o2 (by omega)]), (show ∀ t, t < 72 → (BS w204 t ↔ (BS gc t ∨ RDp g n d (i + 1) t)) from fun t ht => by rw [hRj t ht, hR9 t ht, RDp_y hlk9, or_assoc, or_assoc])⟩
theorem nI_iN_of {x : Int32} {k : Nat} (h : nI k = x) (hk : k < 2147483648) : x = nI (iN x) := by rw [← h, iN_nI hk]
def CN1 (g : gT) (E : Nat → Nat → va_E) (n j : Nat) : Prop := ∀ t, t < 72 → (BS (eA (E (20 + n) (15 + 10 * j))) t ↔ LSr g n j t) ∧ (BS (eA (E (20 + n) (16 + 10 * j))) t ↔ CSr g n j t)
def CN0 (g : gT) (E : Nat → Nat → va_E) (n j : Nat) : Prop := eL (E (20 + n) (11 + 10 * j)) = iN (g 12 (mdv g n j)) ∧ ∀ t, t < 72 → ¬ BS (eA (E (20 + n) (15 + 10 * j))) t ∧ ¬ BS (eA (E (20 + n) (16 + 10 * j))) t
def CN7 (E : Nat → Nat → va_E) (n j : Nat) : Prop := ∀ t, t < 72 → ¬ BS (eA (E (20 + n) (17 + 10 * j))) t
def CNd (g : gT) (kA : Nat → ClassId) (ad : Nat → Nat → Nat) (E : Nat → Nat → va_E) (RL : List (Nat × Nat)) (nd n j : Nat) : Prop := ∃ fr, E (20 + n) (11 + 10 * j) = .inl (kA 6, iN (g 12 (mdv g n j)), .inr (.inr (.inr (.inr fr)))) ∧ RQX g kA ad E RL nd n (mdv g n j) (iN (g 12 (mdv g n j))) fr
theorem CN1_fr {g : gT} {E E' : Nat → Nat → va_E} {n j : Nat} (h5 : E' (20 + n) (15 + 10 * j) = E (20 + n) (15 + 10 * j)) (h6 : E' (20 + n) (16 + 10 * j) = E (20 + n) (16 + 10 * j)) (h : CN1 g E n j) : CN1 g E' n j := fun t ht => by rw [h5, h6]; exact h t ht
theorem CN0_fr {g : gT} {E E' : Nat → Nat → va_E} {n j : Nat} (h1 : E' (20 + n) (11 + 10 * j) = E (20 + n) (11 + 10 * j)) (h5 : E' (20 + n) (15 + 10 * j) = E (20 + n) (15 + 10 * j)) (h6 : E' (20 + n) (16 + 10 * j) = E (20 + n) (16 + 10 * j)) (h : CN0 g E n j) : CN0 g E' n j := by
  unfold CN0
  rw [h1, h5, h6]; exact h
theorem CN7_fr {E E' : Nat → Nat → va_E} {n j : Nat} (h7 : E' (20 + n) (17 + 10 * j) = E (20 + n) (17 + 10 * j)) (h : CN7 E n j) : CN7 E' n j := fun t ht => by rw [h7]; exact h t ht
theorem CNd_RU {g : gT} {kA : Nat → ClassId} {ad : Nat → Nat → Nat} {E E' : Nat → Nat → va_E} {RL : List (Nat × Nat)} {nd n j : Nat} (hR : RU kA E E') (h1 : E' (20 + n) (11 + 10 * j) = E (20 + n) (11 + 10 * j)) (h : CNd g kA ad E RL nd n j) : CNd g kA ad E' RL nd n j := by
  obtain ⟨fr, q1, q2⟩ := h
  exact ⟨fr, h1.trans q1, RQX_RU hR q2⟩
theorem RQX_23 {g : gT} {kA : Nat → ClassId} {ad : Nat → Nat → Nat} {E E' : Nat → Nat → va_E} {RL : List (Nat × Nat)} {nd n x d m : Nat} {fr : Nat → Option Nat} (hR : R23 n E E') (h : RQX g kA ad E RL nd x d m fr) : RQX g kA ad E' RL nd x d m fr := fun j hj => by
  rcases h j hj with q | ⟨x, k, q1, q2, q3, q4⟩
  · exact Or.inl q
  · exact Or.inr ⟨x, k, q1, q2, MEI_23 hR (fun _ _ _ => rfl) (fun _ h => h) q3, q4⟩
theorem CNd_23 {g : gT} {kA : Nat → ClassId} {ad : Nat → Nat → Nat} {E E' : Nat → Nat → va_E} {RL : List (Nat × Nat)} {nd n j : Nat} (hR : R23 n E E') (h : CNd g kA ad E RL nd n j) : CNd g kA ad E' RL nd n j := by
  obtain ⟨fr, q1, q2⟩ := h
  exact ⟨fr, (hR _ _ (by omega)).trans q1, RQX_23 hR q2⟩
theorem CN1_23 {g : gT} {E E' : Nat → Nat → va_E} {n j : Nat} (hR : R23 n E E') (h : CN1 g E n j) : CN1 g E' n j := CN1_fr (hR _ _ (by omega)) (hR _ _ (by omega)) h
theorem CN0_23 {g : gT} {E E' : Nat → Nat → va_E} {n j : Nat} (hR : R23 n E E') (h : CN0 g E n j) : CN0 g E' n j := CN0_fr (hR _ _ (by omega)) (hR _ _ (by omega)) (hR _ _ (by omega)) h
theorem CN7_23 {E E' : Nat → Nat → va_E} {n j : Nat} (hR : R23 n E E') (h : CN7 E n j) : CN7 E' n j := CN7_fr (hR _ _ (by omega)) h
theorem TLas_23 {g : gT} {ad ad' : Nat → Nat → Nat} {E E' : Nat → Nat → va_E} {nd n nL : Nat} (hE : R23 n E E') (ha : R23 n ad ad') (h : TLas g ad E nd nL) (hnd : nd ≤ 12) : TLas g ad' E' nd nL := TLas_same (E := E') (ad := ad) (Nat.le_refl _) (fun _ _ => rfl) (fun d hd => ha _ _ (by omega)) (fun n9 _ => ha _ _ (by omega)) (TLas_ro (fun n9 o9 hn9 ho9 => hE _ _ (by rcases ho9 with q | q | ⟨k, q⟩ <;> omega)) h)
theorem CNd_cel {g : gT} {kA : Nat → ClassId} {ad : Nat → Nat → Nat} {E : Nat → Nat → va_E} {RL : List (Nat × Nat)} {nd n j d rs : Nat} {c : ClassId} {fr : Nat → Option Nat} (h : CNd g kA ad E RL nd n j) (hd : mdv g n j = d) (hc : E (20 + n) (11 + 10 * j) = .inl (c, rs, .inr (.inr (.inr (.inr fr))))) : RQX g kA ad E RL nd n d rs fr ∧ rs = iN (g 12 d) := by
  obtain ⟨fr9, q1, q2⟩ := h
  rw [q1] at hc
  have e1 := congrArg (fun x : va_E => eL x) hc
  have e2 := congrArg (fun x : va_E => eR x) hc
  have e1 : iN (g 12 (mdv g n j)) = rs := e1
  have e2 : fr9 = fr := e2
  rw [hd, e2] at q2
  rw [hd] at e1
  rw [e1] at q2
  exact ⟨q2, e1.symm⟩
theorem LKH_L {g : gT} {kA : Nat → ClassId} {ad : Nat → Nat → Nat} {E : Nat → Nat → va_E} {RL : List (Nat × Nat)} {nd nL n : Nat} (hL : nL ≤ 6) (hnd : nd ≤ 12) (hn : n < nL) (hI : LIs kA ad E RL nd nL) (h : TLas g ad E nd nL) : LKH g n := LKH_T hL hnd (fun la hla => by
  obtain ⟨_, _, pv, op, mk, fm, hm, _, _, c1, _⟩ := hI la hla
  rw [c1]; exact hm) hn h
theorem T_20 {g : gT} {ad : Nat → Nat → Nat} {E : Nat → Nat → va_E} {nd nL n mk : Nat} {c : ClassId} {fm : Nat → Option Nat} (hn : n < nL) (h : TLas g ad E nd nL) (hc : E (20 + n) 1 = .inl (c, mk, .inr (.inr (.inr (.inr fm))))) : g 20 n = nI mk := by
  obtain ⟨_, _, h3, _⟩ := h n hn
  rw [hc] at h3; exact h3
def LBs (g : gT) (E : Nat → Nat → va_E) (n : Nat) : Prop := ∀ k, k < iN (g 20 n) → (BS (eA (E (20 + n) (15 + 10 * k))) (12 * n + mdv g n k) ↔ tc (stp g n) (mdv g n k) (mdv g n k))
def RBs (g : gT) (E : Nat → Nat → va_E) (n : Nat) : Prop := ∀ k, k < iN (g 20 n) → ∀ t, t < 72 → (BS (eA (E (20 + n) (17 + 10 * k))) t ↔ rdQ g n (mdv g n k) t)
theorem LBs_of {g : gT} {E : Nat → Nat → va_E} {n mk : Nat} (hk : LKH g n) (hm : iN (g 20 n) = mk) (hn : n < 6) (hinj : ∀ a b, a < mk → b < mk → mdv g n a = mdv g n b → a = b) (h : ∀ k, k < mk → ∀ t, t < 72 → (BS (eA (E (20 + n) (15 + 10 * k))) t ↔ PW (LSr g n) (fun b => 12 * n + mdv g n b) mk k t)) : LBs g E n := fun k hk9 => by
  have q := hk.2 n (by omega) k (by unfold mcv; omega)
  rw [h k (by omega) _ (by omega), PW_iff (fun a b ha hb e => hinj a b ha hb (by omega)) (by omega), LS_tc hk (by unfold mcv; exact hm) (by omega) q]
theorem CBs_of {g : gT} {E : Nat → Nat → va_E} {n mk : Nat} (hk : LKH g n) (hm : iN (g 20 n) = mk) (hinj : ∀ a b, a < mk → b < mk → mdv g n a = mdv g n b → a = b) (h0 : CBs g E n) (h : ∀ k, k < mk → ∀ t, t < 72 → (BS (eA (E (20 + n) (16 + 10 * k))) t ↔ PW (CSr g n) (fun b => 12 * n + mdv g n b) mk k t)) : CBs g E (n + 1) := fun la hl k hk9 t ht => by
  by_cases q : la = n
  · subst q
    rw [h k (by omega) t ht, PW_iff (fun a b ha hb e => hinj a b ha hb (by omega)) (by omega), CS_tc hk (by unfold mcv; exact hm) (by omega)]
  · exact h0 la (by omega) k hk9 t ht
theorem k5v_0 : (Cond.fieldLink "LayerDesk$Layer" 19 "LayerDesk$Layer" "members" "[LLayerDesk$Member;") ∈ wT := wT_t (List.mem_append_right _ (List.mem_append_right _ (List.mem_append_left _ (List.mem_of_getElem? (i := 147) rfl)))) rfl
theorem k5v_1 : (Cond.classLink "LayerDesk$Layer" 47 "LayerDesk$Reach") ∈ wT := wT_t (List.mem_append_right _ (List.mem_append_right _ (List.mem_append_left _ (List.mem_of_getElem? (i := 210) rfl)))) rfl
theorem k5v_2 : (Cond.code xy_Ly_follow xb_Ly_follow 4 none) ∈ wT := wT_t (List.mem_append_right _ (List.mem_append_right _ (List.mem_append_left _ (List.mem_of_getElem? (i := 229) rfl)))) rfl
theorem k5v_3 : (Cond.methodLink "LayerDesk$Layer" 59 xy_Ly_follow) ∈ wT := wT_t (List.mem_append_right _ (List.mem_append_right _ (List.mem_append_left _ (List.mem_of_getElem? (i := 226) rfl)))) rfl
theorem k5v_4 : (Cond.instanceMethod xy_Ly_follow) ∈ wT := wT_t (List.mem_append_right _ (List.mem_append_right _ (List.mem_append_left _ (List.mem_of_getElem? (i := 228) rfl)))) rfl
theorem k5v_5 : (Cond.selects "LayerDesk$Layer" xy_Ly_follow xy_Ly_follow) ∈ wT := wT_s (q := (xy_Ly_follow, 4)) (by decide +kernel) rfl
theorem k5v_6 : (Cond.initialized "LayerDesk$Layer") ∈ wT := wT_t (List.mem_append_left _ (List.mem_of_getElem? (i := 19) rfl)) rfl
theorem k5v_7 : (Cond.code xy_Me_settleReading xb_Me_settleReading 2 none) ∈ wT := wT_t (List.mem_append_right _ (List.mem_append_right _ (List.mem_append_left _ (List.mem_of_getElem? (i := 235) rfl)))) rfl
theorem k5v_8 : (Cond.methodLink "LayerDesk$Layer" 63 xy_Me_settleReading) ∈ wT := wT_t (List.mem_append_right _ (List.mem_append_right _ (List.mem_append_left _ (List.mem_of_getElem? (i := 232) rfl)))) rfl
theorem k5v_9 : (Cond.instanceMethod xy_Me_settleReading) ∈ wT := wT_t (List.mem_append_right _ (List.mem_append_right _ (List.mem_append_left _ (List.mem_of_getElem? (i := 233) rfl)))) rfl
theorem k5v_10 : (Cond.selects "LayerDesk$Member" xy_Me_settleReading xy_Me_settleReading) ∈ wT := wT_t (List.mem_append_right _ (List.mem_append_right _ (List.mem_append_left _ (List.mem_of_getElem? (i := 234) rfl)))) rfl
theorem k5v_11 : (Cond.initialized "LayerDesk$Member") ∈ wT := wT_t (List.mem_append_left _ (List.mem_of_getElem? (i := 20) rfl)) rfl
theorem k5v_12 : (Cond.code xy_Me_takeFirstSteps xb_Me_takeFirstSteps 3 none) ∈ wT := wT_t (List.mem_append_right _ (List.mem_append_right _ (List.mem_append_left _ (List.mem_of_getElem? (i := 215) rfl)))) rfl
theorem k5v_13 : (Cond.methodLink "LayerDesk$Layer" 49 xy_Me_takeFirstSteps) ∈ wT := wT_t (List.mem_append_right _ (List.mem_append_right _ (List.mem_append_left _ (List.mem_of_getElem? (i := 212) rfl)))) rfl
theorem k5v_14 : (Cond.instanceMethod xy_Me_takeFirstSteps) ∈ wT := wT_t (List.mem_append_right _ (List.mem_append_right _ (List.mem_append_left _ (List.mem_of_getElem? (i := 213) rfl)))) rfl
theorem k5v_15 : (Cond.selects "LayerDesk$Member" xy_Me_takeFirstSteps xy_Me_takeFirstSteps) ∈ wT := wT_t (List.mem_append_right _ (List.mem_append_right _ (List.mem_append_left _ (List.mem_of_getElem? (i := 214) rfl)))) rfl
theorem k5v_16 : (Cond.fieldLink "LayerDesk$Layer" 52 "LayerDesk$Member" "leading" "LLayerDesk$Reach;") ∈ wT := wT_t (List.mem_append_right _ (List.mem_append_right _ (List.mem_append_left _ (List.mem_of_getElem? (i := 188) rfl)))) rfl
theorem k5v_17 : (Cond.fieldLink "LayerDesk$Layer" 56 "LayerDesk$Member" "carried" "LLayerDesk$Reach;") ∈ wT := wT_t (List.mem_append_right _ (List.mem_append_right _ (List.mem_append_left _ (List.mem_of_getElem? (i := 190) rfl)))) rfl
set_option maxHeartbeats 4000000 in
set_option maxRecDepth 100000 in
theorem xc_Ly_connectX (l : Launch) (D : va_G) (kA : Nat → ClassId) (sz : Nat) (ad : Nat → Nat → Nat) (E : Nat → Nat → va_E) (RL : List (Nat × Nat)) (g : Nat → Nat → Int32) (nd : Nat) (nL : Nat) (n : Nat) (pv : Value) (lo : Int32) (mk : Nat) (fm : Nat → Option Nat) (ym0 : (20 + n, 0) ∈ RL) (yc0 : E (20 + n) 0 = .inr (5, [.int (nI n), pv, .ref (ad (20 + n) 1), .int lo])) (ym1 : (20 + n, 1) ∈ RL) (yc1 : E (20 + n) 1 = .inl (kA 6, mk, .inr (.inr (.inr (.inr fm))))) (hDIs : DIs kA ad E RL nd) (hLIs : LIs kA ad E RL nd nL) (hnd12 : nd ≤ 12) (hnL : nL ≤ 6) (hn : n < nL) (hmk : mk ≤ 12) (hfm : ∀ k, k < mk → fm k = some (ad (20 + n) (10 + 10 * k)) ∧ MEI kA ad E RL nd n k) (hTD : TDs g E nd) (hTL : TLas g ad E nd nL) (hCB : CBs g E n) (hinj : ∀ a b, a < mk → b < mk → mdv g n a = mdv g n b → a = b) (hC0 : ∀ j, j < mk → CN0 g E n j) (hC7 : ∀ j, j < mk → CN7 E n j) : Met l xy_Ly_connect (.code xy_Ly_connect xb_Ly_connect 4 none :: wT) { frames := 2, cells := 2, slots := 24, locals := 45 } (va_Pc [.ref (ad (20 + n) 0)] (xPre D kA sz (rp ad E RL))) (va_Qv (fun (u : (Nat → Nat → Nat) × (Nat → Nat → va_E) × List (Nat × Nat)) => ((DIs kA u.1 u.2.1 u.2.2 nd ∧ LIs kA u.1 u.2.1 u.2.2 nd nL) ∧ TLas g u.1 u.2.1 nd nL ∧ CBs g u.2.1 (n + 1) ∧ LBs g u.2.1 n ∧ RBs g u.2.1 n) ∧ ((∀ b2 o2, ¬ (b2 = 20 + n) → u.2.1 b2 o2 = E b2 o2)) ∧ ((∀ b2 o2, ¬ (b2 = 20 + n ∧ o2 = 2) → ¬ (b2 = 20 + n ∧ o2 = 3) → u.1 b2 o2 = ad b2 o2)) ∧ ((∀ x ∈ RL, x ∈ u.2.2)) ∧ ((20 + n, 2) ∈ u.2.2) ∧ ((20 + n, 3) ∈ u.2.2)) (fun (u : (Nat → Nat → Nat) × (Nat → Nat → va_E) × List (Nat × Nat)) t => va_P D xcl (rp u.1 u.2.1 u.2.2) t.heap ∧ va_D (va_A (rp ad E RL) sz) (rp u.1 u.2.1 u.2.2)) (va_A (rp ad E RL) sz)) 2 24 (va_A (rp ad E RL) sz) := by
  refine Met.ofW (cc := xb_Ly_connect) (maxL := 4) (ret := none) (by decide) rfl ?_
  intro p e s m args below meth c s₁ B hml hv
  obtain ⟨rfl, hsz, hP, hK, hD0⟩ := hv
  have hx := B.exec
  have hb := B.bytes
  have hr := B.returns
  have hT := x_hT B.pre
  have hown : s.vm.findClass xR_Ly = some m.cls := findClass_of_methodNamed B.named
  have hlocks := B.notSynchronized
  subst hsz
  have hD := hD0.self (sz := s.heap.size)
  generalize hAe : va_A (rp ad E RL) s.heap.size = A at hD ⊢
  have hA : ∀ q : Nat, s.heap.size ≤ q → A q := fun q h => by rw [← hAe]; exact Or.inr h
  have hS : va_S A s.heap s.heap [] := va_S.rf
  have hl := lv_entry ([.ref (ad (20 + n) 0)]) (n := 4) (Nat.le_of_ble_eq_true rfl)
  rw [lg_entry_eq]
  generalize (lg_sl ([.ref (ad (20 + n) 0)]) ++ List.replicate (4 - (lg_sl ([.ref (ad (20 + n) 0)])).length) Slot.unset).toArray = ls at hl ⊢
  have hl : lv_has ls 4 [(0, .ref (ad (20 + n) 0))] := hl
  have hP : va_P D xcl (rp ad E RL) s.heap := hP
  have h20 := T_20 hn hTL yc1
  have hi20 : iN (g 20 n) = mk := by rw [h20, iN_nI (by omega)]
  have hLK9 : LKH g n := LKH_L hnL hnd12 hn hLIs hTL
  have hnf72 : ∀ a, a < mk → (fun b => 12 * n + mdv g n b) a < 72 := fun a ha => by
    have q := hLK9.2 n (by omega) a (by unfold mcv; omega)
    show 12 * n + mdv g n a < 72
    omega
  refine lv_aload_n hx hb xd_Ly_connect_0 rfl (lv_at hl 0 rfl) ?_
  refine px_get (D := D) (ci := 5) (v := .ref (ad (20 + n) 1)) (C := xR_Ly) (T := xT_Ly) (N := 4) hx hb hT xi_Ly hown hK.1 hP ym0 yc0 rfl 2 (by decide) (hT _ k5v_0) (fun _ h9 => h9) rfl xd_Ly_connect_1 ?_
  refine px_alen hx hb hK.1 hP ym1 yc1 6 rfl xd_Ly_connect_4 ?_
  refine W.eq (g2 := F0 m 5 ls [.int (nI mk)]) rfl ?_
  refine W.eq (g2 := F0 m 5 ls [.int (nI mk)]) rfl ?_
  refine px_newq (C := "LayerDesk$Reach") (N' := mk) (20 + n) 2 hx hb hown (hT _ k5v_1) hK.2.1.2.2.2.2.2.2.2.1 hK.1 7 rfl hP hD hS hA (by omega) (show mk * 4 ≤ 536870912 by omega) (Nat.le_of_ble_eq_true rfl) (show 0 + mk ≤ 24 by omega) xd_Ly_connect_5 (fun ad1 E2 RL3 H hA1 hE1 hs1 hm1 hP hD hS => ?_)
  refine W.widen (k := 1) (n := 12) (by omega) (by omega) ?_
  have fE4 : ∀ b2 o2, ¬ (b2 = 20 + n ∧ o2 = 2) → E2 b2 o2 = E b2 o2 := fun b2 o2 h9 => by rw [hE1]; exact up2_ne (by omega)
  have fA5 : ∀ b2 o2, ¬ (b2 = 20 + n ∧ o2 = 2) → ad1 b2 o2 = ad b2 o2 := fun b2 o2 h9 => by rw [hA1]; exact up2_ne (by omega)
  have hs6 := hs1
  have c_7 : E2 (20 + n) 2 = .inl (kA 7, mk, .inr (.inr (.inr (.inr (fun _ => none))))) := by rw [hE1]; exact up2_eq
  have hl : lv_has ls 4 [(0, .ref (ad1 (20 + n) 0))] := by
    rw [fA5 (20 + n) 0 (by omega)]; exact hl
  have m_9 : (20 + n, 0) ∈ RL3 := hs6 _ ym0
  have m_10 : (20 + n, 1) ∈ RL3 := hs6 _ ym1
  have c_11 : E2 (20 + n) 0 = .inr (5, [.int (nI n), pv, .ref (ad1 (20 + n) 1), .int lo]) := by rw [fE4 (20 + n) 0 (by omega), fA5 (20 + n) 1 (by omega)]; exact yc0
  have c_12 : E2 (20 + n) 1 = .inl (kA 6, mk, .inr (.inr (.inr (.inr fm)))) := by rw [fE4 (20 + n) 1 (by omega)]; exact yc1
  have m_8 : (20 + n, 2) ∈ RL3 := hm1
  have hP : va_P D xcl (rp ad1 E2 RL3) H := hP
  have hD : va_D A (rp ad1 E2 RL3) := hD
  refine lv_astore_n hx hb xd_Ly_connect_8 rfl hl (Nat.le_of_ble_eq_true rfl) rfl (fun ls hl => ?_)
  have hl : lv_has ls 4 [(1, .ref (ad1 (20 + n) 2)), (0, .ref (ad1 (20 + n) 0))] := hl
  refine lv_aload_n hx hb xd_Ly_connect_9 rfl (lv_at hl 1 rfl) ?_
  refine px_get (D := D) (ci := 5) (v := .ref (ad1 (20 + n) 1)) (C := xR_Ly) (T := xT_Ly) (N := 4) hx hb hT xi_Ly hown hK.1 hP m_9 c_11 rfl 2 (by decide) (hT _ k5v_0) (fun _ h9 => h9) rfl xd_Ly_connect_10 ?_
  refine px_alen hx hb hK.1 hP m_10 c_12 6 rfl xd_Ly_connect_13 ?_
  refine W.eq (g2 := F0 m 14 ls [.int (nI mk)]) rfl ?_
  refine W.eq (g2 := F0 m 14 ls [.int (nI mk)]) rfl ?_
  refine px_newq (C := "LayerDesk$Reach") (N' := mk) (20 + n) 3 hx hb hown (hT _ k5v_1) hK.2.1.2.2.2.2.2.2.2.1 hK.1 7 rfl hP hD hS hA (by omega) (show mk * 4 ≤ 536870912 by omega) (Nat.le_of_ble_eq_true rfl) (show 12 + mk ≤ 24 by omega) xd_Ly_connect_14 (fun ad13 E14 RL15 H hA1 hE1 hs1 hm1 hP hD hS => ?_)
  refine W.widen (k := 2) (n := 24) (by omega) (by omega) ?_
  have fE16 : ∀ b2 o2, ¬ (b2 = 20 + n ∧ o2 = 3) → E14 b2 o2 = E2 b2 o2 := fun b2 o2 h9 => by rw [hE1]; exact up2_ne (by omega)
  have fA17 : ∀ b2 o2, ¬ (b2 = 20 + n ∧ o2 = 3) → ad13 b2 o2 = ad1 b2 o2 := fun b2 o2 h9 => by rw [hA1]; exact up2_ne (by omega)
  have hs18 := hs1
  have c_19 : E14 (20 + n) 3 = .inl (kA 7, mk, .inr (.inr (.inr (.inr (fun _ => none))))) := by rw [hE1]; exact up2_eq
  have hl : lv_has ls 4 [(1, .ref (ad13 (20 + n) 2)), (0, .ref (ad13 (20 + n) 0))] := by
    rw [fA17 (20 + n) 2 (by omega), fA17 (20 + n) 0 (by omega)]; exact hl
  have m_21 : (20 + n, 0) ∈ RL15 := hs18 _ m_9
  have m_22 : (20 + n, 1) ∈ RL15 := hs18 _ m_10
  have m_23 : (20 + n, 2) ∈ RL15 := hs18 _ m_8
  have c_24 : E14 (20 + n) 2 = .inl (kA 7, mk, .inr (.inr (.inr (.inr (fun _ => none))))) := by rw [fE16 (20 + n) 2 (by omega)]; exact c_7
  have c_25 : E14 (20 + n) 0 = .inr (5, [.int (nI n), pv, .ref (ad13 (20 + n) 1), .int lo]) := by rw [fE16 (20 + n) 0 (by omega), fA17 (20 + n) 1 (by omega)]; exact c_11
  have c_26 : E14 (20 + n) 1 = .inl (kA 6, mk, .inr (.inr (.inr (.inr fm)))) := by rw [fE16 (20 + n) 1 (by omega)]; exact c_12
  have m_20 : (20 + n, 3) ∈ RL15 := hm1
  have hP : va_P D xcl (rp ad13 E14 RL15) H := hP
  have hD : va_D A (rp ad13 E14 RL15) := hD
  refine lv_astore_n hx hb xd_Ly_connect_17 rfl hl (Nat.le_of_ble_eq_true rfl) rfl (fun ls hl => ?_)
  have hl : lv_has ls 4 [(2, .ref (ad13 (20 + n) 3)), (1, .ref (ad13 (20 + n) 2)), (0, .ref (ad13 (20 + n) 0))] := hl
  have h2327 : R23 n E E14 := fun b2 o2 h9 => by show E14 b2 o2 = _; rw [fE16 b2 o2 (by omega), fE4 b2 o2 (by omega)]
  have h2328 : R23 n ad ad13 := fun b2 o2 h9 => by show ad13 b2 o2 = _; rw [fA17 b2 o2 (by omega), fA5 b2 o2 (by omega)]
  have hDIs : DIs kA ad13 E14 RL15 nd := DIs_23 h2327 h2328 (fun _ h9 => hs18 _ (hs6 _ h9)) hnd12 hDIs
  have hLIs : LIs kA ad13 E14 RL15 nd nL := LIs_23 h2327 h2328 (fun _ h9 => hs18 _ (hs6 _ h9)) hLIs
  have hfm : ∀ k, k < mk → fm k = some (ad13 (20 + n) (10 + 10 * k)) ∧ MEI kA ad13 E14 RL15 nd n k := fun k h => ⟨by rw [h2328 _ _ (by omega)]; exact (hfm k h).1, MEI_23 h2327 h2328 (fun _ h9 => hs18 _ (hs6 _ h9)) (hfm k h).2⟩
  have hTL : TLas g ad13 E14 nd nL := TLas_23 h2327 h2328 hTL hnd12
  have hC0 : ∀ j, j < mk → CN0 g E14 n j := fun j hj => CN0_23 h2327 (hC0 j hj)
  have hC7 : ∀ j, j < mk → CN7 E14 n j := fun j hj => CN7_23 h2327 (hC7 j hj)
  refine lv_iconst (v := 0) hx hb xd_Ly_connect_18 (by decide) ?_
  refine lv_istore_n hx hb xd_Ly_connect_19 rfl hl (Nat.le_of_ble_eq_true rfl) rfl (fun ls hl => ?_)
  have hl : lv_has ls 4 [(3, .int 0), (2, .ref (ad13 (20 + n) 3)), (1, .ref (ad13 (20 + n) 2)), (0, .ref (ad13 (20 + n) 0))] := hl
  refine xlab (σ := Nat × (Nat → Nat → va_E) × (Nat → Option Nat) × (Nat → Option Nat)) (ml := 4) 20 (fun (i, E1, fl1, fc1) => [(3, .int (nI i)), (2, .ref (ad13 (20 + n) 3)), (1, .ref (ad13 (20 + n) 2)), (0, .ref (ad13 (20 + n) 0))]) (fun (i, E1, fl1, fc1) => []) (fun (i, E1, fl1, fc1) => rp ad13 E1 RL15) (fun (i, E1, fl1, fc1) => (i ≤ mk) ∧ (E1 (20 + n) 0 = .inr (5, [.int (nI n), pv, .ref (ad13 (20 + n) 1), .int lo])) ∧ (E1 (20 + n) 1 = .inl (kA 6, mk, .inr (.inr (.inr (.inr fm))))) ∧ (E1 (20 + n) 2 = .inl (kA 7, mk, .inr (.inr (.inr (.inr fl1))))) ∧ (E1 (20 + n) 3 = .inl (kA 7, mk, .inr (.inr (.inr (.inr fc1))))) ∧ (∀ b2 o2, ¬ (b2 = 20 + n) → E1 b2 o2 = E b2 o2) ∧ (DIs kA ad13 E1 RL15 nd) ∧ (LIs kA ad13 E1 RL15 nd nL) ∧ (∀ k, k < mk → fm k = some (ad13 (20 + n) (10 + 10 * k)) ∧ MEI kA ad13 E1 RL15 nd n k) ∧ (∀ j, j < i → fl1 j = some (ad13 (20 + n) (12 + 10 * j)) ∧ fc1 j = some (ad13 (20 + n) (13 + 10 * j))) ∧ (TLas g ad13 E1 nd nL) ∧ (∀ j, j < i → CN1 g E1 n j ∧ CNd g kA ad13 E1 RL15 nd n j) ∧ (∀ j, i ≤ j → j < mk → CN0 g E1 n j) ∧ (∀ j, j < mk → CN7 E1 n j)) (fun (i, E1, fl1, fc1) => mk - i) ?_ (0, E14, (fun _ => none), (fun _ => none)) _ _ _ (lv_sub hl [0, 1, 2, 3] rfl) hP hD hS ⟨(show 0 ≤ mk from by first | assumption | omega), (show E14 (20 + n) 0 = .inr (5, [.int (nI n), pv, .ref (ad13 (20 + n) 1), .int lo]) from c_25), (show E14 (20 + n) 1 = .inl (kA 6, mk, .inr (.inr (.inr (.inr fm)))) from c_26), (show E14 (20 + n) 2 = .inl (kA 7, mk, .inr (.inr (.inr (.inr (fun _ => none))))) from c_24), (show E14 (20 + n) 3 = .inl (kA 7, mk, .inr (.inr (.inr (.inr (fun _ => none))))) from c_19), (show ∀ b2 o2, ¬ (b2 = 20 + n) → E14 b2 o2 = E b2 o2 from fun b2 o2 h09 => by show E14 b2 o2 = _; rw [fE16 b2 o2 (by omega), fE4 b2 o2 (by omega)]), (show DIs kA ad13 E14 RL15 nd from hDIs), (show LIs kA ad13 E14 RL15 nd nL from hLIs), (show ∀ k, k < mk → fm k = some (ad13 (20 + n) (10 + 10 * k)) ∧ MEI kA ad13 E14 RL15 nd n k from hfm), (show ∀ j, j < 0 → (fun _ => none) j = some (ad13 (20 + n) (12 + 10 * j)) ∧ (fun _ => none) j = some (ad13 (20 + n) (13 + 10 * j)) from fun j hj => absurd hj (by omega)), (show TLas g ad13 E14 nd nL from hTL), (show ∀ j, j < 0 → CN1 g E14 n j ∧ CNd g kA ad13 E14 RL15 nd n j from fun j hj => absurd hj (by omega)), (show ∀ j, 0 ≤ j → j < mk → CN0 g E14 n j from fun j _ hj => hC0 j hj), (show ∀ j, j < mk → CN7 E14 n j from hC7)⟩
  intro n9 ih29 a9 ls H locs hμ hl hP hD hS hI
  subst hμ
  obtain ⟨i, E1, fl1, fc1⟩ := a9
  obtain ⟨hi, hcA0, hcA1, hcA2, hcA3, hfr, hDIs, hLIs, hfm, hdone, hTL, hC1, hC0, hC7⟩ := hI
  have hi : i ≤ mk := hi
  have hcA0 : E1 (20 + n) 0 = .inr (5, [.int (nI n), pv, .ref (ad13 (20 + n) 1), .int lo]) := hcA0
  have hcA1 : E1 (20 + n) 1 = .inl (kA 6, mk, .inr (.inr (.inr (.inr fm)))) := hcA1
  have hcA2 : E1 (20 + n) 2 = .inl (kA 7, mk, .inr (.inr (.inr (.inr fl1)))) := hcA2
  have hcA3 : E1 (20 + n) 3 = .inl (kA 7, mk, .inr (.inr (.inr (.inr fc1)))) := hcA3
  have hfr : ∀ b2 o2, ¬ (b2 = 20 + n) → E1 b2 o2 = E b2 o2 := hfr
  have hDIs : DIs kA ad13 E1 RL15 nd := hDIs
  have hLIs : LIs kA ad13 E1 RL15 nd nL := hLIs
  have hfm : ∀ k, k < mk → fm k = some (ad13 (20 + n) (10 + 10 * k)) ∧ MEI kA ad13 E1 RL15 nd n k := hfm
  have hdone : ∀ j, j < i → fl1 j = some (ad13 (20 + n) (12 + 10 * j)) ∧ fc1 j = some (ad13 (20 + n) (13 + 10 * j)) := hdone
  have hTL : TLas g ad13 E1 nd nL := hTL
  have hC1 : ∀ j, j < i → CN1 g E1 n j ∧ CNd g kA ad13 E1 RL15 nd n j := hC1
  have hC0 : ∀ j, i ≤ j → j < mk → CN0 g E1 n j := hC0
  have hC7 : ∀ j, j < mk → CN7 E1 n j := hC7
  have hl : lv_has ls 4 [(3, .int (nI i)), (2, .ref (ad13 (20 + n) 3)), (1, .ref (ad13 (20 + n) 2)), (0, .ref (ad13 (20 + n) 0))] := hl
  have hP : va_P D xcl (rp ad13 E1 RL15) H := hP
  have hD : va_D A (rp ad13 E1 RL15) := hD
  have hTD1 : TDs g E1 nd := TDs_same (fun d9 hd9 => fun2 fun o9 => hfr (1 + d9) o9 (by omega)) hTD
  have hCB1 : CBs g E1 n := CBs_same (fun la o9 hla => hfr (20 + la) o9 (by omega)) hCB
  refine lv_iload_n hx hb xd_Ly_connect_20 rfl (lv_at hl 0 rfl) ?_
  refine lv_aload_n hx hb xd_Ly_connect_21 rfl (lv_at hl 3 rfl) ?_
  refine px_get (D := D) (ci := 5) (v := .ref (ad13 (20 + n) 1)) (C := xR_Ly) (T := xT_Ly) (N := 4) hx hb hT xi_Ly hown hK.1 hP m_21 hcA0 rfl 2 (by decide) (hT _ k5v_0) (fun _ h9 => h9) rfl xd_Ly_connect_22 ?_
  refine px_alen hx hb hK.1 hP m_22 hcA1 6 rfl xd_Ly_connect_25 ?_
  refine W.eq (g2 := F0 m 26 ls [.int (nI mk), .int (nI i)]) rfl ?_
  refine xn_ge (a := i) (b := mk) (tgt := 68) hx hb xd_Ly_connect_26 (by decide) (by omega) (by omega) (fun hc30 => ?_) (fun hc30 => ?_)
  · refine lv_aload_n hx hb xd_Ly_connect_68 rfl (lv_at hl 3 rfl) ?_
    refine lv_aload_n hx hb xd_Ly_connect_69 rfl (lv_at hl 2 rfl) ?_
    have hFc := px_free hD hS hA
    refine va_callv (va_runV (As := [.ref (ad13 (20 + n) 2)]) (rest := []) ⟨hx, hb, hml, hown, hT⟩ (xc_Ly_followLX l D kA H.size ad13 E1 RL15 g nd nL n pv lo mk fm fl1 m_21 hcA0 m_22 hcA1 m_23 hcA2 (by first | assumption | omega) (by first | assumption | omega) (by first | assumption | omega) (by first | assumption | omega) (by first | assumption | omega) (by first | assumption | omega) (by first | assumption | omega) (fun k h => (hdone k (by omega)).1) hTL) (cwV 1 hT (wT_V k5v_3 k5v_4 k5v_5 k5v_6 k5v_2) rfl rfl rfl (by decide +kernel) ⟨Nat.le_of_ble_eq_true rfl, Nat.le_of_ble_eq_true rfl⟩) (px_preV hK hP hD m_21 hcA0 rfl) rfl rfl hl.1 rfl (lv_room (Nat.le_of_ble_eq_true rfl)) xd_Ly_connect_70 ⟨(Nat.le_of_ble_eq_true rfl), (Nat.le_of_ble_eq_true rfl)⟩) hS (fun q _ h => hFc q h) hFc (fun u32 t H1 locs ht hvm hp33 hB hz1 hk1 hS => ?_)
    obtain ⟨hP1, hD1⟩ := hB
    rw [ht] at hP1
    have hD1 := hD1.weaken (fun _ _ _ h => hFc _ h)
    generalize H1 = H at hP1 hS ⊢
    have hP := hP1
    have hD := hD1
    obtain ⟨E34, rfl⟩ : ∃ z, z = u32 := ⟨_, rfl⟩
    have hP : va_P D xcl (rp ad13 E34 RL15) H := hP
    have hD : va_D A (rp ad13 E34 RL15) := hD
    obtain ⟨hRI9, hPW9, hot9⟩ := hp33
    have hRI9 : RI kA (20 + n) E1 E34 := hRI9
    have hcA0 := hRI9.obj hcA0
    have hcA1 := hRI9.arr hcA1
    have hcA2 := hRI9.arr hcA2
    have hcA3 := hRI9.arr hcA3
    have hfr : ∀ b2 o2, ¬ (b2 = 20 + n) → E34 b2 o2 = E b2 o2 := fun b2 o2 h9 => (hRI9.out h9).trans (hfr b2 o2 h9)
    have hDIs := DIs_RU hRI9.ru hnd12 hDIs
    have hLIs := LIs_RU hRI9.ru hLIs
    have hfm : ∀ k, k < mk → fm k = some (ad13 (20 + n) (10 + 10 * k)) ∧ MEI kA ad13 E34 RL15 nd n k := fun k h => ⟨(hfm k h).1, MEI_RU hRI9.ru (hfm k h).2⟩
    have hTL : TLas g ad13 E34 nd nL := TLas_ro (fun n9 o9 hn9 ho9 => by
      by_cases q : n9 = n
      · rw [q]; exact hot9 o9 (fun k9 _ e9 => by rcases ho9 with z | z | ⟨z, z2⟩ <;> omega)
      · exact hRI9.out (by omega)) hTL
    have hC7 : ∀ j, j < mk → CN7 E34 n j := fun j hj => CN7_fr (hot9 (17 + 10 * j) (fun _ _ => by omega)) (hC7 j hj)
    have hLd : ∀ k, k < mk → ∀ t, t < 72 → (BS (eA (E34 (20 + n) (15 + 10 * k))) t ↔ PW (LSr g n) (fun b => 12 * n + mdv g n b) mk k t) := fun k hk t ht => (hPW9 k hk t ht).trans (PW_congr hnf72 (fun a ha t ht => ((hC1 a (by omega)).1 t ht).1) mk (Nat.le_refl _) k hk t ht)
    have hCs : ∀ j, j < mk → ∀ t, t < 72 → (BS (eA (E34 (20 + n) (16 + 10 * j))) t ↔ CSr g n j t) := fun j hj t ht => by rw [(hot9 (16 + 10 * j) (fun _ _ => by omega))]; exact ((hC1 j (by omega)).1 t ht).2
    have hNd : ∀ j, j < mk → CNd g kA ad13 E34 RL15 nd n j := fun j hj => CNd_RU hRI9.ru (hot9 (11 + 10 * j) (fun _ _ => by omega)) (hC1 j (by omega)).2
    refine lv_aload_n hx hb xd_Ly_connect_73 rfl (lv_at hl 3 rfl) ?_
    refine lv_aload_n hx hb xd_Ly_connect_74 rfl (lv_at hl 1 rfl) ?_
    have hFc := px_free hD hS hA
    refine va_callv (va_runV (As := [.ref (ad13 (20 + n) 3)]) (rest := []) ⟨hx, hb, hml, hown, hT⟩ (xc_Ly_followCX l D kA H.size ad13 E34 RL15 g nd nL n pv lo mk fm fc1 m_21 hcA0 m_22 hcA1 m_20 hcA3 (by first | assumption | omega) (by first | assumption | omega) (by first | assumption | omega) (by first | assumption | omega) (by first | assumption | omega) (by first | assumption | omega) (by first | assumption | omega) (fun k h => (hdone k (by omega)).2) hTL) (cwV 1 hT (wT_V k5v_3 k5v_4 k5v_5 k5v_6 k5v_2) rfl rfl rfl (by decide +kernel) ⟨Nat.le_of_ble_eq_true rfl, Nat.le_of_ble_eq_true rfl⟩) (px_preV hK hP hD m_21 hcA0 rfl) rfl rfl hl.1 rfl (lv_room (Nat.le_of_ble_eq_true rfl)) xd_Ly_connect_75 ⟨(Nat.le_of_ble_eq_true rfl), (Nat.le_of_ble_eq_true rfl)⟩) hS (fun q _ h => hFc q h) hFc (fun u36 t H1 locs ht hvm hp37 hB hz1 hk1 hS => ?_)
    obtain ⟨hP1, hD1⟩ := hB
    rw [ht] at hP1
    have hD1 := hD1.weaken (fun _ _ _ h => hFc _ h)
    generalize H1 = H at hP1 hS ⊢
    have hP := hP1
    have hD := hD1
    obtain ⟨E38, rfl⟩ : ∃ z, z = u36 := ⟨_, rfl⟩
    have hP : va_P D xcl (rp ad13 E38 RL15) H := hP
    have hD : va_D A (rp ad13 E38 RL15) := hD
    obtain ⟨hRI9, hPW9, hot9⟩ := hp37
    have hRI9 : RI kA (20 + n) E34 E38 := hRI9
    have hcA0 := hRI9.obj hcA0
    have hcA1 := hRI9.arr hcA1
    have hcA2 := hRI9.arr hcA2
    have hcA3 := hRI9.arr hcA3
    have hfr : ∀ b2 o2, ¬ (b2 = 20 + n) → E38 b2 o2 = E b2 o2 := fun b2 o2 h9 => (hRI9.out h9).trans (hfr b2 o2 h9)
    have hDIs := DIs_RU hRI9.ru hnd12 hDIs
    have hLIs := LIs_RU hRI9.ru hLIs
    have hfm : ∀ k, k < mk → fm k = some (ad13 (20 + n) (10 + 10 * k)) ∧ MEI kA ad13 E38 RL15 nd n k := fun k h => ⟨(hfm k h).1, MEI_RU hRI9.ru (hfm k h).2⟩
    have hTL : TLas g ad13 E38 nd nL := TLas_ro (fun n9 o9 hn9 ho9 => by
      by_cases q : n9 = n
      · rw [q]; exact hot9 o9 (fun k9 _ e9 => by rcases ho9 with z | z | ⟨z, z2⟩ <;> omega)
      · exact hRI9.out (by omega)) hTL
    have hC7 : ∀ j, j < mk → CN7 E38 n j := fun j hj => CN7_fr (hot9 (17 + 10 * j) (fun _ _ => by omega)) (hC7 j hj)
    have hLd : ∀ k, k < mk → ∀ t, t < 72 → (BS (eA (E38 (20 + n) (15 + 10 * k))) t ↔ PW (LSr g n) (fun b => 12 * n + mdv g n b) mk k t) := fun j hj t ht => by rw [(hot9 (15 + 10 * j) (fun _ _ => by omega))]; exact hLd j hj t ht
    have hCd : ∀ k, k < mk → ∀ t, t < 72 → (BS (eA (E38 (20 + n) (16 + 10 * k))) t ↔ PW (CSr g n) (fun b => 12 * n + mdv g n b) mk k t) := fun k hk t ht => (hPW9 k hk t ht).trans (PW_congr hnf72 (fun a ha t ht => hCs a ha t ht) mk (Nat.le_refl _) k hk t ht)
    have hNd : ∀ j, j < mk → CNd g kA ad13 E38 RL15 nd n j := fun j hj => CNd_RU hRI9.ru (hot9 (11 + 10 * j) (fun _ _ => by omega)) (hNd j hj)
    have hCB5 : CBs g E38 (n + 1) := CBs_of hLK9 hi20 hinj (CBs_same (fun la o9 hla => hfr (20 + la) o9 (by omega)) hCB) hCd
    have hLB : LBs g E38 n := LBs_of hLK9 hi20 (by omega) hinj hLd
    refine lv_iconst (v := 0) hx hb xd_Ly_connect_78 (by decide) ?_
    refine lv_istore_n hx hb xd_Ly_connect_79 rfl hl (Nat.le_of_ble_eq_true rfl) rfl (fun ls hl => ?_)
    have hl : lv_has ls 4 [(3, .int 0), (2, .ref (ad13 (20 + n) 3)), (1, .ref (ad13 (20 + n) 2)), (0, .ref (ad13 (20 + n) 0))] := hl
    refine xlab (σ := Nat × (Nat → Nat → va_E)) (ml := 4) 80 (fun (i, E5) => [(3, .int (nI i)), (0, .ref (ad13 (20 + n) 0))]) (fun (i, E5) => []) (fun (i, E5) => rp ad13 E5 RL15) (fun (i, E5) => (i ≤ mk) ∧ (E5 (20 + n) 0 = .inr (5, [.int (nI n), pv, .ref (ad13 (20 + n) 1), .int lo])) ∧ (E5 (20 + n) 1 = .inl (kA 6, mk, .inr (.inr (.inr (.inr fm))))) ∧ (∀ b2 o2, ¬ (b2 = 20 + n) → E5 b2 o2 = E b2 o2) ∧ (DIs kA ad13 E5 RL15 nd) ∧ (LIs kA ad13 E5 RL15 nd nL) ∧ (∀ k, k < mk → fm k = some (ad13 (20 + n) (10 + 10 * k)) ∧ MEI kA ad13 E5 RL15 nd n k) ∧ (∀ j, j < mk → CNd g kA ad13 E5 RL15 nd n j) ∧ (TLas g ad13 E5 nd nL) ∧ (CBs g E5 (n + 1)) ∧ (LBs g E5 n) ∧ (∀ j, j < i → ∀ t, t < 72 → (BS (eA (E5 (20 + n) (17 + 10 * j))) t ↔ rdQ g n (mdv g n j) t)) ∧ (∀ j, i ≤ j → j < mk → CN7 E5 n j)) (fun (i, E5) => mk - i) ?_ (0, E38) _ _ _ (lv_sub hl [0, 3] rfl) hP hD hS ⟨(show 0 ≤ mk from by first | assumption | omega), (show E38 (20 + n) 0 = .inr (5, [.int (nI n), pv, .ref (ad13 (20 + n) 1), .int lo]) from hcA0), (show E38 (20 + n) 1 = .inl (kA 6, mk, .inr (.inr (.inr (.inr fm)))) from hcA1), (show ∀ b2 o2, ¬ (b2 = 20 + n) → E38 b2 o2 = E b2 o2 from fun b2 o2 h09 => by show E38 b2 o2 = _; rw [hfr b2 o2 (by omega)]), (show DIs kA ad13 E38 RL15 nd from hDIs), (show LIs kA ad13 E38 RL15 nd nL from hLIs), (show ∀ k, k < mk → fm k = some (ad13 (20 + n) (10 + 10 * k)) ∧ MEI kA ad13 E38 RL15 nd n k from hfm), (show ∀ j, j < mk → CNd g kA ad13 E38 RL15 nd n j from hNd), (show TLas g ad13 E38 nd nL from hTL), (show CBs g E38 (n + 1) from hCB5), (show LBs g E38 n from hLB), (show ∀ j, j < 0 → ∀ t, t < 72 → (BS (eA (E38 (20 + n) (17 + 10 * j))) t ↔ rdQ g n (mdv g n j) t) from fun j hj => absurd hj (by omega)), (show ∀ j, 0 ≤ j → j < mk → CN7 E38 n j from fun j _ hj => hC7 j hj)⟩
    intro n9 ih39 a9 ls H locs hμ hl hP hD hS hI
    subst hμ
    obtain ⟨i, E5⟩ := a9
    obtain ⟨hi, hcA0, hcA1, hfr, hDIs, hLIs, hfm, hNd, hTL, hCB5, hLB, hR5, h75⟩ := hI
    have hi : i ≤ mk := hi
    have hcA0 : E5 (20 + n) 0 = .inr (5, [.int (nI n), pv, .ref (ad13 (20 + n) 1), .int lo]) := hcA0
    have hcA1 : E5 (20 + n) 1 = .inl (kA 6, mk, .inr (.inr (.inr (.inr fm)))) := hcA1
    have hfr : ∀ b2 o2, ¬ (b2 = 20 + n) → E5 b2 o2 = E b2 o2 := hfr
    have hDIs : DIs kA ad13 E5 RL15 nd := hDIs
    have hLIs : LIs kA ad13 E5 RL15 nd nL := hLIs
    have hfm : ∀ k, k < mk → fm k = some (ad13 (20 + n) (10 + 10 * k)) ∧ MEI kA ad13 E5 RL15 nd n k := hfm
    have hNd : ∀ j, j < mk → CNd g kA ad13 E5 RL15 nd n j := hNd
    have hTL : TLas g ad13 E5 nd nL := hTL
    have hCB5 : CBs g E5 (n + 1) := hCB5
    have hLB : LBs g E5 n := hLB
    have hR5 : ∀ j, j < i → ∀ t, t < 72 → (BS (eA (E5 (20 + n) (17 + 10 * j))) t ↔ rdQ g n (mdv g n j) t) := hR5
    have h75 : ∀ j, i ≤ j → j < mk → CN7 E5 n j := h75
    have hl : lv_has ls 4 [(3, .int (nI i)), (0, .ref (ad13 (20 + n) 0))] := hl
    have hP : va_P D xcl (rp ad13 E5 RL15) H := hP
    have hD : va_D A (rp ad13 E5 RL15) := hD
    have hTD1 : TDs g E5 nd := TDs_same (fun d9 hd9 => fun2 fun o9 => hfr (1 + d9) o9 (by omega)) hTD
    have hCB1 : CBs g E5 n := CBs_same (fun la o9 hla => hfr (20 + la) o9 (by omega)) hCB
    refine lv_iload_n hx hb xd_Ly_connect_80 rfl (lv_at hl 0 rfl) ?_
    refine lv_aload_n hx hb xd_Ly_connect_81 rfl (lv_at hl 1 rfl) ?_
    refine px_get (D := D) (ci := 5) (v := .ref (ad13 (20 + n) 1)) (C := xR_Ly) (T := xT_Ly) (N := 4) hx hb hT xi_Ly hown hK.1 hP m_21 hcA0 rfl 2 (by decide) (hT _ k5v_0) (fun _ h9 => h9) rfl xd_Ly_connect_82 ?_
    refine px_alen hx hb hK.1 hP m_22 hcA1 6 rfl xd_Ly_connect_85 ?_
    refine W.eq (g2 := F0 m 86 ls [.int (nI mk), .int (nI i)]) rfl ?_
    refine xn_ge (a := i) (b := mk) (tgt := 104) hx hb xd_Ly_connect_86 (by decide) (by omega) (by omega) (fun hc40 => ?_) (fun hc40 => ?_)
    · refine W.widen (k := 2) (n := 24) (Nat.le_of_ble_eq_true rfl) (Nat.le_of_ble_eq_true rfl) ?_
      exact W.vret hx hb hr (fun t ht hW => ⟨⟨(ad13, E5, RL15), rfl, ⟨⟨⟨hDIs, hLIs⟩, hTL, hCB5, hLB, (fun k hk t ht => hR5 k (by omega) t ht)⟩, (fun b2 o2 h09 => by show E5 b2 o2 = _; rw [hfr b2 o2 (by omega)]), (fun b2 o2 h09 h19 => by show ad13 b2 o2 = _; rw [fA17 b2 o2 (by omega), fA5 b2 o2 (by omega)]), (fun x9 hx9 => hs18 _ (hs6 _ hx9)), m_23, m_20⟩, by rw [ht]; exact hP, hD⟩, hS.F ht⟩) hS.2.2 xd_Ly_connect_104
    · refine lv_aload_n hx hb xd_Ly_connect_89 rfl (lv_at hl 1 rfl) ?_
      refine px_get (D := D) (ci := 5) (v := .ref (ad13 (20 + n) 1)) (C := xR_Ly) (T := xT_Ly) (N := 4) hx hb hT xi_Ly hown hK.1 hP m_21 hcA0 rfl 2 (by decide) (hT _ k5v_0) (fun _ h9 => h9) rfl xd_Ly_connect_90 ?_
      refine lv_iload_n hx hb xd_Ly_connect_93 rfl (lv_at hl 0 rfl) ?_
      have hM41 := (hfm i (by omega)).2
      refine px_aald (i := i) (x := (some (ad13 (20 + n) (10 + 10 * i)))) hx hb hK.1 hP m_22 hcA1 6 rfl ((hfm i (by omega)).1) (by omega) (by omega) xd_Ly_connect_94 ?_
      obtain ⟨hm_42, d_42, rs_42, fr_42, g2_42, g3_42, g4_42, hd_42, hrs_42, q0_42, q1_42, q2_42, q3_42, q4_42, q5_42, q6_42, q7_42⟩ := id hM41
      have c_43 : E5 (20 + n) (10 + 10 * i) = .inr (6, [.ref (ad13 (20 + n) 0), .ref (ad13 (1 + d_42) 0), .ref (ad13 (20 + n) (11 + 10 * i)), .ref (ad13 (20 + n) (12 + 10 * i)), .ref (ad13 (20 + n) (13 + 10 * i)), .ref (ad13 (20 + n) (14 + 10 * i))]) := q0_42
      have m_44 : (20 + n, 10 + 10 * i) ∈ RL15 := hm_42 0 (by omega)
      have c_45 : E5 (20 + n) (11 + 10 * i) = .inl (kA 6, rs_42, .inr (.inr (.inr (.inr fr_42)))) := q1_42
      have m_46 : (20 + n, 11 + 10 * i) ∈ RL15 := hm_42 1 (by omega)
      have c_47 : E5 (20 + n) (12 + 10 * i) = .inr (10, [.ref (ad13 (20 + n) (15 + 10 * i))]) := q2_42
      have m_48 : (20 + n, 12 + 10 * i) ∈ RL15 := hm_42 2 (by omega)
      have c_49 : E5 (20 + n) (13 + 10 * i) = .inr (10, [.ref (ad13 (20 + n) (16 + 10 * i))]) := q3_42
      have m_50 : (20 + n, 13 + 10 * i) ∈ RL15 := hm_42 3 (by omega)
      have c_51 : E5 (20 + n) (14 + 10 * i) = .inr (10, [.ref (ad13 (20 + n) (17 + 10 * i))]) := q4_42
      have m_52 : (20 + n, 14 + 10 * i) ∈ RL15 := hm_42 4 (by omega)
      have c_53 : E5 (20 + n) (15 + 10 * i) = .inl (kA 0, 6, .inl g2_42) := q5_42
      have m_54 : (20 + n, 15 + 10 * i) ∈ RL15 := hm_42 5 (by omega)
      have c_55 : E5 (20 + n) (16 + 10 * i) = .inl (kA 0, 6, .inl g3_42) := q6_42
      have m_56 : (20 + n, 16 + 10 * i) ∈ RL15 := hm_42 6 (by omega)
      have c_57 : E5 (20 + n) (17 + 10 * i) = .inl (kA 0, 6, .inl g4_42) := q7_42
      have m_58 : (20 + n, 17 + 10 * i) ∈ RL15 := hm_42 7 (by omega)
      obtain ⟨hm_59, fd_59, nm_59, sd_59, k0_59, k1_59, k2_59, k3_59, f0_59, f1_59, f2_59, f3_59, fe_59, fo_59, tr_59, op_59, hk0_59, hk1_59, hk2_59, hk3_59, q0_59, q1_59, q2_59, q3_59, q4_59, q5_59, q6_59, q7_59, q8_59, q9_59, q10_59, q11_59, q12_59, hg_59⟩ := id (hDIs d_42 (by omega))
      have c_60 : E5 (1 + d_42) 0 = .inr (7, [.int (nI d_42), .int fd_59, .int nm_59, .ref (ad13 (1 + d_42) 1), .ref (ad13 (1 + d_42) 9), .ref (ad13 (1 + d_42) 10), .ref (ad13 (1 + d_42) 2), .ref (ad13 (1 + d_42) 11), .ref (ad13 (1 + d_42) 12), .ref (ad13 (1 + d_42) 3), .ref (ad13 (1 + d_42) 4), .int sd_59]) := q0_59
      have m_61 : (1 + d_42, 0) ∈ RL15 := hm_59 0 (by omega)
      have c_62 : E5 (1 + d_42) 1 = .inr (8, [.ref (ad13 (1 + d_42) 5), .int (nI k0_59)]) := q1_59
      have m_63 : (1 + d_42, 1) ∈ RL15 := hm_59 1 (by omega)
      have c_64 : E5 (1 + d_42) 2 = .inr (8, [.ref (ad13 (1 + d_42) 6), .int (nI k1_59)]) := q2_59
      have m_65 : (1 + d_42, 2) ∈ RL15 := hm_59 2 (by omega)
      have c_66 : E5 (1 + d_42) 3 = .inr (8, [.ref (ad13 (1 + d_42) 7), .int (nI k2_59)]) := q3_59
      have m_67 : (1 + d_42, 3) ∈ RL15 := hm_59 3 (by omega)
      have c_68 : E5 (1 + d_42) 4 = .inr (8, [.ref (ad13 (1 + d_42) 8), .int (nI k3_59)]) := q4_59
      have m_69 : (1 + d_42, 4) ∈ RL15 := hm_59 4 (by omega)
      have c_70 : E5 (1 + d_42) 5 = .inl (kA 0, 6, .inl f0_59) := q5_59
      have m_71 : (1 + d_42, 5) ∈ RL15 := hm_59 5 (by omega)
      have c_72 : E5 (1 + d_42) 6 = .inl (kA 0, 5, .inl f1_59) := q6_59
      have m_73 : (1 + d_42, 6) ∈ RL15 := hm_59 6 (by omega)
      have c_74 : E5 (1 + d_42) 7 = .inl (kA 0, 3, .inl f2_59) := q7_59
      have m_75 : (1 + d_42, 7) ∈ RL15 := hm_59 7 (by omega)
      have c_76 : E5 (1 + d_42) 8 = .inl (kA 0, 3, .inl f3_59) := q8_59
      have m_77 : (1 + d_42, 8) ∈ RL15 := hm_59 8 (by omega)
      have c_78 : E5 (1 + d_42) 9 = .inl (kA 8, 6, .inr (.inr (.inr (.inr fe_59)))) := q9_59
      have m_79 : (1 + d_42, 9) ∈ RL15 := hm_59 9 (by omega)
      have c_80 : E5 (1 + d_42) 10 = .inl (kA 8, 6, .inr (.inr (.inr (.inr fo_59)))) := q10_59
      have m_81 : (1 + d_42, 10) ∈ RL15 := hm_59 10 (by omega)
      have c_82 : E5 (1 + d_42) 11 = .inl (kA 2, 5, .inl tr_59) := q11_59
      have m_83 : (1 + d_42, 11) ∈ RL15 := hm_59 11 (by omega)
      have c_84 : E5 (1 + d_42) 12 = .inl (kA 2, 5, .inl op_59) := q12_59
      have m_85 : (1 + d_42, 12) ∈ RL15 := hm_59 12 (by omega)
      have hg_59 : ∀ w9, w9 < k0_59 → fe_59 w9 = some (ad13 (1 + d_42) (20 + 3 * w9)) ∧ fo_59 w9 = some (ad13 (1 + d_42) (38 + 3 * w9)) ∧ GI kA (ad13 (1 + d_42)) (E5 (1 + d_42)) (fun o => (1 + d_42, o) ∈ RL15) (20 + 3 * w9) (21 + 3 * w9) (22 + 3 * w9) ∧ GI kA (ad13 (1 + d_42)) (E5 (1 + d_42)) (fun o => (1 + d_42, o) ∈ RL15) (38 + 3 * w9) (39 + 3 * w9) (40 + 3 * w9) := hg_59
      obtain ⟨hTT_59, tgr_59⟩ := TD_get hk0_59 hk1_59 hk2_59 hk3_59 c_60 c_62 c_64 c_66 c_68 c_70 c_72 c_74 c_76 c_82 c_84 (hTD1 d_42 (by omega))
      obtain ⟨tfd_59, tnm_59, tsd_59, tk0_59, tf0_59, tk1_59, tf1_59, tk2_59, tk3_59⟩ := id hTT_59
      have ik0_59 : iN (g 5 d_42) = k0_59 := by rw [← tk0_59, iN_nI (by omega)]
      have ik1_59 : iN (g 12 d_42) = k1_59 := by rw [← tk1_59, iN_nI (by omega)]
      have hdmv : mdv g n i = d_42 := by
        obtain ⟨_, _, h20z, hmz⟩ := hTL n hn
        rw [show eL (E5 (20 + n) 1) = mk from by rw [hcA1]; rfl] at h20z hmz
        obtain ⟨dz, hdz, h21z, hvz⟩ := hmz i (by omega)
        rw [c_43] at hvz
        have ez := (rp_inj hD ((hDIs d_42 hd_42).1 0 (by omega)) ((hDIs dz hdz).1 0 (by omega)) (Value.ref.inj hvz)).1
        unfold mdv
        rw [h21z, iN_nI (by omega)]; omega
      obtain ⟨hRQ9, hirs⟩ := CNd_cel (hNd i (by omega)) hdmv c_45
      have hrsd9 : g 12 d_42 = nI rs_42 := by rw [hirs]; exact nI_iN_of tk1_59 (by omega)
      have hkm9 : i < iN (g 20 n) := by rw [hi20]; omega
      have hFc := px_free hD hS hA
      refine va_callv (va_runV (As := []) (rest := []) ⟨hx, hb, hml, hown, hT⟩ (xc_Me_settleReadingX l D kA H.size ad13 E5 RL15 g nd nL n i d_42 rs_42 fr_42 g4_42 g3_42 m_44 c_43 m_46 c_45 m_50 c_49 m_52 c_51 m_58 c_57 m_56 c_55 (by first | assumption | omega) (by first | assumption | omega) (by first | assumption | omega) (by first | assumption | omega) (by first | assumption | omega) (by first | assumption | omega) (by first | assumption | omega) hRQ9 hTD1 hTL hdmv hCB5 hkm9) (cwV 0 hT (wT_V k5v_8 k5v_9 k5v_10 k5v_11 k5v_7) rfl rfl rfl (by decide +kernel) ⟨Nat.le_of_ble_eq_true rfl, Nat.le_of_ble_eq_true rfl⟩) (px_preV hK hP hD m_44 c_43 rfl) rfl rfl hl.1 rfl (lv_room (Nat.le_of_ble_eq_true rfl)) xd_Ly_connect_95 ⟨(Nat.le_of_ble_eq_true rfl), (Nat.le_of_ble_eq_true rfl)⟩) hS (fun q _ h => hFc q h) hFc (fun u87 t H1 locs ht hvm hp88 hB hz1 hk1 hS => ?_)
      obtain ⟨hP1, hD1⟩ := hB
      rw [ht] at hP1
      have hD1 := hD1.weaken (fun _ _ _ h => hFc _ h)
      generalize H1 = H at hP1 hS ⊢
      have hP := hP1
      have hD := hD1
      obtain ⟨E89, rfl⟩ : ∃ z, z = u87 := ⟨_, rfl⟩
      obtain ⟨w90, hp93, p_91, p_92⟩ := hp88
      have p_91 : E89 (20 + n) (17 + 10 * i) = .inl (kA 0, 6, .inl w90) := p_91
      have p_92 : (∀ b2 o2, ¬ (b2 = 20 + n ∧ o2 = 17 + 10 * i) → E89 b2 o2 = E5 b2 o2) := p_92
      have c_94 : E89 (20 + n) 0 = .inr (5, [.int (nI n), pv, .ref (ad13 (20 + n) 1), .int lo]) := (p_92 (20 + n) 0 (by omega)).trans hcA0
      have c_95 : E89 (20 + n) 1 = .inl (kA 6, mk, .inr (.inr (.inr (.inr fm)))) := (p_92 (20 + n) 1 (by omega)).trans hcA1
      have c_96 : E89 (20 + n) (10 + 10 * i) = .inr (6, [.ref (ad13 (20 + n) 0), .ref (ad13 (1 + d_42) 0), .ref (ad13 (20 + n) (11 + 10 * i)), .ref (ad13 (20 + n) (12 + 10 * i)), .ref (ad13 (20 + n) (13 + 10 * i)), .ref (ad13 (20 + n) (14 + 10 * i))]) := (p_92 (20 + n) (10 + 10 * i) (by omega)).trans c_43
      have c_97 : E89 (20 + n) (11 + 10 * i) = .inl (kA 6, rs_42, .inr (.inr (.inr (.inr fr_42)))) := (p_92 (20 + n) (11 + 10 * i) (by omega)).trans c_45
      have c_98 : E89 (20 + n) (12 + 10 * i) = .inr (10, [.ref (ad13 (20 + n) (15 + 10 * i))]) := (p_92 (20 + n) (12 + 10 * i) (by omega)).trans c_47
      have c_99 : E89 (20 + n) (13 + 10 * i) = .inr (10, [.ref (ad13 (20 + n) (16 + 10 * i))]) := (p_92 (20 + n) (13 + 10 * i) (by omega)).trans c_49
      have c_100 : E89 (20 + n) (14 + 10 * i) = .inr (10, [.ref (ad13 (20 + n) (17 + 10 * i))]) := (p_92 (20 + n) (14 + 10 * i) (by omega)).trans c_51
      have c_101 : E89 (20 + n) (15 + 10 * i) = .inl (kA 0, 6, .inl g2_42) := (p_92 (20 + n) (15 + 10 * i) (by omega)).trans c_53
      have c_102 : E89 (20 + n) (16 + 10 * i) = .inl (kA 0, 6, .inl g3_42) := (p_92 (20 + n) (16 + 10 * i) (by omega)).trans c_55
      have c_103 : E89 (1 + d_42) 0 = .inr (7, [.int (nI d_42), .int fd_59, .int nm_59, .ref (ad13 (1 + d_42) 1), .ref (ad13 (1 + d_42) 9), .ref (ad13 (1 + d_42) 10), .ref (ad13 (1 + d_42) 2), .ref (ad13 (1 + d_42) 11), .ref (ad13 (1 + d_42) 12), .ref (ad13 (1 + d_42) 3), .ref (ad13 (1 + d_42) 4), .int sd_59]) := (p_92 (1 + d_42) 0 (by omega)).trans c_60
      have c_104 : E89 (1 + d_42) 1 = .inr (8, [.ref (ad13 (1 + d_42) 5), .int (nI k0_59)]) := (p_92 (1 + d_42) 1 (by omega)).trans c_62
      have c_105 : E89 (1 + d_42) 2 = .inr (8, [.ref (ad13 (1 + d_42) 6), .int (nI k1_59)]) := (p_92 (1 + d_42) 2 (by omega)).trans c_64
      have c_106 : E89 (1 + d_42) 3 = .inr (8, [.ref (ad13 (1 + d_42) 7), .int (nI k2_59)]) := (p_92 (1 + d_42) 3 (by omega)).trans c_66
      have c_107 : E89 (1 + d_42) 4 = .inr (8, [.ref (ad13 (1 + d_42) 8), .int (nI k3_59)]) := (p_92 (1 + d_42) 4 (by omega)).trans c_68
      have c_108 : E89 (1 + d_42) 5 = .inl (kA 0, 6, .inl f0_59) := (p_92 (1 + d_42) 5 (by omega)).trans c_70
      have c_109 : E89 (1 + d_42) 6 = .inl (kA 0, 5, .inl f1_59) := (p_92 (1 + d_42) 6 (by omega)).trans c_72
      have c_110 : E89 (1 + d_42) 7 = .inl (kA 0, 3, .inl f2_59) := (p_92 (1 + d_42) 7 (by omega)).trans c_74
      have c_111 : E89 (1 + d_42) 8 = .inl (kA 0, 3, .inl f3_59) := (p_92 (1 + d_42) 8 (by omega)).trans c_76
      have c_112 : E89 (1 + d_42) 9 = .inl (kA 8, 6, .inr (.inr (.inr (.inr fe_59)))) := (p_92 (1 + d_42) 9 (by omega)).trans c_78
      have c_113 : E89 (1 + d_42) 10 = .inl (kA 8, 6, .inr (.inr (.inr (.inr fo_59)))) := (p_92 (1 + d_42) 10 (by omega)).trans c_80
      have c_114 : E89 (1 + d_42) 11 = .inl (kA 2, 5, .inl tr_59) := (p_92 (1 + d_42) 11 (by omega)).trans c_82
      have c_115 : E89 (1 + d_42) 12 = .inl (kA 2, 5, .inl op_59) := (p_92 (1 + d_42) 12 (by omega)).trans c_84
      have hP : va_P D xcl (rp ad13 E89 RL15) H := hP
      have hD : va_D A (rp ad13 E89 RL15) := hD
      have hRI9 : RI kA (20 + n) E5 E89 := RI.row c_57 p_91 p_92
      have hDIs := DIs_RU hRI9.ru hnd12 hDIs
      have hLIs := LIs_RU hRI9.ru hLIs
      have hfm : ∀ k, k < mk → fm k = some (ad13 (20 + n) (10 + 10 * k)) ∧ MEI kA ad13 E89 RL15 nd n k := fun k h => ⟨(hfm k h).1, MEI_RU hRI9.ru (hfm k h).2⟩
      have hTL : TLas g ad13 E89 nd nL := TLas_ro (fun n9 o9 hn9 ho9 => p_92 (20 + n9) o9 (by omega)) hTL
      have hNd : ∀ j, j < mk → CNd g kA ad13 E89 RL15 nd n j := fun j hj => CNd_RU hRI9.ru (p_92 (20 + n) (11 + 10 * j) (by omega)) (hNd j hj)
      have hCB5 : CBs g E89 (n + 1) := fun la hl k hk t ht => by rw [(p_92 (20 + la) (16 + 10 * k) (by omega))]; exact hCB5 la hl k hk t ht
      have hLB : LBs g E89 n := fun k hk => by rw [(p_92 (20 + n) (15 + 10 * k) (by omega))]; exact hLB k hk
      have hR5 : ∀ j, j < i + 1 → ∀ t, t < 72 → (BS (eA (E89 (20 + n) (17 + 10 * j))) t ↔ rdQ g n (mdv g n j) t) := fun j hj t ht => by
        by_cases q : j = i
        · rw [q, show eA (E89 (20 + n) (17 + 10 * i)) = w90 from by rw [p_91]; rfl, hp93 t ht, hdmv, hirs, RDp_rd]
          have q2 := h75 i (Nat.le_refl _) (by omega) t ht
          rw [show eA (E5 (20 + n) (17 + 10 * i)) = g4_42 from by rw [c_57]; rfl] at q2
          exact ⟨fun z => ⟨z.1.elim (fun y => absurd y q2) id, z.2⟩, fun z => ⟨Or.inr z.1, z.2⟩⟩
        · rw [(p_92 (20 + n) (17 + 10 * j) (by omega))]; exact hR5 j (by omega) t ht
      have h75 : ∀ j, i + 1 ≤ j → j < mk → CN7 E89 n j := fun j hj hj2 => CN7_fr (p_92 (20 + n) (17 + 10 * j) (by omega)) (h75 j (by omega) hj2)
      refine lv_iinc (k := 0) (x := (nI i)) (v := (nI (i + 1))) hx hb xd_Ly_connect_98 hl rfl (xb_inc i 1) (Nat.le_of_ble_eq_true rfl) rfl (fun ls hl => ?_)
      have hl : lv_has ls 4 [(3, .int (nI (i + 1))), (0, .ref (ad13 (20 + n) 0))] := hl
      refine lv_goto (tgt := 80) hx hb xd_Ly_connect_101 (by decide) ?_
      exact ih39 (i + 1, E89) _ _ _ (show mk - (i + 1) < mk - i by omega) (lv_sub hl [0, 1] rfl) hP hD hS ⟨(show (i + 1) ≤ mk from by first | assumption | omega), (show E89 (20 + n) 0 = .inr (5, [.int (nI n), pv, .ref (ad13 (20 + n) 1), .int lo]) from c_94), (show E89 (20 + n) 1 = .inl (kA 6, mk, .inr (.inr (.inr (.inr fm)))) from c_95), (show ∀ b2 o2, ¬ (b2 = 20 + n) → E89 b2 o2 = E b2 o2 from fun b2 o2 h09 => by show E89 b2 o2 = _; rw [p_92 b2 o2 (by omega), hfr b2 o2 (by omega)]), (show DIs kA ad13 E89 RL15 nd from hDIs), (show LIs kA ad13 E89 RL15 nd nL from hLIs), (show ∀ k, k < mk → fm k = some (ad13 (20 + n) (10 + 10 * k)) ∧ MEI kA ad13 E89 RL15 nd n k from hfm), (show ∀ j, j < mk → CNd g kA ad13 E89 RL15 nd n j from hNd), (show TLas g ad13 E89 nd nL from hTL), (show CBs g E89 (n + 1) from hCB5), (show LBs g E89 n from hLB), (show ∀ j, j < (i + 1) → ∀ t, t < 72 → (BS (eA (E89 (20 + n) (17 + 10 * j))) t ↔ rdQ g n (mdv g n j) t) from hR5), (show ∀ j, (i + 1) ≤ j → j < mk → CN7 E89 n j from h75)⟩
  · refine lv_aload_n hx hb xd_Ly_connect_29 rfl (lv_at hl 3 rfl) ?_
    refine px_get (D := D) (ci := 5) (v := .ref (ad13 (20 + n) 1)) (C := xR_Ly) (T := xT_Ly) (N := 4) hx hb hT xi_Ly hown hK.1 hP m_21 hcA0 rfl 2 (by decide) (hT _ k5v_0) (fun _ h9 => h9) rfl xd_Ly_connect_30 ?_
    refine lv_iload_n hx hb xd_Ly_connect_33 rfl (lv_at hl 0 rfl) ?_
    have hM116 := (hfm i (by omega)).2
    refine px_aald (i := i) (x := (some (ad13 (20 + n) (10 + 10 * i)))) hx hb hK.1 hP m_22 hcA1 6 rfl ((hfm i (by omega)).1) (by omega) (by omega) xd_Ly_connect_34 ?_
    obtain ⟨hm_117, d_117, rs_117, fr_117, g2_117, g3_117, g4_117, hd_117, hrs_117, q0_117, q1_117, q2_117, q3_117, q4_117, q5_117, q6_117, q7_117⟩ := id hM116
    have c_118 : E1 (20 + n) (10 + 10 * i) = .inr (6, [.ref (ad13 (20 + n) 0), .ref (ad13 (1 + d_117) 0), .ref (ad13 (20 + n) (11 + 10 * i)), .ref (ad13 (20 + n) (12 + 10 * i)), .ref (ad13 (20 + n) (13 + 10 * i)), .ref (ad13 (20 + n) (14 + 10 * i))]) := q0_117
    have m_119 : (20 + n, 10 + 10 * i) ∈ RL15 := hm_117 0 (by omega)
    have c_120 : E1 (20 + n) (11 + 10 * i) = .inl (kA 6, rs_117, .inr (.inr (.inr (.inr fr_117)))) := q1_117
    have m_121 : (20 + n, 11 + 10 * i) ∈ RL15 := hm_117 1 (by omega)
    have c_122 : E1 (20 + n) (12 + 10 * i) = .inr (10, [.ref (ad13 (20 + n) (15 + 10 * i))]) := q2_117
    have m_123 : (20 + n, 12 + 10 * i) ∈ RL15 := hm_117 2 (by omega)
    have c_124 : E1 (20 + n) (13 + 10 * i) = .inr (10, [.ref (ad13 (20 + n) (16 + 10 * i))]) := q3_117
    have m_125 : (20 + n, 13 + 10 * i) ∈ RL15 := hm_117 3 (by omega)
    have c_126 : E1 (20 + n) (14 + 10 * i) = .inr (10, [.ref (ad13 (20 + n) (17 + 10 * i))]) := q4_117
    have m_127 : (20 + n, 14 + 10 * i) ∈ RL15 := hm_117 4 (by omega)
    have c_128 : E1 (20 + n) (15 + 10 * i) = .inl (kA 0, 6, .inl g2_117) := q5_117
    have m_129 : (20 + n, 15 + 10 * i) ∈ RL15 := hm_117 5 (by omega)
    have c_130 : E1 (20 + n) (16 + 10 * i) = .inl (kA 0, 6, .inl g3_117) := q6_117
    have m_131 : (20 + n, 16 + 10 * i) ∈ RL15 := hm_117 6 (by omega)
    have c_132 : E1 (20 + n) (17 + 10 * i) = .inl (kA 0, 6, .inl g4_117) := q7_117
    have m_133 : (20 + n, 17 + 10 * i) ∈ RL15 := hm_117 7 (by omega)
    obtain ⟨hm_134, fd_134, nm_134, sd_134, k0_134, k1_134, k2_134, k3_134, f0_134, f1_134, f2_134, f3_134, fe_134, fo_134, tr_134, op_134, hk0_134, hk1_134, hk2_134, hk3_134, q0_134, q1_134, q2_134, q3_134, q4_134, q5_134, q6_134, q7_134, q8_134, q9_134, q10_134, q11_134, q12_134, hg_134⟩ := id (hDIs d_117 (by omega))
    have c_135 : E1 (1 + d_117) 0 = .inr (7, [.int (nI d_117), .int fd_134, .int nm_134, .ref (ad13 (1 + d_117) 1), .ref (ad13 (1 + d_117) 9), .ref (ad13 (1 + d_117) 10), .ref (ad13 (1 + d_117) 2), .ref (ad13 (1 + d_117) 11), .ref (ad13 (1 + d_117) 12), .ref (ad13 (1 + d_117) 3), .ref (ad13 (1 + d_117) 4), .int sd_134]) := q0_134
    have m_136 : (1 + d_117, 0) ∈ RL15 := hm_134 0 (by omega)
    have c_137 : E1 (1 + d_117) 1 = .inr (8, [.ref (ad13 (1 + d_117) 5), .int (nI k0_134)]) := q1_134
    have m_138 : (1 + d_117, 1) ∈ RL15 := hm_134 1 (by omega)
    have c_139 : E1 (1 + d_117) 2 = .inr (8, [.ref (ad13 (1 + d_117) 6), .int (nI k1_134)]) := q2_134
    have m_140 : (1 + d_117, 2) ∈ RL15 := hm_134 2 (by omega)
    have c_141 : E1 (1 + d_117) 3 = .inr (8, [.ref (ad13 (1 + d_117) 7), .int (nI k2_134)]) := q3_134
    have m_142 : (1 + d_117, 3) ∈ RL15 := hm_134 3 (by omega)
    have c_143 : E1 (1 + d_117) 4 = .inr (8, [.ref (ad13 (1 + d_117) 8), .int (nI k3_134)]) := q4_134
    have m_144 : (1 + d_117, 4) ∈ RL15 := hm_134 4 (by omega)
    have c_145 : E1 (1 + d_117) 5 = .inl (kA 0, 6, .inl f0_134) := q5_134
    have m_146 : (1 + d_117, 5) ∈ RL15 := hm_134 5 (by omega)
    have c_147 : E1 (1 + d_117) 6 = .inl (kA 0, 5, .inl f1_134) := q6_134
    have m_148 : (1 + d_117, 6) ∈ RL15 := hm_134 6 (by omega)
    have c_149 : E1 (1 + d_117) 7 = .inl (kA 0, 3, .inl f2_134) := q7_134
    have m_150 : (1 + d_117, 7) ∈ RL15 := hm_134 7 (by omega)
    have c_151 : E1 (1 + d_117) 8 = .inl (kA 0, 3, .inl f3_134) := q8_134
    have m_152 : (1 + d_117, 8) ∈ RL15 := hm_134 8 (by omega)
    have c_153 : E1 (1 + d_117) 9 = .inl (kA 8, 6, .inr (.inr (.inr (.inr fe_134)))) := q9_134
    have m_154 : (1 + d_117, 9) ∈ RL15 := hm_134 9 (by omega)
    have c_155 : E1 (1 + d_117) 10 = .inl (kA 8, 6, .inr (.inr (.inr (.inr fo_134)))) := q10_134
    have m_156 : (1 + d_117, 10) ∈ RL15 := hm_134 10 (by omega)
    have c_157 : E1 (1 + d_117) 11 = .inl (kA 2, 5, .inl tr_134) := q11_134
    have m_158 : (1 + d_117, 11) ∈ RL15 := hm_134 11 (by omega)
    have c_159 : E1 (1 + d_117) 12 = .inl (kA 2, 5, .inl op_134) := q12_134
    have m_160 : (1 + d_117, 12) ∈ RL15 := hm_134 12 (by omega)
    have hg_134 : ∀ w9, w9 < k0_134 → fe_134 w9 = some (ad13 (1 + d_117) (20 + 3 * w9)) ∧ fo_134 w9 = some (ad13 (1 + d_117) (38 + 3 * w9)) ∧ GI kA (ad13 (1 + d_117)) (E1 (1 + d_117)) (fun o => (1 + d_117, o) ∈ RL15) (20 + 3 * w9) (21 + 3 * w9) (22 + 3 * w9) ∧ GI kA (ad13 (1 + d_117)) (E1 (1 + d_117)) (fun o => (1 + d_117, o) ∈ RL15) (38 + 3 * w9) (39 + 3 * w9) (40 + 3 * w9) := hg_134
    obtain ⟨hTT_134, tgr_134⟩ := TD_get hk0_134 hk1_134 hk2_134 hk3_134 c_135 c_137 c_139 c_141 c_143 c_145 c_147 c_149 c_151 c_157 c_159 (hTD1 d_117 (by omega))
    obtain ⟨tfd_134, tnm_134, tsd_134, tk0_134, tf0_134, tk1_134, tf1_134, tk2_134, tk3_134⟩ := id hTT_134
    have ik0_134 : iN (g 5 d_117) = k0_134 := by rw [← tk0_134, iN_nI (by omega)]
    have ik1_134 : iN (g 12 d_117) = k1_134 := by rw [← tk1_134, iN_nI (by omega)]
    have hdmv : mdv g n i = d_117 := by
      obtain ⟨_, _, h20z, hmz⟩ := hTL n hn
      rw [show eL (E1 (20 + n) 1) = mk from by rw [hcA1]; rfl] at h20z hmz
      obtain ⟨dz, hdz, h21z, hvz⟩ := hmz i (by omega)
      rw [c_118] at hvz
      have ez := (rp_inj hD ((hDIs d_117 hd_117).1 0 (by omega)) ((hDIs dz hdz).1 0 (by omega)) (Value.ref.inj hvz)).1
      unfold mdv
      rw [h21z, iN_nI (by omega)]; omega
    have hirs : rs_117 = iN (g 12 d_117) := by
      have q := (hC0 i (Nat.le_refl _) (by omega)).1
      rw [hdmv, c_120] at q; exact q
    have hrsd9 : g 12 d_117 = nI rs_117 := by rw [hirs]; exact nI_iN_of tk1_134 (by omega)
    have hkm9 : i < iN (g 20 n) := by rw [hi20]; omega
    have hFc := px_free hD hS hA
    refine va_callv (va_runV (As := []) (rest := []) ⟨hx, hb, hml, hown, hT⟩ (xc_Me_takeFirstStepsX l D kA H.size ad13 E1 RL15 g nd nL n i d_117 rs_117 fr_117 g2_117 g3_117 m_119 c_118 m_121 c_120 m_123 c_122 m_125 c_124 m_129 c_128 m_131 c_130 (by first | assumption | omega) (by first | assumption | omega) (by first | assumption | omega) (by first | assumption | omega) (by first | assumption | omega) (by first | assumption | omega) (by first | assumption | omega) hTD1 hTL hrsd9 hdmv hCB1 hkm9) (cwV 0 hT (wT_V k5v_13 k5v_14 k5v_15 k5v_11 k5v_12) rfl rfl rfl (by decide +kernel) ⟨Nat.le_of_ble_eq_true rfl, Nat.le_of_ble_eq_true rfl⟩) (px_preV hK hP hD m_119 c_118 rfl) rfl rfl hl.1 rfl (lv_room (Nat.le_of_ble_eq_true rfl)) xd_Ly_connect_35 ⟨(Nat.le_of_ble_eq_true rfl), (Nat.le_of_ble_eq_true rfl)⟩) hS (fun q _ h => hFc q h) hFc (fun u162 t H1 locs ht hvm hp163 hB hz1 hk1 hS => ?_)
    obtain ⟨hP1, hD1⟩ := hB
    rw [ht] at hP1
    have hD1 := hD1.weaken (fun _ _ _ h => hFc _ h)
    generalize H1 = H at hP1 hS ⊢
    have hP := hP1
    have hD := hD1
    obtain ⟨E164, rfl⟩ : ∃ z, z = u162 := ⟨_, rfl⟩
    obtain ⟨w165, w166, w167, hp172, p_168, p_169, p_170, p_171⟩ := hp163
    have p_168 : E164 (20 + n) (11 + 10 * i) = .inl (kA 6, rs_117, .inr (.inr (.inr (.inr w165)))) := p_168
    have p_169 : E164 (20 + n) (15 + 10 * i) = .inl (kA 0, 6, .inl w166) := p_169
    have p_170 : E164 (20 + n) (16 + 10 * i) = .inl (kA 0, 6, .inl w167) := p_170
    have p_171 : (∀ b2 o2, ¬ (b2 = 20 + n ∧ o2 = 11 + 10 * i) → ¬ (b2 = 20 + n ∧ o2 = 15 + 10 * i) → ¬ (b2 = 20 + n ∧ o2 = 16 + 10 * i) → E164 b2 o2 = E1 b2 o2) := p_171
    have c_173 : E164 (20 + n) 0 = .inr (5, [.int (nI n), pv, .ref (ad13 (20 + n) 1), .int lo]) := (p_171 (20 + n) 0 (by omega) (by omega) (by omega)).trans hcA0
    have c_174 : E164 (20 + n) 1 = .inl (kA 6, mk, .inr (.inr (.inr (.inr fm)))) := (p_171 (20 + n) 1 (by omega) (by omega) (by omega)).trans hcA1
    have c_175 : E164 (20 + n) 2 = .inl (kA 7, mk, .inr (.inr (.inr (.inr fl1)))) := (p_171 (20 + n) 2 (by omega) (by omega) (by omega)).trans hcA2
    have c_176 : E164 (20 + n) 3 = .inl (kA 7, mk, .inr (.inr (.inr (.inr fc1)))) := (p_171 (20 + n) 3 (by omega) (by omega) (by omega)).trans hcA3
    have c_177 : E164 (20 + n) (10 + 10 * i) = .inr (6, [.ref (ad13 (20 + n) 0), .ref (ad13 (1 + d_117) 0), .ref (ad13 (20 + n) (11 + 10 * i)), .ref (ad13 (20 + n) (12 + 10 * i)), .ref (ad13 (20 + n) (13 + 10 * i)), .ref (ad13 (20 + n) (14 + 10 * i))]) := (p_171 (20 + n) (10 + 10 * i) (by omega) (by omega) (by omega)).trans c_118
    have c_178 : E164 (20 + n) (12 + 10 * i) = .inr (10, [.ref (ad13 (20 + n) (15 + 10 * i))]) := (p_171 (20 + n) (12 + 10 * i) (by omega) (by omega) (by omega)).trans c_122
    have c_179 : E164 (20 + n) (13 + 10 * i) = .inr (10, [.ref (ad13 (20 + n) (16 + 10 * i))]) := (p_171 (20 + n) (13 + 10 * i) (by omega) (by omega) (by omega)).trans c_124
    have c_180 : E164 (20 + n) (14 + 10 * i) = .inr (10, [.ref (ad13 (20 + n) (17 + 10 * i))]) := (p_171 (20 + n) (14 + 10 * i) (by omega) (by omega) (by omega)).trans c_126
    have c_181 : E164 (20 + n) (17 + 10 * i) = .inl (kA 0, 6, .inl g4_117) := (p_171 (20 + n) (17 + 10 * i) (by omega) (by omega) (by omega)).trans c_132
    have c_182 : E164 (1 + d_117) 0 = .inr (7, [.int (nI d_117), .int fd_134, .int nm_134, .ref (ad13 (1 + d_117) 1), .ref (ad13 (1 + d_117) 9), .ref (ad13 (1 + d_117) 10), .ref (ad13 (1 + d_117) 2), .ref (ad13 (1 + d_117) 11), .ref (ad13 (1 + d_117) 12), .ref (ad13 (1 + d_117) 3), .ref (ad13 (1 + d_117) 4), .int sd_134]) := (p_171 (1 + d_117) 0 (by omega) (by omega) (by omega)).trans c_135
    have c_183 : E164 (1 + d_117) 1 = .inr (8, [.ref (ad13 (1 + d_117) 5), .int (nI k0_134)]) := (p_171 (1 + d_117) 1 (by omega) (by omega) (by omega)).trans c_137
    have c_184 : E164 (1 + d_117) 2 = .inr (8, [.ref (ad13 (1 + d_117) 6), .int (nI k1_134)]) := (p_171 (1 + d_117) 2 (by omega) (by omega) (by omega)).trans c_139
    have c_185 : E164 (1 + d_117) 3 = .inr (8, [.ref (ad13 (1 + d_117) 7), .int (nI k2_134)]) := (p_171 (1 + d_117) 3 (by omega) (by omega) (by omega)).trans c_141
    have c_186 : E164 (1 + d_117) 4 = .inr (8, [.ref (ad13 (1 + d_117) 8), .int (nI k3_134)]) := (p_171 (1 + d_117) 4 (by omega) (by omega) (by omega)).trans c_143
    have c_187 : E164 (1 + d_117) 5 = .inl (kA 0, 6, .inl f0_134) := (p_171 (1 + d_117) 5 (by omega) (by omega) (by omega)).trans c_145
    have c_188 : E164 (1 + d_117) 6 = .inl (kA 0, 5, .inl f1_134) := (p_171 (1 + d_117) 6 (by omega) (by omega) (by omega)).trans c_147
    have c_189 : E164 (1 + d_117) 7 = .inl (kA 0, 3, .inl f2_134) := (p_171 (1 + d_117) 7 (by omega) (by omega) (by omega)).trans c_149
    have c_190 : E164 (1 + d_117) 8 = .inl (kA 0, 3, .inl f3_134) := (p_171 (1 + d_117) 8 (by omega) (by omega) (by omega)).trans c_151
    have c_191 : E164 (1 + d_117) 9 = .inl (kA 8, 6, .inr (.inr (.inr (.inr fe_134)))) := (p_171 (1 + d_117) 9 (by omega) (by omega) (by omega)).trans c_153
    have c_192 : E164 (1 + d_117) 10 = .inl (kA 8, 6, .inr (.inr (.inr (.inr fo_134)))) := (p_171 (1 + d_117) 10 (by omega) (by omega) (by omega)).trans c_155
    have c_193 : E164 (1 + d_117) 11 = .inl (kA 2, 5, .inl tr_134) := (p_171 (1 + d_117) 11 (by omega) (by omega) (by omega)).trans c_157
    have c_194 : E164 (1 + d_117) 12 = .inl (kA 2, 5, .inl op_134) := (p_171 (1 + d_117) 12 (by omega) (by omega) (by omega)).trans c_159
    have hP : va_P D xcl (rp ad13 E164 RL15) H := hP
    have hD : va_D A (rp ad13 E164 RL15) := hD
    have hRU9 : RU kA E1 E164 := RU3 (b := 20 + n) (k := i) (by omega) c_120 c_128 c_130 p_168 p_169 p_170 p_171
    have hDIs := DIs_RU hRU9 hnd12 hDIs
    have hLIs := LIs_RU hRU9 hLIs
    have hfm : ∀ k, k < mk → fm k = some (ad13 (20 + n) (10 + 10 * k)) ∧ MEI kA ad13 E164 RL15 nd n k := fun k h => ⟨(hfm k h).1, MEI_RU hRU9 (hfm k h).2⟩
    have hTL : TLas g ad13 E164 nd nL := TLas_ro (fun n9 o9 hn9 ho9 => p_171 (20 + n9) o9 (by omega) (by omega) (by omega)) hTL
    have hC1 : ∀ j, j < i → CN1 g E164 n j ∧ CNd g kA ad13 E164 RL15 nd n j := fun j hj => ⟨CN1_fr (p_171 (20 + n) (15 + 10 * j) (by omega) (by omega) (by omega)) (p_171 (20 + n) (16 + 10 * j) (by omega) (by omega) (by omega)) (hC1 j hj).1, CNd_RU hRU9 (p_171 (20 + n) (11 + 10 * j) (by omega) (by omega) (by omega)) (hC1 j hj).2⟩
    have hC0i := hC0 i (Nat.le_refl _) (by omega)
    have hC0 : ∀ j, i + 1 ≤ j → j < mk → CN0 g E164 n j := fun j hj hj2 => CN0_fr (p_171 (20 + n) (11 + 10 * j) (by omega) (by omega) (by omega)) (p_171 (20 + n) (15 + 10 * j) (by omega) (by omega) (by omega)) (p_171 (20 + n) (16 + 10 * j) (by omega) (by omega) (by omega)) (hC0 j (by omega) hj2)
    have hC7 : ∀ j, j < mk → CN7 E164 n j := fun j hj => CN7_fr (p_171 (20 + n) (17 + 10 * j) (by omega) (by omega) (by omega)) (hC7 j hj)
    have hN1 : CN1 g E164 n i := fun t ht => ⟨(by
        unfold LSr
        rw [show eA (E164 (20 + n) (15 + 10 * i)) = w166 from by rw [p_169]; rfl, hp172.2.1 t ht, hdmv, ← hirs]
        have q := (hC0i.2 t ht).1
        rw [show eA (E1 (20 + n) (15 + 10 * i)) = g2_117 from by rw [c_128]; rfl] at q
        exact ⟨fun z => z.elim (fun y => absurd y q) id, Or.inr⟩), (by
        unfold CSr
        rw [show eA (E164 (20 + n) (16 + 10 * i)) = w167 from by rw [p_170]; rfl, hp172.2.2 t ht, hdmv, ← hirs]
        have q := (hC0i.2 t ht).2
        rw [show eA (E1 (20 + n) (16 + 10 * i)) = g3_117 from by rw [c_130]; rfl] at q
        exact ⟨fun z => z.elim (fun y => absurd y q) id, Or.inr⟩)⟩
    have hNdi : CNd g kA ad13 E164 RL15 nd n i := ⟨w165, by rw [p_168, hdmv, ← hirs], by rw [hdmv, ← hirs]; exact hp172.1⟩
    refine lv_aload_n hx hb xd_Ly_connect_38 rfl (lv_at hl 2 rfl) ?_
    refine lv_iload_n hx hb xd_Ly_connect_39 rfl (lv_at hl 0 rfl) ?_
    refine lv_aload_n hx hb xd_Ly_connect_40 rfl (lv_at hl 3 rfl) ?_
    refine px_get (D := D) (ci := 5) (v := .ref (ad13 (20 + n) 1)) (C := xR_Ly) (T := xT_Ly) (N := 4) hx hb hT xi_Ly hown hK.1 hP m_21 c_173 rfl 2 (by decide) (hT _ k5v_0) (fun _ h9 => h9) rfl xd_Ly_connect_41 ?_
    refine lv_iload_n hx hb xd_Ly_connect_44 rfl (lv_at hl 0 rfl) ?_
    refine px_aald (i := i) (x := (some (ad13 (20 + n) (10 + 10 * i)))) hx hb hK.1 hP m_22 c_174 6 rfl ((hfm i (by omega)).1) (by omega) (by omega) xd_Ly_connect_45 ?_
    refine px_get (D := D) (ci := 6) (v := .ref (ad13 (20 + n) (12 + 10 * i))) (C := xR_Me) (T := xT_Me) (N := 6) hx hb hT xi_Me hown hK.1 hP m_119 c_177 rfl 3 (by decide) (hT _ k5v_16) (fun _ h9 => h9) rfl xd_Ly_connect_46 ?_
    refine px_aast (i := i) (r := (xR_Re, xT_Re, 1)) hx hb hK.1 hP hD hS m_23 c_175 7 rfl m_123 c_178 rfl (by omega) (by omega) xd_Ly_connect_49 (fun H locs hP hD hS => ?_)
    have hP : va_P D xcl (rp ad13 (up2 E164 (20 + n) 2 (.inl (kA 7, mk, .inr (.inr (.inr (.inr (va_up fl1 i (some (ad13 (20 + n) (12 + 10 * i)))))))))) RL15) H := hP
    have hD : va_D A (rp ad13 (up2 E164 (20 + n) 2 (.inl (kA 7, mk, .inr (.inr (.inr (.inr (va_up fl1 i (some (ad13 (20 + n) (12 + 10 * i)))))))))) RL15) := hD
    generalize hE196 : up2 E164 (20 + n) 2 (.inl (kA 7, mk, .inr (.inr (.inr (.inr (va_up fl1 i (some (ad13 (20 + n) (12 + 10 * i))))))))) = E195 at hP hD
    have fE197 : ∀ b2 o2, ¬ (b2 = 20 + n ∧ o2 = 2) → E195 b2 o2 = E164 b2 o2 := fun b2 o2 h9 => by rw [← hE196]; exact up2_ne (by omega)
    have c_198 : E195 (20 + n) 2 = .inl (kA 7, mk, .inr (.inr (.inr (.inr (va_up fl1 i (some (ad13 (20 + n) (12 + 10 * i)))))))) := by rw [← hE196]; exact up2_eq
    have c_199 : E195 (20 + n) (11 + 10 * i) = .inl (kA 6, rs_117, .inr (.inr (.inr (.inr w165)))) := (fE197 (20 + n) (11 + 10 * i) (by omega)).trans p_168
    have c_200 : E195 (20 + n) (15 + 10 * i) = .inl (kA 0, 6, .inl w166) := (fE197 (20 + n) (15 + 10 * i) (by omega)).trans p_169
    have c_201 : E195 (20 + n) (16 + 10 * i) = .inl (kA 0, 6, .inl w167) := (fE197 (20 + n) (16 + 10 * i) (by omega)).trans p_170
    have c_202 : E195 (20 + n) 0 = .inr (5, [.int (nI n), pv, .ref (ad13 (20 + n) 1), .int lo]) := (fE197 (20 + n) 0 (by omega)).trans c_173
    have c_203 : E195 (20 + n) 1 = .inl (kA 6, mk, .inr (.inr (.inr (.inr fm)))) := (fE197 (20 + n) 1 (by omega)).trans c_174
    have c_204 : E195 (20 + n) 3 = .inl (kA 7, mk, .inr (.inr (.inr (.inr fc1)))) := (fE197 (20 + n) 3 (by omega)).trans c_176
    have c_205 : E195 (20 + n) (10 + 10 * i) = .inr (6, [.ref (ad13 (20 + n) 0), .ref (ad13 (1 + d_117) 0), .ref (ad13 (20 + n) (11 + 10 * i)), .ref (ad13 (20 + n) (12 + 10 * i)), .ref (ad13 (20 + n) (13 + 10 * i)), .ref (ad13 (20 + n) (14 + 10 * i))]) := (fE197 (20 + n) (10 + 10 * i) (by omega)).trans c_177
    have c_206 : E195 (20 + n) (12 + 10 * i) = .inr (10, [.ref (ad13 (20 + n) (15 + 10 * i))]) := (fE197 (20 + n) (12 + 10 * i) (by omega)).trans c_178
    have c_207 : E195 (20 + n) (13 + 10 * i) = .inr (10, [.ref (ad13 (20 + n) (16 + 10 * i))]) := (fE197 (20 + n) (13 + 10 * i) (by omega)).trans c_179
    have c_208 : E195 (20 + n) (14 + 10 * i) = .inr (10, [.ref (ad13 (20 + n) (17 + 10 * i))]) := (fE197 (20 + n) (14 + 10 * i) (by omega)).trans c_180
    have c_209 : E195 (20 + n) (17 + 10 * i) = .inl (kA 0, 6, .inl g4_117) := (fE197 (20 + n) (17 + 10 * i) (by omega)).trans c_181
    have c_210 : E195 (1 + d_117) 0 = .inr (7, [.int (nI d_117), .int fd_134, .int nm_134, .ref (ad13 (1 + d_117) 1), .ref (ad13 (1 + d_117) 9), .ref (ad13 (1 + d_117) 10), .ref (ad13 (1 + d_117) 2), .ref (ad13 (1 + d_117) 11), .ref (ad13 (1 + d_117) 12), .ref (ad13 (1 + d_117) 3), .ref (ad13 (1 + d_117) 4), .int sd_134]) := (fE197 (1 + d_117) 0 (by omega)).trans c_182
    have c_211 : E195 (1 + d_117) 1 = .inr (8, [.ref (ad13 (1 + d_117) 5), .int (nI k0_134)]) := (fE197 (1 + d_117) 1 (by omega)).trans c_183
    have c_212 : E195 (1 + d_117) 2 = .inr (8, [.ref (ad13 (1 + d_117) 6), .int (nI k1_134)]) := (fE197 (1 + d_117) 2 (by omega)).trans c_184
    have c_213 : E195 (1 + d_117) 3 = .inr (8, [.ref (ad13 (1 + d_117) 7), .int (nI k2_134)]) := (fE197 (1 + d_117) 3 (by omega)).trans c_185
    have c_214 : E195 (1 + d_117) 4 = .inr (8, [.ref (ad13 (1 + d_117) 8), .int (nI k3_134)]) := (fE197 (1 + d_117) 4 (by omega)).trans c_186
    have c_215 : E195 (1 + d_117) 5 = .inl (kA 0, 6, .inl f0_134) := (fE197 (1 + d_117) 5 (by omega)).trans c_187
    have c_216 : E195 (1 + d_117) 6 = .inl (kA 0, 5, .inl f1_134) := (fE197 (1 + d_117) 6 (by omega)).trans c_188
    have c_217 : E195 (1 + d_117) 7 = .inl (kA 0, 3, .inl f2_134) := (fE197 (1 + d_117) 7 (by omega)).trans c_189
    have c_218 : E195 (1 + d_117) 8 = .inl (kA 0, 3, .inl f3_134) := (fE197 (1 + d_117) 8 (by omega)).trans c_190
    have c_219 : E195 (1 + d_117) 9 = .inl (kA 8, 6, .inr (.inr (.inr (.inr fe_134)))) := (fE197 (1 + d_117) 9 (by omega)).trans c_191
    have c_220 : E195 (1 + d_117) 10 = .inl (kA 8, 6, .inr (.inr (.inr (.inr fo_134)))) := (fE197 (1 + d_117) 10 (by omega)).trans c_192
    have c_221 : E195 (1 + d_117) 11 = .inl (kA 2, 5, .inl tr_134) := (fE197 (1 + d_117) 11 (by omega)).trans c_193
    have c_222 : E195 (1 + d_117) 12 = .inl (kA 2, 5, .inl op_134) := (fE197 (1 + d_117) 12 (by omega)).trans c_194
    refine lv_aload_n hx hb xd_Ly_connect_50 rfl (lv_at hl 1 rfl) ?_
    refine lv_iload_n hx hb xd_Ly_connect_51 rfl (lv_at hl 0 rfl) ?_
    refine lv_aload_n hx hb xd_Ly_connect_52 rfl (lv_at hl 3 rfl) ?_
    refine px_get (D := D) (ci := 5) (v := .ref (ad13 (20 + n) 1)) (C := xR_Ly) (T := xT_Ly) (N := 4) hx hb hT xi_Ly hown hK.1 hP m_21 c_202 rfl 2 (by decide) (hT _ k5v_0) (fun _ h9 => h9) rfl xd_Ly_connect_53 ?_
    refine lv_iload_n hx hb xd_Ly_connect_56 rfl (lv_at hl 0 rfl) ?_
    refine px_aald (i := i) (x := (some (ad13 (20 + n) (10 + 10 * i)))) hx hb hK.1 hP m_22 c_203 6 rfl ((hfm i (by omega)).1) (by omega) (by omega) xd_Ly_connect_57 ?_
    refine px_get (D := D) (ci := 6) (v := .ref (ad13 (20 + n) (13 + 10 * i))) (C := xR_Me) (T := xT_Me) (N := 6) hx hb hT xi_Me hown hK.1 hP m_119 c_205 rfl 4 (by decide) (hT _ k5v_17) (fun _ h9 => h9) rfl xd_Ly_connect_58 ?_
    refine px_aast (i := i) (r := (xR_Re, xT_Re, 1)) hx hb hK.1 hP hD hS m_20 c_204 7 rfl m_125 c_207 rfl (by omega) (by omega) xd_Ly_connect_61 (fun H locs hP hD hS => ?_)
    have hP : va_P D xcl (rp ad13 (up2 E195 (20 + n) 3 (.inl (kA 7, mk, .inr (.inr (.inr (.inr (va_up fc1 i (some (ad13 (20 + n) (13 + 10 * i)))))))))) RL15) H := hP
    have hD : va_D A (rp ad13 (up2 E195 (20 + n) 3 (.inl (kA 7, mk, .inr (.inr (.inr (.inr (va_up fc1 i (some (ad13 (20 + n) (13 + 10 * i)))))))))) RL15) := hD
    generalize hE224 : up2 E195 (20 + n) 3 (.inl (kA 7, mk, .inr (.inr (.inr (.inr (va_up fc1 i (some (ad13 (20 + n) (13 + 10 * i))))))))) = E223 at hP hD
    have fE225 : ∀ b2 o2, ¬ (b2 = 20 + n ∧ o2 = 3) → E223 b2 o2 = E195 b2 o2 := fun b2 o2 h9 => by rw [← hE224]; exact up2_ne (by omega)
    have c_226 : E223 (20 + n) 3 = .inl (kA 7, mk, .inr (.inr (.inr (.inr (va_up fc1 i (some (ad13 (20 + n) (13 + 10 * i)))))))) := by rw [← hE224]; exact up2_eq
    have c_227 : E223 (20 + n) 2 = .inl (kA 7, mk, .inr (.inr (.inr (.inr (va_up fl1 i (some (ad13 (20 + n) (12 + 10 * i)))))))) := (fE225 (20 + n) 2 (by omega)).trans c_198
    have c_228 : E223 (20 + n) (11 + 10 * i) = .inl (kA 6, rs_117, .inr (.inr (.inr (.inr w165)))) := (fE225 (20 + n) (11 + 10 * i) (by omega)).trans c_199
    have c_229 : E223 (20 + n) (15 + 10 * i) = .inl (kA 0, 6, .inl w166) := (fE225 (20 + n) (15 + 10 * i) (by omega)).trans c_200
    have c_230 : E223 (20 + n) (16 + 10 * i) = .inl (kA 0, 6, .inl w167) := (fE225 (20 + n) (16 + 10 * i) (by omega)).trans c_201
    have c_231 : E223 (20 + n) 0 = .inr (5, [.int (nI n), pv, .ref (ad13 (20 + n) 1), .int lo]) := (fE225 (20 + n) 0 (by omega)).trans c_202
    have c_232 : E223 (20 + n) 1 = .inl (kA 6, mk, .inr (.inr (.inr (.inr fm)))) := (fE225 (20 + n) 1 (by omega)).trans c_203
    have c_233 : E223 (20 + n) (10 + 10 * i) = .inr (6, [.ref (ad13 (20 + n) 0), .ref (ad13 (1 + d_117) 0), .ref (ad13 (20 + n) (11 + 10 * i)), .ref (ad13 (20 + n) (12 + 10 * i)), .ref (ad13 (20 + n) (13 + 10 * i)), .ref (ad13 (20 + n) (14 + 10 * i))]) := (fE225 (20 + n) (10 + 10 * i) (by omega)).trans c_205
    have c_234 : E223 (20 + n) (12 + 10 * i) = .inr (10, [.ref (ad13 (20 + n) (15 + 10 * i))]) := (fE225 (20 + n) (12 + 10 * i) (by omega)).trans c_206
    have c_235 : E223 (20 + n) (13 + 10 * i) = .inr (10, [.ref (ad13 (20 + n) (16 + 10 * i))]) := (fE225 (20 + n) (13 + 10 * i) (by omega)).trans c_207
    have c_236 : E223 (20 + n) (14 + 10 * i) = .inr (10, [.ref (ad13 (20 + n) (17 + 10 * i))]) := (fE225 (20 + n) (14 + 10 * i) (by omega)).trans c_208
    have c_237 : E223 (20 + n) (17 + 10 * i) = .inl (kA 0, 6, .inl g4_117) := (fE225 (20 + n) (17 + 10 * i) (by omega)).trans c_209
    have c_238 : E223 (1 + d_117) 0 = .inr (7, [.int (nI d_117), .int fd_134, .int nm_134, .ref (ad13 (1 + d_117) 1), .ref (ad13 (1 + d_117) 9), .ref (ad13 (1 + d_117) 10), .ref (ad13 (1 + d_117) 2), .ref (ad13 (1 + d_117) 11), .ref (ad13 (1 + d_117) 12), .ref (ad13 (1 + d_117) 3), .ref (ad13 (1 + d_117) 4), .int sd_134]) := (fE225 (1 + d_117) 0 (by omega)).trans c_210
    have c_239 : E223 (1 + d_117) 1 = .inr (8, [.ref (ad13 (1 + d_117) 5), .int (nI k0_134)]) := (fE225 (1 + d_117) 1 (by omega)).trans c_211
    have c_240 : E223 (1 + d_117) 2 = .inr (8, [.ref (ad13 (1 + d_117) 6), .int (nI k1_134)]) := (fE225 (1 + d_117) 2 (by omega)).trans c_212
    have c_241 : E223 (1 + d_117) 3 = .inr (8, [.ref (ad13 (1 + d_117) 7), .int (nI k2_134)]) := (fE225 (1 + d_117) 3 (by omega)).trans c_213
    have c_242 : E223 (1 + d_117) 4 = .inr (8, [.ref (ad13 (1 + d_117) 8), .int (nI k3_134)]) := (fE225 (1 + d_117) 4 (by omega)).trans c_214
    have c_243 : E223 (1 + d_117) 5 = .inl (kA 0, 6, .inl f0_134) := (fE225 (1 + d_117) 5 (by omega)).trans c_215
    have c_244 : E223 (1 + d_117) 6 = .inl (kA 0, 5, .inl f1_134) := (fE225 (1 + d_117) 6 (by omega)).trans c_216
    have c_245 : E223 (1 + d_117) 7 = .inl (kA 0, 3, .inl f2_134) := (fE225 (1 + d_117) 7 (by omega)).trans c_217
    have c_246 : E223 (1 + d_117) 8 = .inl (kA 0, 3, .inl f3_134) := (fE225 (1 + d_117) 8 (by omega)).trans c_218
    have c_247 : E223 (1 + d_117) 9 = .inl (kA 8, 6, .inr (.inr (.inr (.inr fe_134)))) := (fE225 (1 + d_117) 9 (by omega)).trans c_219
    have c_248 : E223 (1 + d_117) 10 = .inl (kA 8, 6, .inr (.inr (.inr (.inr fo_134)))) := (fE225 (1 + d_117) 10 (by omega)).trans c_220
    have c_249 : E223 (1 + d_117) 11 = .inl (kA 2, 5, .inl tr_134) := (fE225 (1 + d_117) 11 (by omega)).trans c_221
    have c_250 : E223 (1 + d_117) 12 = .inl (kA 2, 5, .inl op_134) := (fE225 (1 + d_117) 12 (by omega)).trans c_222
    refine lv_iinc (k := 0) (x := (nI i)) (v := (nI (i + 1))) hx hb xd_Ly_connect_62 hl rfl (xb_inc i 1) (Nat.le_of_ble_eq_true rfl) rfl (fun ls hl => ?_)
    have hl : lv_has ls 4 [(3, .int (nI (i + 1))), (2, .ref (ad13 (20 + n) 3)), (1, .ref (ad13 (20 + n) 2)), (0, .ref (ad13 (20 + n) 0))] := hl
    refine lv_goto (tgt := 20) hx hb xd_Ly_connect_65 (by decide) ?_
    exact ih29 (i + 1, E223, (va_up fl1 i (some (ad13 (20 + n) (12 + 10 * i)))), (va_up fc1 i (some (ad13 (20 + n) (13 + 10 * i))))) _ _ _ (show mk - (i + 1) < mk - i by omega) (lv_sub hl [0, 1, 2, 3] rfl) hP hD hS ⟨(show (i + 1) ≤ mk from by first | assumption | omega), (show E223 (20 + n) 0 = .inr (5, [.int (nI n), pv, .ref (ad13 (20 + n) 1), .int lo]) from c_231), (show E223 (20 + n) 1 = .inl (kA 6, mk, .inr (.inr (.inr (.inr fm)))) from c_232), (show E223 (20 + n) 2 = .inl (kA 7, mk, .inr (.inr (.inr (.inr (va_up fl1 i (some (ad13 (20 + n) (12 + 10 * i)))))))) from c_227), (show E223 (20 + n) 3 = .inl (kA 7, mk, .inr (.inr (.inr (.inr (va_up fc1 i (some (ad13 (20 + n) (13 + 10 * i)))))))) from c_226), (show ∀ b2 o2, ¬ (b2 = 20 + n) → E223 b2 o2 = E b2 o2 from fun b2 o2 h09 => by show E223 b2 o2 = _; rw [fE225 b2 o2 (by omega), fE197 b2 o2 (by omega), p_171 b2 o2 (by omega) (by omega) (by omega), hfr b2 o2 (by omega)]), (show DIs kA ad13 E223 RL15 nd from DIs_23 (show R23 n E164 E223 from fun b2 o2 h9 => by rw [fE225 b2 o2 (by omega), fE197 b2 o2 (by omega)]) (fun _ _ _ => rfl) (fun _ h => h) hnd12 hDIs), (show LIs kA ad13 E223 RL15 nd nL from LIs_23 (show R23 n E164 E223 from fun b2 o2 h9 => by rw [fE225 b2 o2 (by omega), fE197 b2 o2 (by omega)]) (fun _ _ _ => rfl) (fun _ h => h) hLIs), (show ∀ k, k < mk → fm k = some (ad13 (20 + n) (10 + 10 * k)) ∧ MEI kA ad13 E223 RL15 nd n k from fun k h => ⟨(hfm k h).1, MEI_23 (show R23 n E164 E223 from fun b2 o2 h9 => by rw [fE225 b2 o2 (by omega), fE197 b2 o2 (by omega)]) (fun _ _ _ => rfl) (fun _ h => h) (hfm k h).2⟩), (show ∀ j, j < (i + 1) → (va_up fl1 i (some (ad13 (20 + n) (12 + 10 * i)))) j = some (ad13 (20 + n) (12 + 10 * j)) ∧ (va_up fc1 i (some (ad13 (20 + n) (13 + 10 * i)))) j = some (ad13 (20 + n) (13 + 10 * j)) from fun j hj => by
        by_cases q : j = i
        · subst q; exact ⟨vu_eq, vu_eq⟩
        · obtain ⟨q1, q2⟩ := hdone j (by omega); exact ⟨(vu_ne q).trans q1, (vu_ne q).trans q2⟩), (show TLas g ad13 E223 nd nL from TLas_23 (show R23 n E164 E223 from fun b2 o2 h9 => by rw [fE225 b2 o2 (by omega), fE197 b2 o2 (by omega)]) (fun _ _ _ => rfl) hTL hnd12), (show ∀ j, j < (i + 1) → CN1 g E223 n j ∧ CNd g kA ad13 E223 RL15 nd n j from fun j hj => by
        have h23 := (show R23 n E164 E223 from fun b2 o2 h9 => by rw [fE225 b2 o2 (by omega), fE197 b2 o2 (by omega)])
        by_cases q : j = i
        · rw [q]; exact ⟨CN1_23 h23 hN1, CNd_23 h23 hNdi⟩
        · exact ⟨CN1_23 h23 (hC1 j (by omega)).1, CNd_23 h23 (hC1 j (by omega)).2⟩), (show ∀ j, (i + 1) ≤ j → j < mk → CN0 g E223 n j from fun j hj hj2 => CN0_23 (show R23 n E164 E223 from fun b2 o2 h9 => by rw [fE225 b2 o2 (by omega), fE197 b2 o2 (by omega)]) (hC0 j hj hj2)), (show ∀ j, j < mk → CN7 E223 n j from fun j hj => CN7_23 (show R23 n E164 E223 from fun b2 o2 h9 => by rw [fE225 b2 o2 (by omega), fE197 b2 o2 (by omega)]) (hC7 j hj))⟩
def LKP (g : gT) (np : Nat) : Prop := (∀ x, x < np → prv g x ≤ x) ∧ ∀ la, la < np → mcv g la ≤ 12 ∧ ∀ k, k < mcv g la → mdv g la k < 12
theorem LKP_L {g : gT} {kA : Nat → ClassId} {ad : Nat → Nat → Nat} {E : Nat → Nat → va_E} {RL : List (Nat × Nat)} {nd nL : Nat} (hL : nL ≤ 6) (hnd : nd ≤ 12) (hI : LIs kA ad E RL nd nL) (h : TLas g ad E nd nL) : LKP g nL := ⟨prv_T hL h, fun la hl => ⟨by
  obtain ⟨_, _, pv, op, mk, fm, hm, _, _, c1, _⟩ := hI la hl
  obtain ⟨_, _, h3, _⟩ := h la hl
  rw [c1] at h3
  have h3 : g 20 la = nI mk := h3
  unfold mcv
  rw [h3, iN_nI (by omega)]; exact hm, fun k hk => (LKH_L hL hnd hl hI h).2 la (by omega) k hk⟩⟩
def AQ (g g2 : gT) (d : Nat) : Prop := g2 4 d = g 4 d ∧ g2 12 d = g 12 d ∧ ∀ i, i < iN (g 12 d) → g2 13 (5 * d + i) = g 13 (5 * d + i) ∧ g2 16 (5 * d + i) = g 16 (5 * d + i) ∧ g2 17 (5 * d + i) = g 17 (5 * d + i)
def VQ (g g2 : gT) (np : Nat) : Prop := ∀ la, la < np → mcv g2 la = mcv g la ∧ prv g2 la = prv g la ∧ ∀ k, k < mcv g la → mdv g2 la k = mdv g la k ∧ AQ g g2 (mdv g la k)
theorem lkG_VQ {g g2 : gT} {np lq : Nat} {n : Int32} (hk : LKP g np) (hv : VQ g g2 np) (hl : lq ≤ np) : lkG g2 lq n = lkG g lq n := lkf_same lq lq lq (Nat.le_refl _) (Nat.le_refl _) (fun x hx => hk.1 x (by omega)) (fun la hla => ⟨(hv la (by omega)).1, (hv la (by omega)).2.1, fun k hk9 => ⟨((hv la (by omega)).2.2 k hk9).1, ((hv la (by omega)).2.2 k hk9).2.1⟩⟩)
def PM (g : gT) (np a : Nat) : Prop := a / 12 < np ∧ ∃ k, k < mcv g (a / 12) ∧ mdv g (a / 12) k = a % 12
theorem PM_of {g : gT} {np la k : Nat} (hk : LKP g np) (hl : la < np) (h : k < mcv g la) : PM g np (12 * la + mdv g la k) := by
  have q := (hk.2 la hl).2 k h
  unfold PM
  rw [show (12 * la + mdv g la k) / 12 = la by omega, show (12 * la + mdv g la k) % 12 = mdv g la k by omega]
  exact ⟨hl, k, h, rfl⟩
theorem lkG_ltQ {g : gT} {np lq la b : Nat} {nm : Int32} (hk : LKP g np) (hl : lq ≤ np) (h : lkG g lq nm = some (la, b)) : la < lq ∧ b < 12 ∧ PM g np (12 * la + b) := by
  obtain ⟨q1, k, q2, q3, _⟩ := lkf_lt lq lq (fun x hx => hk.1 x (by omega)) h
  subst q3
  exact ⟨q1, (hk.2 la (by omega)).2 k q2, PM_of hk (by omega) q2⟩
theorem AQ_at {g g2 : gT} {np a : Nat} (hv : VQ g g2 np) (ha : PM g np a) : AQ g g2 (a % 12) := by
  obtain ⟨h1, k, h2, h3⟩ := ha
  have q := ((hv _ h1).2.2 k h2).2
  rw [h3] at q; exact q
theorem pst_VQ {g g2 : gT} {np a b : Nat} (hk : LKP g np) (hv : VQ g g2 np) (ha : PM g np a) : pst g2 a b ↔ pst g a b := by
  obtain ⟨_, q2, q3⟩ := AQ_at hv ha
  unfold pst
  rw [q2]
  have e : ∀ i, 5 * (a % 12) ≤ i → i < 5 * (a % 12) + iN (g 12 (a % 12)) → g2 13 i = g 13 i ∧ g2 16 i = g 16 i := fun i h1 h2 => by
    have z := q3 (i - 5 * (a % 12)) (by omega)
    rw [show 5 * (a % 12) + (i - 5 * (a % 12)) = i by omega] at z
    exact ⟨z.1, z.2.1⟩
  have hl : ∀ n, lkG g2 (a / 12 + 1) n = lkG g (a / 12 + 1) n := fun n => lkG_VQ hk hv (by have z := ha.1; omega)
  constructor
  · intro ⟨i, h1, h2, h3, la, x, h4, h5⟩
    rw [(e i h1 h2).2] at h3
    rw [(e i h1 h2).1, hl] at h4
    exact ⟨i, h1, h2, h3, la, x, h4, h5⟩
  · intro ⟨i, h1, h2, h3, la, x, h4, h5⟩
    rw [← (e i h1 h2).2] at h3
    rw [← (e i h1 h2).1, ← hl] at h4
    exact ⟨i, h1, h2, h3, la, x, h4, h5⟩
theorem pst_PM {g : gT} {np a b : Nat} (hk : LKP g np) (ha : PM g np a) (h : pst g a b) : PM g np b := by
  obtain ⟨i, _, _, _, la, x, h4, h5⟩ := h
  rw [h5]; exact (lkG_ltQ hk (by have z := ha.1; omega) h4).2.2
theorem tc_VQ {g g2 : gT} {np a b : Nat} (hk : LKP g np) (hv : VQ g g2 np) (ha : PM g np a) : tc (pst g2) a b ↔ tc (pst g) a b := by
  constructor
  · intro h
    refine (tc_min (S := fun x => tc (pst g) a x ∧ PM g np x) ?_ ?_ h).1
    · intro x hx
      have hx := (pst_VQ hk hv ha).mp hx
      exact ⟨tc_1 hx, pst_PM hk ha hx⟩
    · intro x y ⟨h1, h2⟩ hx
      have hx := (pst_VQ hk hv h2).mp hx
      exact ⟨tc_s h1 hx, pst_PM hk h2 hx⟩
  · intro h
    refine (tc_min (S := fun x => tc (pst g2) a x ∧ PM g np x) ?_ ?_ h).1
    · intro x hx
      exact ⟨tc_1 ((pst_VQ hk hv ha).mpr hx), pst_PM hk ha hx⟩
    · intro x y ⟨h1, h2⟩ hx
      exact ⟨tc_s h1 ((pst_VQ hk hv h2).mpr hx), pst_PM hk h2 hx⟩
theorem rd0_VQ {g g2 : gT} {np ly k b : Nat} (hk : LKP g np) (hv : VQ g g2 np) (hl : ly < np) (hm : k < mcv g ly) : rd0 g2 ly (mdv g ly k) (5 * mdv g ly k + iN (g 12 (mdv g ly k))) b ↔ rd0 g ly (mdv g ly k) (5 * mdv g ly k + iN (g 12 (mdv g ly k))) b := by
  obtain ⟨_, _, q3⟩ := ((hv ly hl).2.2 k hm).2
  have e : ∀ i, 5 * mdv g ly k ≤ i → i < 5 * mdv g ly k + iN (g 12 (mdv g ly k)) → g2 13 i = g 13 i := fun i h1 h2 => by
    have z := q3 (i - 5 * mdv g ly k) (by omega)
    rw [show 5 * mdv g ly k + (i - 5 * mdv g ly k) = i by omega] at z
    exact z.1
  have hlk : ∀ n, lkG g2 (ly + 1) n = lkG g (ly + 1) n := fun n => lkG_VQ hk hv (by omega)
  constructor
  · intro ⟨i, h1, h2, la, x, h4, h5⟩
    rw [e i h1 h2, hlk] at h4
    exact ⟨i, h1, h2, la, x, h4, h5⟩
  · intro ⟨i, h1, h2, la, x, h4, h5⟩
    rw [← e i h1 h2, ← hlk] at h4
    exact ⟨i, h1, h2, la, x, h4, h5⟩
theorem rdQ_VQ {g g2 : gT} {np ly k b : Nat} (hk : LKP g np) (hv : VQ g g2 np) (hl : ly < np) (hm : k < mcv g ly) : rdQ g2 ly (mdv g ly k) b ↔ rdQ g ly (mdv g ly k) b := by
  have e12 := ((hv ly hl).2.2 k hm).2.2.1
  unfold rdQ rdP
  rw [e12]
  have hP : ∀ c, rd0 g ly (mdv g ly k) (5 * mdv g ly k + iN (g 12 (mdv g ly k))) c → PM g np c := fun c ⟨i, _, _, la, x, h4, h5⟩ => by rw [h5]; exact (lkG_ltQ hk (by omega) h4).2.2
  constructor
  · rintro ⟨q | ⟨c, q1, q2⟩, q3⟩
    · exact ⟨Or.inl ((rd0_VQ hk hv hl hm).mp q), q3⟩
    · have q1 := (rd0_VQ hk hv hl hm).mp q1
      exact ⟨Or.inr ⟨c, q1, (tc_VQ hk hv (hP c q1)).mp q2⟩, q3⟩
  · rintro ⟨q | ⟨c, q1, q2⟩, q3⟩
    · exact ⟨Or.inl ((rd0_VQ hk hv hl hm).mpr q), q3⟩
    · exact ⟨Or.inr ⟨c, (rd0_VQ hk hv hl hm).mpr q1, (tc_VQ hk hv (hP c q1)).mpr q2⟩, q3⟩
theorem stp_VQ {g g2 : gT} {np ly k b : Nat} (hk : LKP g np) (hv : VQ g g2 np) (hl : ly < np) (hm : k < mcv g ly) : stp g2 ly (mdv g ly k) b ↔ stp g ly (mdv g ly k) b := by
  obtain ⟨_, q2, q3⟩ := ((hv ly hl).2.2 k hm).2
  unfold stp
  rw [q2]
  have e : ∀ i, 5 * mdv g ly k ≤ i → i < 5 * mdv g ly k + iN (g 12 (mdv g ly k)) → g2 13 i = g 13 i ∧ g2 17 i = g 17 i := fun i h1 h2 => by
    have z := q3 (i - 5 * mdv g ly k) (by omega)
    rw [show 5 * mdv g ly k + (i - 5 * mdv g ly k) = i by omega] at z
    exact ⟨z.1, z.2.2⟩
  have hlk : ∀ n, lkG g2 (ly + 1) n = lkG g (ly + 1) n := fun n => lkG_VQ hk hv (by omega)
  constructor
  · intro ⟨i, h1, h2, h3, h4⟩
    rw [(e i h1 h2).2] at h3
    rw [(e i h1 h2).1, hlk] at h4
    exact ⟨i, h1, h2, h3, h4⟩
  · intro ⟨i, h1, h2, h3, h4⟩
    rw [← (e i h1 h2).2] at h3
    rw [← (e i h1 h2).1, ← hlk] at h4
    exact ⟨i, h1, h2, h3, h4⟩
theorem stp_mem {g : gT} {np ly a b : Nat} (hk : LKP g np) (hl : ly < np) (h : stp g ly a b) : ∃ k, k < mcv g ly ∧ mdv g ly k = b := by
  obtain ⟨i, _, _, _, h4⟩ := h
  obtain ⟨_, k, q2, q3, _⟩ := lkf_lt (ly + 1) (ly + 1) (fun x hx => hk.1 x (by omega)) h4
  exact ⟨k, q2, q3⟩
theorem tcs_VQ {g g2 : gT} {np ly k b : Nat} (hk : LKP g np) (hv : VQ g g2 np) (hl : ly < np) (hm : k < mcv g ly) : tc (stp g2 ly) (mdv g ly k) b ↔ tc (stp g ly) (mdv g ly k) b := by
  constructor
  · intro h
    refine (tc_min (S := fun x => tc (stp g ly) (mdv g ly k) x ∧ ∃ j, j < mcv g ly ∧ mdv g ly j = x) ?_ ?_ h).1
    · intro x hx
      have hx := (stp_VQ hk hv hl hm).mp hx
      exact ⟨tc_1 hx, stp_mem hk hl hx⟩
    · intro x y ⟨h1, j, h2, h3⟩ hx
      subst h3
      have hx := (stp_VQ hk hv hl h2).mp hx
      exact ⟨tc_s h1 hx, stp_mem hk hl hx⟩
  · intro h
    refine (tc_min (S := fun x => tc (stp g2 ly) (mdv g ly k) x ∧ ∃ j, j < mcv g ly ∧ mdv g ly j = x) ?_ ?_ h).1
    · intro x hx
      exact ⟨tc_1 ((stp_VQ hk hv hl hm).mpr hx), stp_mem hk hl hx⟩
    · intro x y ⟨h1, j, h2, h3⟩ hx
      subst h3
      exact ⟨tc_s h1 ((stp_VQ hk hv hl h2).mpr hx), stp_mem hk hl hx⟩
theorem CBs_VQ {g g2 : gT} {E : Nat → Nat → va_E} {np : Nat} (hk : LKP g np) (hv : VQ g g2 np) (h : CBs g E np) : CBs g2 E np := fun la hl k hk9 t ht => by
  obtain ⟨e1, _, e3⟩ := hv la hl
  have hm : k < mcv g la := by rw [← e1]; exact hk9
  rw [(e3 k hm).1, tc_VQ hk hv (PM_of hk hl hm)]
  exact h la hl k hm t ht
theorem RBs_VQ {g g2 : gT} {E : Nat → Nat → va_E} {np n : Nat} (hk : LKP g np) (hv : VQ g g2 np) (hl : n < np) (h : RBs g E n) : RBs g2 E n := fun k hk9 t ht => by
  obtain ⟨e1, _, e3⟩ := hv n hl
  have hm : k < mcv g n := by rw [← e1]; exact hk9
  rw [(e3 k hm).1, rdQ_VQ hk hv hl hm]
  exact h k hm t ht
def gDr (g : gT) (ml lq : Nat) (L : List Nat) : gT := va_up (va_up (va_up (va_up g 19 (upd (g 19) ml (nI lq - 1))) 20 (upd (g 20) ml (nI L.length))) 21 (fun i => if 12 * ml ≤ i ∧ i < 12 * ml + L.length then nI (L.getD (i - 12 * ml) 0) else g 21 i)) 22 (upd (g 22) ml 1)
theorem gDr_o {g : gT} {ml lq j : Nat} {L : List Nat} (h1 : j ≠ 19) (h2 : j ≠ 20) (h3 : j ≠ 21) (h4 : j ≠ 22) : gDr g ml lq L j = g j := by unfold gDr; rw [vu_ne h4, vu_ne h3, vu_ne h2, vu_ne h1]
theorem gDr_19 {g : gT} {ml lq : Nat} {L : List Nat} : gDr g ml lq L 19 = upd (g 19) ml (nI lq - 1) := by unfold gDr; rw [vu_ne (by decide), vu_ne (by decide), vu_ne (by decide), vu_eq]
theorem gDr_20 {g : gT} {ml lq : Nat} {L : List Nat} : gDr g ml lq L 20 = upd (g 20) ml (nI L.length) := by unfold gDr; rw [vu_ne (by decide), vu_ne (by decide), vu_eq]
theorem gDr_21 {g : gT} {ml lq i : Nat} {L : List Nat} : gDr g ml lq L 21 i = if 12 * ml ≤ i ∧ i < 12 * ml + L.length then nI (L.getD (i - 12 * ml) 0) else g 21 i := by unfold gDr; rw [vu_ne (by decide), vu_eq]
theorem gDr_22 {g : gT} {ml lq : Nat} {L : List Nat} : gDr g ml lq L 22 = upd (g 22) ml 1 := by unfold gDr; rw [vu_eq]
theorem gDr_21n {g : gT} {ml lq k : Nat} {L : List Nat} (h : k < L.length) : gDr g ml lq L 21 (12 * ml + k) = nI (L.getD k 0) := by rw [gDr_21, if_pos (by omega), show 12 * ml + k - 12 * ml = k by omega]
theorem gDr_21o {g : gT} {ml lq i : Nat} {L : List Nat} (h : i < 12 * ml) : gDr g ml lq L 21 i = g 21 i := by rw [gDr_21, if_neg (by omega)]
theorem gDr_md {g : gT} {ml lq k nd : Nat} {L : List Nat} (hG : GL nd L) (hnd : nd ≤ 12) (h : k < L.length) : mdv (gDr g ml lq L) ml k = L.getD k 0 := by
  unfold mdv
  rw [gDr_21n h, iN_nI (by have q := hG.1 _ (getD_mem h); omega)]
theorem AQ_of {g g2 : gT} {d : Nat} (h : ∀ j, 3 ≤ j → j ≤ 17 → j ≠ 11 → g2 j = g j) : AQ g g2 d := ⟨congrFun (h 4 (by omega) (by omega) (by omega)) d, congrFun (h 12 (by omega) (by omega) (by omega)) d, fun i _ => ⟨congrFun (h 13 (by omega) (by omega) (by omega)) _, congrFun (h 16 (by omega) (by omega) (by omega)) _, congrFun (h 17 (by omega) (by omega) (by omega)) _⟩⟩
theorem VQ_of {g g2 : gT} {np : Nat} (hk : LKP g np) (h : ∀ j, 3 ≤ j → j ≤ 17 → j ≠ 11 → g2 j = g j) (h19 : ∀ la, la < np → g2 19 la = g 19 la) (h20 : ∀ la, la < np → g2 20 la = g 20 la) (h21 : ∀ la, la < np → ∀ k, k < iN (g 20 la) → g2 21 (12 * la + k) = g 21 (12 * la + k)) : VQ g g2 np := fun la hl => by
  refine ⟨by unfold mcv; rw [h20 la hl], by unfold prv; rw [h19 la hl], fun k hk9 => ⟨?_, AQ_of h⟩⟩
  unfold mdv
  rw [h21 la hl k hk9]
theorem VQ_gDr {g : gT} {ml lq : Nat} {L : List Nat} (hk : LKP g ml) : VQ g (gDr g ml lq L) ml := VQ_of hk (fun j h1 h2 _ => gDr_o (by omega) (by omega) (by omega) (by omega)) (fun la hl => by rw [gDr_19, pk_un (by omega)]) (fun la hl => by rw [gDr_20, pk_un (by omega)]) (fun la hl k hk9 => gDr_21o (by have q := (hk.2 la hl).1; unfold mcv at q; omega))
theorem TLas_row {g g2 : gT} {ad : Nat → Nat → Nat} {E : Nat → Nat → va_E} {nd nL : Nat} (h : ∀ n, n < nL → g2 22 n = g 22 n ∧ g2 19 n = g 19 n ∧ g2 20 n = g 20 n ∧ ∀ k, k < iN (g 20 n) → g2 21 (12 * n + k) = g 21 (12 * n + k)) (hm : ∀ n, n < nL → eL (E (20 + n) 1) ≤ 12) (ht : TLas g ad E nd nL) : TLas g2 ad E nd nL := fun n hn => by
  obtain ⟨q1, q2, q3, q4⟩ := ht n hn
  obtain ⟨e1, e2, e3, e4⟩ := h n hn
  refine ⟨by rw [e1]; exact q1, by rw [e2]; exact q2, by rw [e3]; exact q3, fun k hk => ?_⟩
  rw [e4 k (by rw [q3, iN_nI (by have z := hm n hn; omega)]; exact hk)]
  exact q4 k hk
theorem LIs_12 {kA : Nat → ClassId} {ad : Nat → Nat → Nat} {E : Nat → Nat → va_E} {RL : List (Nat × Nat)} {nd nL : Nat} (hI : LIs kA ad E RL nd nL) : ∀ n, n < nL → eL (E (20 + n) 1) ≤ 12 := fun la hla => by
  obtain ⟨_, _, pv, op, mk, fm, hm, _, _, c1, _⟩ := hI la hla
  rw [c1]; exact hm
theorem AG_of {g g2 : gT} {d : Nat} (h : ∀ j, 3 ≤ j → j ≤ 17 → g2 j = g j) : AG g g2 d := ⟨congrFun (h 3 (by omega) (by omega)) d, congrFun (h 4 (by omega) (by omega)) d, congrFun (h 5 (by omega) (by omega)) d, congrFun (h 11 (by omega) (by omega)) d, congrFun (h 12 (by omega) (by omega)) d, fun i _ => ⟨congrFun (h 6 (by omega) (by omega)) _, congrFun (h 9 (by omega) (by omega)) _, congrFun (h 10 (by omega) (by omega)) _, fun j _ => ⟨congrFun (h 7 (by omega) (by omega)) _, congrFun (h 8 (by omega) (by omega)) _⟩⟩, fun i _ => ⟨congrFun (h 13 (by omega) (by omega)) _, congrFun (h 16 (by omega) (by omega)) _, congrFun (h 17 (by omega) (by omega)) _⟩, fun i _ => ⟨congrFun (h 14 (by omega) (by omega)) _, congrFun (h 15 (by omega) (by omega)) _⟩⟩
theorem TDs_AG {g g2 : gT} {kA : Nat → ClassId} {ad : Nat → Nat → Nat} {E : Nat → Nat → va_E} {RL : List (Nat × Nat)} {nd : Nat} (hD : DIs kA ad E RL nd) (hA : ∀ d, d < nd → AG g g2 d) (h : TDs g E nd) : TDs g2 E nd := fun d hd => TD_AG (hD d hd) (hA d hd) (h d hd)
theorem TDs_gDr {g : gT} {kA : Nat → ClassId} {ad : Nat → Nat → Nat} {E : Nat → Nat → va_E} {RL : List (Nat × Nat)} {nd ml lq : Nat} {L : List Nat} (hD : DIs kA ad E RL nd) (h : TDs g E nd) : TDs (gDr g ml lq L) E nd := TDs_AG hD (fun d _ => AG_of (fun j h1 h2 => gDr_o (by omega) (by omega) (by omega) (by omega))) h
theorem TLas_gDr {g : gT} {kA : Nat → ClassId} {ad : Nat → Nat → Nat} {E : Nat → Nat → va_E} {RL : List (Nat × Nat)} {nd ml lq : Nat} {L : List Nat} (hI : LIs kA ad E RL nd ml) (h : TLas g ad E nd ml) : TLas (gDr g ml lq L) ad E nd ml := TLas_row (fun n hn => ⟨by rw [gDr_22, pk_un (by omega)], by rw [gDr_19, pk_un (by omega)], by rw [gDr_20, pk_un (by omega)], fun k hk => gDr_21o (by
  obtain ⟨_, _, q3, _⟩ := h n hn
  have q := LIs_12 hI n hn
  rw [q3, iN_nI (by omega)] at hk; omega)⟩) (LIs_12 hI) h
theorem getD_inj : ∀ {L : List Nat}, L.Nodup → ∀ {a b : Nat}, a < L.length → b < L.length → L.getD a 0 = L.getD b 0 → a = b
  | [], _, a, _, ha, _, _ => absurd ha (Nat.not_lt_zero _)
  | x :: L, h, 0, 0, _, _, _ => rfl
  | x :: L, h, 0, b + 1, _, hb, e => by
    have e : x = L.getD b 0 := e
    exact absurd (by rw [e]; exact getD_mem (by simp only [List.length_cons] at hb; omega)) (List.nodup_cons.mp h).1
  | x :: L, h, a + 1, 0, ha, _, e => by
    have e : L.getD a 0 = x := e
    exact absurd (by rw [← e]; exact getD_mem (by simp only [List.length_cons] at ha; omega)) (List.nodup_cons.mp h).1
  | x :: L, h, a + 1, b + 1, ha, hb, e => by
    have e : L.getD a 0 = L.getD b 0 := e
    have q := getD_inj (List.nodup_cons.mp h).2 (a := a) (b := b) (by simp only [List.length_cons] at ha; omega) (by simp only [List.length_cons] at hb; omega) e
    omega
def DX (g : gT) (ad : Nat → Nat → Nat) (E : Nat → Nat → va_E) (L : List Nat) (ml j : Nat) : Prop := eV (E (20 + ml) (10 + 10 * j)) 1 = .ref (ad (1 + L.getD j 0) 0) ∧ eL (E (20 + ml) (11 + 10 * j)) = iN (g 12 (L.getD j 0)) ∧ eA (E (20 + ml) (15 + 10 * j)) = (fun _ => 0) ∧ eA (E (20 + ml) (16 + 10 * j)) = (fun _ => 0) ∧ eA (E (20 + ml) (17 + 10 * j)) = (fun _ => 0)
theorem DX_at {g : gT} {ad ad' : Nat → Nat → Nat} {E E' : Nat → Nat → va_E} {L : List Nat} {ml j : Nat} (hE : ∀ j9, j9 < 8 → E' (20 + ml) (10 + j9 + 10 * j) = E (20 + ml) (10 + j9 + 10 * j)) (ha : ad' (1 + L.getD j 0) 0 = ad (1 + L.getD j 0) 0) (h : DX g ad E L ml j) : DX g ad' E' L ml j := by
  obtain ⟨q1, q2, q3, q4, q5⟩ := h
  have e0 := hE 0 (by omega)
  have e1 := hE 1 (by omega)
  have e5 := hE 5 (by omega)
  have e6 := hE 6 (by omega)
  have e7 := hE 7 (by omega)
  exact ⟨by rw [ha]; rw [show E' (20 + ml) (10 + 10 * j) = E (20 + ml) (10 + 10 * j) from e0]; exact q1, by rw [show E' (20 + ml) (11 + 10 * j) = E (20 + ml) (11 + 10 * j) from e1]; exact q2, by rw [show E' (20 + ml) (15 + 10 * j) = E (20 + ml) (15 + 10 * j) from e5]; exact q3, by rw [show E' (20 + ml) (16 + 10 * j) = E (20 + ml) (16 + 10 * j) from e6]; exact q4, by rw [show E' (20 + ml) (17 + 10 * j) = E (20 + ml) (17 + 10 * j) from e7]; exact q5⟩
theorem lyv_same {ad ad' : Nat → Nat → Nat} {lq : Nat} (h : ∀ x, x < lq → ad' (20 + x) 0 = ad (20 + x) 0) : lyv ad' lq = lyv ad lq := by
  cases lq with
  | zero => rfl
  | succ y => show Value.ref (ad' (20 + y) 0) = .ref (ad (20 + y) 0); rw [h y (by omega)]
theorem TLas_gDn {g : gT} {kA : Nat → ClassId} {ad : Nat → Nat → Nat} {E : Nat → Nat → va_E} {RL : List (Nat × Nat)} {nd ml lq : Nat} {L : List Nat} {v0 v2 : Value} {fm : Nat → Option Nat} {c : ClassId} (hI : LIs kA ad E RL nd ml) (h : TLas g ad E nd ml) (hG : GL nd L) (hlq : lq ≤ ml) (c0 : E (20 + ml) 0 = .inr (5, [v0, lyv ad lq, v2, .int 1])) (c1 : E (20 + ml) 1 = .inl (c, L.length, .inr (.inr (.inr (.inr fm))))) (hX : ∀ j, j < L.length → DX g ad E L ml j) : TLas (gDr g ml lq L) ad E nd (ml + 1) := fun n hn => by
  by_cases q : n = ml
  · subst q
    unfold TLa
    rw [c0, c1]
    refine ⟨by rw [gDr_22, pk_us]; rfl, ⟨lq, hlq, by rw [gDr_19, pk_us], rfl⟩, by rw [gDr_20, pk_us]; rfl, fun k hk => ?_⟩
    have hk : k < L.length := hk
    exact ⟨L.getD k 0, hG.1 _ (getD_mem hk), gDr_21n hk, (hX k hk).1⟩
  · exact TLas_gDr hI h n (by omega)
theorem CN0_DX {g : gT} {ad : Nat → Nat → Nat} {E : Nat → Nat → va_E} {nd ml lq j : Nat} {L : List Nat} (hG : GL nd L) (hnd : nd ≤ 12) (hj : j < L.length) (h : DX g ad E L ml j) : CN0 (gDr g ml lq L) E ml j ∧ CN7 E ml j := by
  obtain ⟨_, q2, q3, q4, q5⟩ := h
  refine ⟨⟨?_, fun t _ => ⟨?_, ?_⟩⟩, fun t _ => ?_⟩
  · rw [gDr_md hG hnd hj, gDr_o (by decide) (by decide) (by decide) (by decide)]; exact q2
  · rw [q3]; exact BS_0
  · rw [q4]; exact BS_0
  · rw [q5]; exact BS_0
