theorem xd_La_law_0 : decode xb_La_law 0 = .ok (.new 8, 3) := by decide +kernel
theorem xd_La_law_3 : decode xb_La_law 3 = .ok (.dup, 1) := by decide +kernel
theorem xd_La_law_4 : decode xb_La_law 4 = .ok (.invokespecial 34, 3) := by decide +kernel
theorem xd_La_law_7 : decode xb_La_law 7 = .ok (.astore_n 1, 1) := by decide +kernel
theorem xd_La_law_8 : decode xb_La_law 8 = .ok (.new 35, 3) := by decide +kernel
theorem xd_La_law_11 : decode xb_La_law 11 = .ok (.dup, 1) := by decide +kernel
theorem xd_La_law_12 : decode xb_La_law 12 = .ok (.invokespecial 37, 3) := by decide +kernel
theorem xd_La_law_15 : decode xb_La_law 15 = .ok (.astore_n 2, 1) := by decide +kernel
theorem xd_La_law_16 : decode xb_La_law 16 = .ok (.iconst 1, 1) := by decide +kernel
theorem xd_La_law_17 : decode xb_La_law 17 = .ok (.newarray .long, 2) := by decide +kernel
theorem xd_La_law_19 : decode xb_La_law 19 = .ok (.astore_n 3, 1) := by decide +kernel
theorem xd_La_law_20 : decode xb_La_law 20 = .ok (.iconst 0, 1) := by decide +kernel
theorem xd_La_law_21 : decode xb_La_law 21 = .ok (.istore 4, 2) := by decide +kernel
theorem k6i_0 : (Cond.classLink "LayerDeskLaw" 8 "LayerDesk") ∈ wT := wT_t (List.mem_append_left _ (List.mem_of_getElem? (i := 22) rfl)) rfl
theorem k6i_1 : (Cond.instantiable "LayerDesk" 6) ∈ wT := wT_t (List.mem_append_left _ (List.mem_of_getElem? (i := 23) rfl)) rfl
theorem k6i_2 : (Cond.initialized "LayerDesk") ∈ wT := wT_t (List.mem_append_left _ (List.mem_of_getElem? (i := 1) rfl)) rfl
theorem k6i_3 : (Cond.code xy_De_init xb_De_init 1 none) ∈ wT := wT_t (List.mem_append_left _ (List.mem_of_getElem? (i := 26) rfl)) rfl
theorem k6i_4 : (Cond.methodLink "LayerDeskLaw" 34 xy_De_init) ∈ wT := wT_t (List.mem_append_left _ (List.mem_of_getElem? (i := 24) rfl)) rfl
theorem k6i_5 : (Cond.instanceMethod xy_De_init) ∈ wT := wT_t (List.mem_append_left _ (List.mem_of_getElem? (i := 25) rfl)) rfl
theorem k6i_6 : (Cond.classLink "LayerDeskLaw" 35 "LayerDeskModel") ∈ wT := wT_t (List.mem_append_right _ (List.mem_append_right _ (List.mem_append_right _ (List.mem_append_left _ (List.mem_of_getElem? (i := 78) rfl))))) rfl
theorem k6i_7 : (Cond.instantiable "LayerDeskModel" 31) ∈ wT := wT_t (List.mem_append_right _ (List.mem_append_right _ (List.mem_append_right _ (List.mem_append_left _ (List.mem_of_getElem? (i := 79) rfl))))) rfl
theorem k6i_8 : (Cond.initialized "LayerDeskModel") ∈ wT := wT_t (List.mem_append_left _ (List.mem_of_getElem? (i := 5) rfl)) rfl
theorem k6i_9 : (Cond.code xy_Mo_init xb_Mo_init 1 none) ∈ wT := wT_t (List.mem_append_right _ (List.mem_append_right _ (List.mem_append_right _ (List.mem_append_left _ (List.mem_of_getElem? (i := 82) rfl))))) rfl
theorem k6i_10 : (Cond.methodLink "LayerDeskLaw" 37 xy_Mo_init) ∈ wT := wT_t (List.mem_append_right _ (List.mem_append_right _ (List.mem_append_right _ (List.mem_append_left _ (List.mem_of_getElem? (i := 80) rfl))))) rfl
theorem k6i_11 : (Cond.instanceMethod xy_Mo_init) ∈ wT := wT_t (List.mem_append_right _ (List.mem_append_right _ (List.mem_append_right _ (List.mem_append_left _ (List.mem_of_getElem? (i := 81) rfl))))) rfl
theorem k6i_12 : (Cond.arrayClass .long) ∈ wT := wT_t (List.mem_append_right _ (List.mem_append_right _ (List.mem_append_right _ (List.mem_append_right _ (List.mem_of_getElem? (i := 109) rfl))))) rfl
set_option maxHeartbeats 16000000 in
set_option maxRecDepth 100000 in
theorem whole_start {p : Program} {e : Env} {s : State} {m : MethodId} {below : List Frame} {meth : Method} {c : Code} (l : Launch) (hlt : l.stackTraces = false) {b0 L : Nat} {xs : Nat → Int32} (hL : L ≤ 2560) (C0 : lw_At p s m meth c b0 L xs) : W p l e room_1 s m #[Value.ref b0] below meth c s.heap [] 0 0 (lw_Z below #[Value.ref b0] s) (entryFrame m ([Value.ref b0] : List Value).toArray 7) := by
  obtain ⟨hx, hb, hr, hml, hown, hts, hX, hbl, hlocks, hgv⟩ := C0
  have hT : ∀ w ∈ wT, w.before #[Value.ref b0] s = true := fun w h => hts w (List.mem_filter.mp h).1
  obtain ⟨D, kA, hK⟩ := x_known hts
  have hs9 := flat_of_before _ hgv
  have hcD : s.vm.findClass "LayerDesk" = some (D.1 0) := (hK.1.1 0 (xR_De, xT_De, 6) rfl).2.1
  obtain ⟨sa58, hs58⟩ := x_str hcD (hts (.stringRef "LayerDesk" 58 "not a line of a descriptor") (List.mem_append_right _ (List.mem_append_right _ (List.mem_append_right _ (List.mem_append_left _ (List.mem_of_getElem? (i := 6) rfl))))))
  obtain ⟨sa65, hs65⟩ := x_str hcD (hts (.stringRef "LayerDesk" 65 "the line has no place now") (List.mem_append_right _ (List.mem_append_right _ (List.mem_append_right _ (List.mem_append_left _ (List.mem_of_getElem? (i := 41) rfl))))))
  obtain ⟨sa80, hs80⟩ := x_str hcD (hts (.stringRef "LayerDesk" 80 "no roots, no such finder or no open parent") (List.mem_append_right _ (List.mem_append_right _ (List.mem_append_right _ (List.mem_append_left _ (List.mem_of_getElem? (i := 64) rfl))))))
  obtain ⟨sa91, hs91⟩ := x_str hcD (hts (.stringRef "LayerDesk" 91 "a module is missing") (List.mem_append_right _ (List.mem_append_right _ (List.mem_append_right _ (List.mem_append_left _ (List.mem_of_getElem? (i := 103) rfl))))))
  obtain ⟨sa104, hs104⟩ := x_str hcD (hts (.stringRef "LayerDesk" 104 "a cycle, a split, or five layers") (List.mem_append_right _ (List.mem_append_right _ (List.mem_append_right _ (List.mem_append_right _ (List.mem_append_left _ (List.mem_of_getElem? (i := 27) rfl)))))))
  obtain ⟨sa161, hs161⟩ := x_str hcD (hts (.stringRef "LayerDesk" 161 "no such module, or no name") (List.mem_append_right _ (List.mem_append_right _ (List.mem_append_right _ (List.mem_append_right _ (List.mem_append_left _ (List.mem_of_getElem? (i := 45) rfl)))))))
  obtain ⟨sa176, hs176⟩ := x_str hcD (hts (.stringRef "LayerDesk" 176 "the package comes from nowhere") (List.mem_append_right _ (List.mem_append_right _ (List.mem_append_right _ (List.mem_append_right _ (List.mem_append_left _ (List.mem_of_getElem? (i := 48) rfl)))))))
  obtain ⟨sa181, hs181⟩ := x_str hcD (hts (.stringRef "LayerDesk" 181 "the module has no such package") (List.mem_append_right _ (List.mem_append_right _ (List.mem_append_right _ (List.mem_append_right _ (List.mem_append_left _ (List.mem_of_getElem? (i := 60) rfl)))))))
  obtain ⟨sa190, hs190⟩ := x_str hcD (hts (.stringRef "LayerDesk" 190 "the layer is not open, or no name") (List.mem_append_right _ (List.mem_append_right _ (List.mem_append_right _ (List.mem_append_right _ (List.mem_append_left _ (List.mem_of_getElem? (i := 72) rfl)))))))
  obtain ⟨A, hAe⟩ : ∃ A : Nat → Prop, A = fun z => s.heap.size ≤ z := ⟨_, rfl⟩
  have hA : ∀ z : Nat, s.heap.size ≤ z → A z := fun z h => by rw [hAe]; exact h
  have hnA : ∀ a : Nat, a < s.heap.size → ¬ A a := fun a h => by rw [hAe]; exact Nat.not_le.mpr h
  have hbA : ¬ A b0 := hnA b0 hbl
  have hU : xUS A s s.heap := ⟨vx_Zqof (hts _ (List.mem_append_right _ (List.mem_append_right _ (List.mem_append_left _ (List.mem_of_getElem? (i := 232) rfl))))) (hts _ (List.mem_append_right _ (List.mem_append_left _ (List.mem_of_getElem? (i := 13) rfl)))) (hs9 _ (by decide +kernel)) hnA, vx_Zqof (hts _ (List.mem_append_right _ (List.mem_append_right _ (List.mem_append_left _ (List.mem_of_getElem? (i := 234) rfl))))) (hts _ (List.mem_append_right _ (List.mem_append_left _ (List.mem_of_getElem? (i := 13) rfl)))) (hs9 _ (by decide +kernel)) hnA⟩
  obtain ⟨zK, zV, hzS, hzE⟩ := vk_Sof (args := #[Value.ref b0]) (s := s) (N := 12) (tm := (fun i : Nat => Term.string "LayerDesk$Shelf" ([32, 42, 47, 49, 54, 59, 61, 66, 68, 109, 124, 126].getD i 0))) (len := zL) (byt := zB) (A := A) (fun i hi => by have h9 := z_len i hi; omega) (by
    intro i hi
    have h9 : i = 0 ∨ i = 1 ∨ i = 2 ∨ i = 3 ∨ i = 4 ∨ i = 5 ∨ i = 6 ∨ i = 7 ∨ i = 8 ∨ i = 9 ∨ i = 10 ∨ i = 11 := by omega
    rcases h9 with rfl | rfl | rfl | rfl | rfl | rfl | rfl | rfl | rfl | rfl | rfl | rfl
    · exact hs9 _ (List.mem_of_getElem? (i := 50) (by decide +kernel))
    · exact hs9 _ (List.mem_of_getElem? (i := 73) (by decide +kernel))
    · exact hs9 _ (List.mem_of_getElem? (i := 87) (by decide +kernel))
    · exact hs9 _ (List.mem_of_getElem? (i := 102) (by decide +kernel))
    · exact hs9 _ (List.mem_of_getElem? (i := 128) (by decide +kernel))
    · exact hs9 _ (List.mem_of_getElem? (i := 188) (by decide +kernel))
    · exact hs9 _ (List.mem_of_getElem? (i := 206) (by decide +kernel))
    · exact hs9 _ (List.mem_of_getElem? (i := 60) (by decide +kernel))
    · exact hs9 _ (List.mem_of_getElem? (i := 66) (by decide +kernel))
    · exact hs9 _ (List.mem_of_getElem? (i := 116) (by decide +kernel))
    · exact hs9 _ (List.mem_of_getElem? (i := 147) (by decide +kernel))
    · exact hs9 _ (List.mem_of_getElem? (i := 169) (by decide +kernel))) (by
    intro i hi
    have h9 : i = 0 ∨ i = 1 ∨ i = 2 ∨ i = 3 ∨ i = 4 ∨ i = 5 ∨ i = 6 ∨ i = 7 ∨ i = 8 ∨ i = 9 ∨ i = 10 ∨ i = 11 := by omega
    rcases h9 with rfl | rfl | rfl | rfl | rfl | rfl | rfl | rfl | rfl | rfl | rfl | rfl
    · exact hs9 _ (List.mem_of_getElem? (i := 51) (by decide +kernel))
    · exact hs9 _ (List.mem_of_getElem? (i := 74) (by decide +kernel))
    · exact hs9 _ (List.mem_of_getElem? (i := 88) (by decide +kernel))
    · exact hs9 _ (List.mem_of_getElem? (i := 103) (by decide +kernel))
    · exact hs9 _ (List.mem_of_getElem? (i := 129) (by decide +kernel))
    · exact hs9 _ (List.mem_of_getElem? (i := 189) (by decide +kernel))
    · exact hs9 _ (List.mem_of_getElem? (i := 207) (by decide +kernel))
    · exact hs9 _ (List.mem_of_getElem? (i := 61) (by decide +kernel))
    · exact hs9 _ (List.mem_of_getElem? (i := 67) (by decide +kernel))
    · exact hs9 _ (List.mem_of_getElem? (i := 117) (by decide +kernel))
    · exact hs9 _ (List.mem_of_getElem? (i := 148) (by decide +kernel))
    · exact hs9 _ (List.mem_of_getElem? (i := 170) (by decide +kernel))) (by
    intro i hi
    have h9 : i = 0 ∨ i = 1 ∨ i = 2 ∨ i = 3 ∨ i = 4 ∨ i = 5 ∨ i = 6 ∨ i = 7 ∨ i = 8 ∨ i = 9 ∨ i = 10 ∨ i = 11 := by omega
    rcases h9 with rfl | rfl | rfl | rfl | rfl | rfl | rfl | rfl | rfl | rfl | rfl | rfl
    · exact hs9 _ (List.mem_of_getElem? (i := 52) (by decide +kernel))
    · exact hs9 _ (List.mem_of_getElem? (i := 75) (by decide +kernel))
    · exact hs9 _ (List.mem_of_getElem? (i := 89) (by decide +kernel))
    · exact hs9 _ (List.mem_of_getElem? (i := 104) (by decide +kernel))
    · exact hs9 _ (List.mem_of_getElem? (i := 130) (by decide +kernel))
    · exact hs9 _ (List.mem_of_getElem? (i := 190) (by decide +kernel))
    · exact hs9 _ (List.mem_of_getElem? (i := 208) (by decide +kernel))
    · exact hs9 _ (List.mem_of_getElem? (i := 62) (by decide +kernel))
    · exact hs9 _ (List.mem_of_getElem? (i := 68) (by decide +kernel))
    · exact hs9 _ (List.mem_of_getElem? (i := 118) (by decide +kernel))
    · exact hs9 _ (List.mem_of_getElem? (i := 149) (by decide +kernel))
    · exact hs9 _ (List.mem_of_getElem? (i := 171) (by decide +kernel))) (by
    intro i hi
    have h9 : i = 0 ∨ i = 1 ∨ i = 2 ∨ i = 3 ∨ i = 4 ∨ i = 5 ∨ i = 6 ∨ i = 7 ∨ i = 8 ∨ i = 9 ∨ i = 10 ∨ i = 11 := by omega
    rcases h9 with rfl | rfl | rfl | rfl | rfl | rfl | rfl | rfl | rfl | rfl | rfl | rfl
    · exact hs9 _ (List.mem_of_getElem? (i := 53) (by decide +kernel))
    · exact hs9 _ (List.mem_of_getElem? (i := 76) (by decide +kernel))
    · exact hs9 _ (List.mem_of_getElem? (i := 90) (by decide +kernel))
    · exact hs9 _ (List.mem_of_getElem? (i := 105) (by decide +kernel))
    · exact hs9 _ (List.mem_of_getElem? (i := 131) (by decide +kernel))
    · exact hs9 _ (List.mem_of_getElem? (i := 191) (by decide +kernel))
    · exact hs9 _ (List.mem_of_getElem? (i := 209) (by decide +kernel))
    · exact hs9 _ (List.mem_of_getElem? (i := 63) (by decide +kernel))
    · exact hs9 _ (List.mem_of_getElem? (i := 69) (by decide +kernel))
    · exact hs9 _ (List.mem_of_getElem? (i := 119) (by decide +kernel))
    · exact hs9 _ (List.mem_of_getElem? (i := 150) (by decide +kernel))
    · exact hs9 _ (List.mem_of_getElem? (i := 172) (by decide +kernel)))
    (by
    intro i hi
    have h9 : i = 0 ∨ i = 1 ∨ i = 2 ∨ i = 3 ∨ i = 4 ∨ i = 5 ∨ i = 6 ∨ i = 7 ∨ i = 8 ∨ i = 9 ∨ i = 10 ∨ i = 11 := by omega
    rcases h9 with rfl | rfl | rfl | rfl | rfl | rfl | rfl | rfl | rfl | rfl | rfl | rfl
    · intro j hj
      have hj2 : j < 6 := id hj
      have h8 : j = 0 ∨ j = 1 ∨ j = 2 ∨ j = 3 ∨ j = 4 ∨ j = 5 := by omega
      rcases h8 with rfl | rfl | rfl | rfl | rfl | rfl
      · exact hs9 _ (List.mem_of_getElem? (i := 54) (by decide +kernel))
      · exact hs9 _ (List.mem_of_getElem? (i := 55) (by decide +kernel))
      · exact hs9 _ (List.mem_of_getElem? (i := 56) (by decide +kernel))
      · exact hs9 _ (List.mem_of_getElem? (i := 57) (by decide +kernel))
      · exact hs9 _ (List.mem_of_getElem? (i := 58) (by decide +kernel))
      · exact hs9 _ (List.mem_of_getElem? (i := 59) (by decide +kernel))
    · intro j hj
      have hj2 : j < 7 := id hj
      have h8 : j = 0 ∨ j = 1 ∨ j = 2 ∨ j = 3 ∨ j = 4 ∨ j = 5 ∨ j = 6 := by omega
      rcases h8 with rfl | rfl | rfl | rfl | rfl | rfl | rfl
      · exact hs9 _ (List.mem_of_getElem? (i := 77) (by decide +kernel))
      · exact hs9 _ (List.mem_of_getElem? (i := 78) (by decide +kernel))
      · exact hs9 _ (List.mem_of_getElem? (i := 79) (by decide +kernel))
      · exact hs9 _ (List.mem_of_getElem? (i := 80) (by decide +kernel))
      · exact hs9 _ (List.mem_of_getElem? (i := 81) (by decide +kernel))
      · exact hs9 _ (List.mem_of_getElem? (i := 82) (by decide +kernel))
      · exact hs9 _ (List.mem_of_getElem? (i := 83) (by decide +kernel))
    · intro j hj
      have hj2 : j < 7 := id hj
      have h8 : j = 0 ∨ j = 1 ∨ j = 2 ∨ j = 3 ∨ j = 4 ∨ j = 5 ∨ j = 6 := by omega
      rcases h8 with rfl | rfl | rfl | rfl | rfl | rfl | rfl
      · exact hs9 _ (List.mem_of_getElem? (i := 91) (by decide +kernel))
      · exact hs9 _ (List.mem_of_getElem? (i := 92) (by decide +kernel))
      · exact hs9 _ (List.mem_of_getElem? (i := 93) (by decide +kernel))
      · exact hs9 _ (List.mem_of_getElem? (i := 94) (by decide +kernel))
      · exact hs9 _ (List.mem_of_getElem? (i := 95) (by decide +kernel))
      · exact hs9 _ (List.mem_of_getElem? (i := 96) (by decide +kernel))
      · exact hs9 _ (List.mem_of_getElem? (i := 97) (by decide +kernel))
    · intro j hj
      have hj2 : j < 5 := id hj
      have h8 : j = 0 ∨ j = 1 ∨ j = 2 ∨ j = 3 ∨ j = 4 := by omega
      rcases h8 with rfl | rfl | rfl | rfl | rfl
      · exact hs9 _ (List.mem_of_getElem? (i := 106) (by decide +kernel))
      · exact hs9 _ (List.mem_of_getElem? (i := 107) (by decide +kernel))
      · exact hs9 _ (List.mem_of_getElem? (i := 108) (by decide +kernel))
      · exact hs9 _ (List.mem_of_getElem? (i := 109) (by decide +kernel))
      · exact hs9 _ (List.mem_of_getElem? (i := 110) (by decide +kernel))
    · intro j hj
      have hj2 : j < 8 := id hj
      have h8 : j = 0 ∨ j = 1 ∨ j = 2 ∨ j = 3 ∨ j = 4 ∨ j = 5 ∨ j = 6 ∨ j = 7 := by omega
      rcases h8 with rfl | rfl | rfl | rfl | rfl | rfl | rfl | rfl
      · exact hs9 _ (List.mem_of_getElem? (i := 132) (by decide +kernel))
      · exact hs9 _ (List.mem_of_getElem? (i := 133) (by decide +kernel))
      · exact hs9 _ (List.mem_of_getElem? (i := 134) (by decide +kernel))
      · exact hs9 _ (List.mem_of_getElem? (i := 135) (by decide +kernel))
      · exact hs9 _ (List.mem_of_getElem? (i := 136) (by decide +kernel))
      · exact hs9 _ (List.mem_of_getElem? (i := 137) (by decide +kernel))
      · exact hs9 _ (List.mem_of_getElem? (i := 138) (by decide +kernel))
      · exact hs9 _ (List.mem_of_getElem? (i := 139) (by decide +kernel))
    · intro j hj
      have hj2 : j < 4 := id hj
      have h8 : j = 0 ∨ j = 1 ∨ j = 2 ∨ j = 3 := by omega
      rcases h8 with rfl | rfl | rfl | rfl
      · exact hs9 _ (List.mem_of_getElem? (i := 192) (by decide +kernel))
      · exact hs9 _ (List.mem_of_getElem? (i := 193) (by decide +kernel))
      · exact hs9 _ (List.mem_of_getElem? (i := 194) (by decide +kernel))
      · exact hs9 _ (List.mem_of_getElem? (i := 195) (by decide +kernel))
    · intro j hj
      have hj2 : j < 8 := id hj
      have h8 : j = 0 ∨ j = 1 ∨ j = 2 ∨ j = 3 ∨ j = 4 ∨ j = 5 ∨ j = 6 ∨ j = 7 := by omega
      rcases h8 with rfl | rfl | rfl | rfl | rfl | rfl | rfl | rfl
      · exact hs9 _ (List.mem_of_getElem? (i := 210) (by decide +kernel))
      · exact hs9 _ (List.mem_of_getElem? (i := 211) (by decide +kernel))
      · exact hs9 _ (List.mem_of_getElem? (i := 212) (by decide +kernel))
      · exact hs9 _ (List.mem_of_getElem? (i := 213) (by decide +kernel))
      · exact hs9 _ (List.mem_of_getElem? (i := 214) (by decide +kernel))
      · exact hs9 _ (List.mem_of_getElem? (i := 215) (by decide +kernel))
      · exact hs9 _ (List.mem_of_getElem? (i := 216) (by decide +kernel))
      · exact hs9 _ (List.mem_of_getElem? (i := 217) (by decide +kernel))
    · intro j hj
      have hj2 : j < 1 := id hj
      have h8 : j = 0 := by omega
      rcases h8 with rfl
      · exact hs9 _ (List.mem_of_getElem? (i := 64) (by decide +kernel))
    · intro j hj
      have hj2 : j < 1 := id hj
      have h8 : j = 0 := by omega
      rcases h8 with rfl
      · exact hs9 _ (List.mem_of_getElem? (i := 70) (by decide +kernel))
    · intro j hj
      have hj2 : j < 2 := id hj
      have h8 : j = 0 ∨ j = 1 := by omega
      rcases h8 with rfl | rfl
      · exact hs9 _ (List.mem_of_getElem? (i := 120) (by decide +kernel))
      · exact hs9 _ (List.mem_of_getElem? (i := 121) (by decide +kernel))
    · intro j hj
      have hj2 : j < 10 := id hj
      have h8 : j = 0 ∨ j = 1 ∨ j = 2 ∨ j = 3 ∨ j = 4 ∨ j = 5 ∨ j = 6 ∨ j = 7 ∨ j = 8 ∨ j = 9 := by omega
      rcases h8 with rfl | rfl | rfl | rfl | rfl | rfl | rfl | rfl | rfl | rfl
      · exact hs9 _ (List.mem_of_getElem? (i := 151) (by decide +kernel))
      · exact hs9 _ (List.mem_of_getElem? (i := 152) (by decide +kernel))
      · exact hs9 _ (List.mem_of_getElem? (i := 153) (by decide +kernel))
      · exact hs9 _ (List.mem_of_getElem? (i := 154) (by decide +kernel))
      · exact hs9 _ (List.mem_of_getElem? (i := 155) (by decide +kernel))
      · exact hs9 _ (List.mem_of_getElem? (i := 156) (by decide +kernel))
      · exact hs9 _ (List.mem_of_getElem? (i := 157) (by decide +kernel))
      · exact hs9 _ (List.mem_of_getElem? (i := 158) (by decide +kernel))
      · exact hs9 _ (List.mem_of_getElem? (i := 159) (by decide +kernel))
      · exact hs9 _ (List.mem_of_getElem? (i := 160) (by decide +kernel))
    · intro j hj
      have hj2 : j < 6 := id hj
      have h8 : j = 0 ∨ j = 1 ∨ j = 2 ∨ j = 3 ∨ j = 4 ∨ j = 5 := by omega
      rcases h8 with rfl | rfl | rfl | rfl | rfl | rfl
      · exact hs9 _ (List.mem_of_getElem? (i := 173) (by decide +kernel))
      · exact hs9 _ (List.mem_of_getElem? (i := 174) (by decide +kernel))
      · exact hs9 _ (List.mem_of_getElem? (i := 175) (by decide +kernel))
      · exact hs9 _ (List.mem_of_getElem? (i := 176) (by decide +kernel))
      · exact hs9 _ (List.mem_of_getElem? (i := 177) (by decide +kernel))
      · exact hs9 _ (List.mem_of_getElem? (i := 178) (by decide +kernel)))
    (by
    intro i j hi hj hij
    have h9 : i = 0 ∨ i = 1 ∨ i = 2 ∨ i = 3 ∨ i = 4 ∨ i = 5 ∨ i = 6 ∨ i = 7 ∨ i = 8 ∨ i = 9 ∨ i = 10 ∨ i = 11 := by omega
    have h8 : j = 0 ∨ j = 1 ∨ j = 2 ∨ j = 3 ∨ j = 4 ∨ j = 5 ∨ j = 6 ∨ j = 7 ∨ j = 8 ∨ j = 9 ∨ j = 10 ∨ j = 11 := by omega
    rcases h9 with rfl | rfl | rfl | rfl | rfl | rfl | rfl | rfl | rfl | rfl | rfl | rfl
    · rcases h8 with rfl | rfl | rfl | rfl | rfl | rfl | rfl | rfl | rfl | rfl | rfl | rfl
      · exact absurd rfl hij
      · exact Or.inl (hs9 _ (List.mem_of_getElem? (i := 84) (by decide +kernel)))
      · exact Or.inl (hs9 _ (List.mem_of_getElem? (i := 98) (by decide +kernel)))
      · exact Or.inl (hs9 _ (List.mem_of_getElem? (i := 111) (by decide +kernel)))
      · exact Or.inl (hs9 _ (List.mem_of_getElem? (i := 140) (by decide +kernel)))
      · exact Or.inl (hs9 _ (List.mem_of_getElem? (i := 196) (by decide +kernel)))
      · exact Or.inl (hs9 _ (List.mem_of_getElem? (i := 218) (by decide +kernel)))
      · exact Or.inl (hs9 _ (List.mem_of_getElem? (i := 65) (by decide +kernel)))
      · exact Or.inl (hs9 _ (List.mem_of_getElem? (i := 71) (by decide +kernel)))
      · exact Or.inl (hs9 _ (List.mem_of_getElem? (i := 122) (by decide +kernel)))
      · exact Or.inl (hs9 _ (List.mem_of_getElem? (i := 161) (by decide +kernel)))
      · exact Or.inl (hs9 _ (List.mem_of_getElem? (i := 179) (by decide +kernel)))
    · rcases h8 with rfl | rfl | rfl | rfl | rfl | rfl | rfl | rfl | rfl | rfl | rfl | rfl
      · exact Or.inr (hs9 _ (List.mem_of_getElem? (i := 84) (by decide +kernel)))
      · exact absurd rfl hij
      · exact Or.inl (hs9 _ (List.mem_of_getElem? (i := 101) (by decide +kernel)))
      · exact Or.inl (hs9 _ (List.mem_of_getElem? (i := 114) (by decide +kernel)))
      · exact Or.inl (hs9 _ (List.mem_of_getElem? (i := 143) (by decide +kernel)))
      · exact Or.inl (hs9 _ (List.mem_of_getElem? (i := 199) (by decide +kernel)))
      · exact Or.inl (hs9 _ (List.mem_of_getElem? (i := 221) (by decide +kernel)))
      · exact Or.inr (hs9 _ (List.mem_of_getElem? (i := 85) (by decide +kernel)))
      · exact Or.inr (hs9 _ (List.mem_of_getElem? (i := 86) (by decide +kernel)))
      · exact Or.inl (hs9 _ (List.mem_of_getElem? (i := 125) (by decide +kernel)))
      · exact Or.inl (hs9 _ (List.mem_of_getElem? (i := 164) (by decide +kernel)))
      · exact Or.inl (hs9 _ (List.mem_of_getElem? (i := 182) (by decide +kernel)))
    · rcases h8 with rfl | rfl | rfl | rfl | rfl | rfl | rfl | rfl | rfl | rfl | rfl | rfl
      · exact Or.inr (hs9 _ (List.mem_of_getElem? (i := 98) (by decide +kernel)))
      · exact Or.inr (hs9 _ (List.mem_of_getElem? (i := 101) (by decide +kernel)))
      · exact absurd rfl hij
      · exact Or.inl (hs9 _ (List.mem_of_getElem? (i := 115) (by decide +kernel)))
      · exact Or.inl (hs9 _ (List.mem_of_getElem? (i := 144) (by decide +kernel)))
      · exact Or.inl (hs9 _ (List.mem_of_getElem? (i := 200) (by decide +kernel)))
      · exact Or.inl (hs9 _ (List.mem_of_getElem? (i := 222) (by decide +kernel)))
      · exact Or.inr (hs9 _ (List.mem_of_getElem? (i := 99) (by decide +kernel)))
      · exact Or.inr (hs9 _ (List.mem_of_getElem? (i := 100) (by decide +kernel)))
      · exact Or.inl (hs9 _ (List.mem_of_getElem? (i := 126) (by decide +kernel)))
      · exact Or.inl (hs9 _ (List.mem_of_getElem? (i := 165) (by decide +kernel)))
      · exact Or.inl (hs9 _ (List.mem_of_getElem? (i := 183) (by decide +kernel)))
    · rcases h8 with rfl | rfl | rfl | rfl | rfl | rfl | rfl | rfl | rfl | rfl | rfl | rfl
      · exact Or.inr (hs9 _ (List.mem_of_getElem? (i := 111) (by decide +kernel)))
      · exact Or.inr (hs9 _ (List.mem_of_getElem? (i := 114) (by decide +kernel)))
      · exact Or.inr (hs9 _ (List.mem_of_getElem? (i := 115) (by decide +kernel)))
      · exact absurd rfl hij
      · exact Or.inl (hs9 _ (List.mem_of_getElem? (i := 145) (by decide +kernel)))
      · exact Or.inl (hs9 _ (List.mem_of_getElem? (i := 201) (by decide +kernel)))
      · exact Or.inl (hs9 _ (List.mem_of_getElem? (i := 223) (by decide +kernel)))
      · exact Or.inr (hs9 _ (List.mem_of_getElem? (i := 112) (by decide +kernel)))
      · exact Or.inr (hs9 _ (List.mem_of_getElem? (i := 113) (by decide +kernel)))
      · exact Or.inl (hs9 _ (List.mem_of_getElem? (i := 127) (by decide +kernel)))
      · exact Or.inl (hs9 _ (List.mem_of_getElem? (i := 166) (by decide +kernel)))
      · exact Or.inl (hs9 _ (List.mem_of_getElem? (i := 184) (by decide +kernel)))
    · rcases h8 with rfl | rfl | rfl | rfl | rfl | rfl | rfl | rfl | rfl | rfl | rfl | rfl
      · exact Or.inr (hs9 _ (List.mem_of_getElem? (i := 140) (by decide +kernel)))
      · exact Or.inr (hs9 _ (List.mem_of_getElem? (i := 143) (by decide +kernel)))
      · exact Or.inr (hs9 _ (List.mem_of_getElem? (i := 144) (by decide +kernel)))
      · exact Or.inr (hs9 _ (List.mem_of_getElem? (i := 145) (by decide +kernel)))
      · exact absurd rfl hij
      · exact Or.inl (hs9 _ (List.mem_of_getElem? (i := 203) (by decide +kernel)))
      · exact Or.inl (hs9 _ (List.mem_of_getElem? (i := 225) (by decide +kernel)))
      · exact Or.inr (hs9 _ (List.mem_of_getElem? (i := 141) (by decide +kernel)))
      · exact Or.inr (hs9 _ (List.mem_of_getElem? (i := 142) (by decide +kernel)))
      · exact Or.inr (hs9 _ (List.mem_of_getElem? (i := 146) (by decide +kernel)))
      · exact Or.inl (hs9 _ (List.mem_of_getElem? (i := 168) (by decide +kernel)))
      · exact Or.inl (hs9 _ (List.mem_of_getElem? (i := 186) (by decide +kernel)))
    · rcases h8 with rfl | rfl | rfl | rfl | rfl | rfl | rfl | rfl | rfl | rfl | rfl | rfl
      · exact Or.inr (hs9 _ (List.mem_of_getElem? (i := 196) (by decide +kernel)))
      · exact Or.inr (hs9 _ (List.mem_of_getElem? (i := 199) (by decide +kernel)))
      · exact Or.inr (hs9 _ (List.mem_of_getElem? (i := 200) (by decide +kernel)))
      · exact Or.inr (hs9 _ (List.mem_of_getElem? (i := 201) (by decide +kernel)))
      · exact Or.inr (hs9 _ (List.mem_of_getElem? (i := 203) (by decide +kernel)))
      · exact absurd rfl hij
      · exact Or.inl (hs9 _ (List.mem_of_getElem? (i := 228) (by decide +kernel)))
      · exact Or.inr (hs9 _ (List.mem_of_getElem? (i := 197) (by decide +kernel)))
      · exact Or.inr (hs9 _ (List.mem_of_getElem? (i := 198) (by decide +kernel)))
      · exact Or.inr (hs9 _ (List.mem_of_getElem? (i := 202) (by decide +kernel)))
      · exact Or.inr (hs9 _ (List.mem_of_getElem? (i := 204) (by decide +kernel)))
      · exact Or.inr (hs9 _ (List.mem_of_getElem? (i := 205) (by decide +kernel)))
    · rcases h8 with rfl | rfl | rfl | rfl | rfl | rfl | rfl | rfl | rfl | rfl | rfl | rfl
      · exact Or.inr (hs9 _ (List.mem_of_getElem? (i := 218) (by decide +kernel)))
      · exact Or.inr (hs9 _ (List.mem_of_getElem? (i := 221) (by decide +kernel)))
      · exact Or.inr (hs9 _ (List.mem_of_getElem? (i := 222) (by decide +kernel)))
      · exact Or.inr (hs9 _ (List.mem_of_getElem? (i := 223) (by decide +kernel)))
      · exact Or.inr (hs9 _ (List.mem_of_getElem? (i := 225) (by decide +kernel)))
      · exact Or.inr (hs9 _ (List.mem_of_getElem? (i := 228) (by decide +kernel)))
      · exact absurd rfl hij
      · exact Or.inr (hs9 _ (List.mem_of_getElem? (i := 219) (by decide +kernel)))
      · exact Or.inr (hs9 _ (List.mem_of_getElem? (i := 220) (by decide +kernel)))
      · exact Or.inr (hs9 _ (List.mem_of_getElem? (i := 224) (by decide +kernel)))
      · exact Or.inr (hs9 _ (List.mem_of_getElem? (i := 226) (by decide +kernel)))
      · exact Or.inr (hs9 _ (List.mem_of_getElem? (i := 227) (by decide +kernel)))
    · rcases h8 with rfl | rfl | rfl | rfl | rfl | rfl | rfl | rfl | rfl | rfl | rfl | rfl
      · exact Or.inr (hs9 _ (List.mem_of_getElem? (i := 65) (by decide +kernel)))
      · exact Or.inl (hs9 _ (List.mem_of_getElem? (i := 85) (by decide +kernel)))
      · exact Or.inl (hs9 _ (List.mem_of_getElem? (i := 99) (by decide +kernel)))
      · exact Or.inl (hs9 _ (List.mem_of_getElem? (i := 112) (by decide +kernel)))
      · exact Or.inl (hs9 _ (List.mem_of_getElem? (i := 141) (by decide +kernel)))
      · exact Or.inl (hs9 _ (List.mem_of_getElem? (i := 197) (by decide +kernel)))
      · exact Or.inl (hs9 _ (List.mem_of_getElem? (i := 219) (by decide +kernel)))
      · exact absurd rfl hij
      · exact Or.inl (hs9 _ (List.mem_of_getElem? (i := 72) (by decide +kernel)))
      · exact Or.inl (hs9 _ (List.mem_of_getElem? (i := 123) (by decide +kernel)))
      · exact Or.inl (hs9 _ (List.mem_of_getElem? (i := 162) (by decide +kernel)))
      · exact Or.inl (hs9 _ (List.mem_of_getElem? (i := 180) (by decide +kernel)))
    · rcases h8 with rfl | rfl | rfl | rfl | rfl | rfl | rfl | rfl | rfl | rfl | rfl | rfl
      · exact Or.inr (hs9 _ (List.mem_of_getElem? (i := 71) (by decide +kernel)))
      · exact Or.inl (hs9 _ (List.mem_of_getElem? (i := 86) (by decide +kernel)))
      · exact Or.inl (hs9 _ (List.mem_of_getElem? (i := 100) (by decide +kernel)))
      · exact Or.inl (hs9 _ (List.mem_of_getElem? (i := 113) (by decide +kernel)))
      · exact Or.inl (hs9 _ (List.mem_of_getElem? (i := 142) (by decide +kernel)))
      · exact Or.inl (hs9 _ (List.mem_of_getElem? (i := 198) (by decide +kernel)))
      · exact Or.inl (hs9 _ (List.mem_of_getElem? (i := 220) (by decide +kernel)))
      · exact Or.inr (hs9 _ (List.mem_of_getElem? (i := 72) (by decide +kernel)))
      · exact absurd rfl hij
      · exact Or.inl (hs9 _ (List.mem_of_getElem? (i := 124) (by decide +kernel)))
      · exact Or.inl (hs9 _ (List.mem_of_getElem? (i := 163) (by decide +kernel)))
      · exact Or.inl (hs9 _ (List.mem_of_getElem? (i := 181) (by decide +kernel)))
    · rcases h8 with rfl | rfl | rfl | rfl | rfl | rfl | rfl | rfl | rfl | rfl | rfl | rfl
      · exact Or.inr (hs9 _ (List.mem_of_getElem? (i := 122) (by decide +kernel)))
      · exact Or.inr (hs9 _ (List.mem_of_getElem? (i := 125) (by decide +kernel)))
      · exact Or.inr (hs9 _ (List.mem_of_getElem? (i := 126) (by decide +kernel)))
      · exact Or.inr (hs9 _ (List.mem_of_getElem? (i := 127) (by decide +kernel)))
      · exact Or.inl (hs9 _ (List.mem_of_getElem? (i := 146) (by decide +kernel)))
      · exact Or.inl (hs9 _ (List.mem_of_getElem? (i := 202) (by decide +kernel)))
      · exact Or.inl (hs9 _ (List.mem_of_getElem? (i := 224) (by decide +kernel)))
      · exact Or.inr (hs9 _ (List.mem_of_getElem? (i := 123) (by decide +kernel)))
      · exact Or.inr (hs9 _ (List.mem_of_getElem? (i := 124) (by decide +kernel)))
      · exact absurd rfl hij
      · exact Or.inl (hs9 _ (List.mem_of_getElem? (i := 167) (by decide +kernel)))
      · exact Or.inl (hs9 _ (List.mem_of_getElem? (i := 185) (by decide +kernel)))
    · rcases h8 with rfl | rfl | rfl | rfl | rfl | rfl | rfl | rfl | rfl | rfl | rfl | rfl
      · exact Or.inr (hs9 _ (List.mem_of_getElem? (i := 161) (by decide +kernel)))
      · exact Or.inr (hs9 _ (List.mem_of_getElem? (i := 164) (by decide +kernel)))
      · exact Or.inr (hs9 _ (List.mem_of_getElem? (i := 165) (by decide +kernel)))
      · exact Or.inr (hs9 _ (List.mem_of_getElem? (i := 166) (by decide +kernel)))
      · exact Or.inr (hs9 _ (List.mem_of_getElem? (i := 168) (by decide +kernel)))
      · exact Or.inl (hs9 _ (List.mem_of_getElem? (i := 204) (by decide +kernel)))
      · exact Or.inl (hs9 _ (List.mem_of_getElem? (i := 226) (by decide +kernel)))
      · exact Or.inr (hs9 _ (List.mem_of_getElem? (i := 162) (by decide +kernel)))
      · exact Or.inr (hs9 _ (List.mem_of_getElem? (i := 163) (by decide +kernel)))
      · exact Or.inr (hs9 _ (List.mem_of_getElem? (i := 167) (by decide +kernel)))
      · exact absurd rfl hij
      · exact Or.inl (hs9 _ (List.mem_of_getElem? (i := 187) (by decide +kernel)))
    · rcases h8 with rfl | rfl | rfl | rfl | rfl | rfl | rfl | rfl | rfl | rfl | rfl | rfl
      · exact Or.inr (hs9 _ (List.mem_of_getElem? (i := 179) (by decide +kernel)))
      · exact Or.inr (hs9 _ (List.mem_of_getElem? (i := 182) (by decide +kernel)))
      · exact Or.inr (hs9 _ (List.mem_of_getElem? (i := 183) (by decide +kernel)))
      · exact Or.inr (hs9 _ (List.mem_of_getElem? (i := 184) (by decide +kernel)))
      · exact Or.inr (hs9 _ (List.mem_of_getElem? (i := 186) (by decide +kernel)))
      · exact Or.inl (hs9 _ (List.mem_of_getElem? (i := 205) (by decide +kernel)))
      · exact Or.inl (hs9 _ (List.mem_of_getElem? (i := 227) (by decide +kernel)))
      · exact Or.inr (hs9 _ (List.mem_of_getElem? (i := 180) (by decide +kernel)))
      · exact Or.inr (hs9 _ (List.mem_of_getElem? (i := 181) (by decide +kernel)))
      · exact Or.inr (hs9 _ (List.mem_of_getElem? (i := 185) (by decide +kernel)))
      · exact Or.inr (hs9 _ (List.mem_of_getElem? (i := 187) (by decide +kernel)))
      · exact absurd rfl hij) hnA
  obtain ⟨Z, hZe⟩ : ∃ Z : zT, Z = (zK, zV, fun n => if n = 58 then sa58 else if n = 65 then sa65 else if n = 80 then sa80 else if n = 91 then sa91 else if n = 104 then sa104 else if n = 161 then sa161 else if n = 176 then sa176 else if n = 181 then sa181 else if n = 190 then sa190 else 0) := ⟨_, rfl⟩
  have hZ : xZ Z A s s.heap := by
    subst hZe
    exact ⟨hU, hzS, ⟨va_Zof (hts _ (List.mem_append_right _ (List.mem_append_left _ (List.mem_of_getElem? (i := 209) rfl)))) (hts _ (List.mem_append_right _ (List.mem_append_left _ (List.mem_of_getElem? (i := 6) rfl)))) (va_eqi (hs9 _ (by decide +kernel))) hnA, vx_Zqof (hts _ (List.mem_append_right _ (List.mem_append_left _ (List.mem_of_getElem? (i := 225) rfl)))) (hts _ (List.mem_append_right _ (List.mem_append_left _ (List.mem_of_getElem? (i := 8) rfl)))) (hs9 _ (by decide +kernel)) hnA⟩, ⟨vk_R.of (hts (.stringRef "LayerDesk$Shelf" 32 "module") (List.mem_append_right _ (List.mem_append_left _ (List.mem_of_getElem? (i := 195) rfl)))) (hzE 0 (by decide)), vk_R.of (hts (.stringRef "LayerDesk$Shelf" 42 "package") (List.mem_append_right _ (List.mem_append_right _ (List.mem_append_left _ (List.mem_of_getElem? (i := 111) rfl))))) (hzE 1 (by decide)), vk_R.of (hts (.stringRef "LayerDesk$Shelf" 47 "exports") (List.mem_append_right _ (List.mem_append_right _ (List.mem_append_left _ (List.mem_of_getElem? (i := 156) rfl))))) (hzE 2 (by decide)), vk_R.of (hts (.stringRef "LayerDesk$Shelf" 49 "opens") (List.mem_append_right _ (List.mem_append_right _ (List.mem_append_left _ (List.mem_of_getElem? (i := 157) rfl))))) (hzE 3 (by decide)), vk_R.of (hts (.stringRef "LayerDesk$Shelf" 54 "requires") (List.mem_append_right _ (List.mem_append_right _ (List.mem_append_left _ (List.mem_of_getElem? (i := 187) rfl))))) (hzE 4 (by decide)), vk_R.of (hts (.stringRef "LayerDesk$Shelf" 59 "uses") (List.mem_append_right _ (List.mem_append_right _ (List.mem_append_left _ (List.mem_of_getElem? (i := 198) rfl))))) (hzE 5 (by decide)), vk_R.of (hts (.stringRef "LayerDesk$Shelf" 61 "provides") (List.mem_append_right _ (List.mem_append_right _ (List.mem_append_left _ (List.mem_of_getElem? (i := 199) rfl))))) (hzE 6 (by decide)), vk_R.of (hts (.stringRef "LayerDesk$Shelf" 66 "0") (List.mem_append_right _ (List.mem_append_right _ (List.mem_append_left _ (List.mem_of_getElem? (i := 12) rfl))))) (hzE 7 (by decide)), vk_R.of (hts (.stringRef "LayerDesk$Shelf" 68 "1") (List.mem_append_right _ (List.mem_append_right _ (List.mem_append_left _ (List.mem_of_getElem? (i := 13) rfl))))) (hzE 8 (by decide)), vk_R.of (hts (.stringRef "LayerDesk$Shelf" 109 "to") (List.mem_append_right _ (List.mem_append_right _ (List.mem_append_left _ (List.mem_of_getElem? (i := 162) rfl))))) (hzE 9 (by decide)), vk_R.of (hts (.stringRef "LayerDesk$Shelf" 124 "transitive") (List.mem_append_right _ (List.mem_append_right _ (List.mem_append_left _ (List.mem_of_getElem? (i := 192) rfl))))) (hzE 10 (by decide)), vk_R.of (hts (.stringRef "LayerDesk$Shelf" 126 "static") (List.mem_append_right _ (List.mem_append_right _ (List.mem_append_left _ (List.mem_of_getElem? (i := 193) rfl))))) (hzE 11 (by decide)), hs58, hs65, hs80, hs91, hs104, hs161, hs176, hs181, hs190⟩, ⟨va_Nc.of (hs9 (Cond.not (.castable "java/lang/IllegalStateException" "java/lang/IllegalArgumentException")) (by decide +kernel)), va_Nc.of (hs9 (Cond.not (.castable "java/util/NoSuchElementException" "java/lang/IllegalArgumentException")) (by decide +kernel)), va_Nc.of (hs9 (Cond.not (.castable "java/lang/IllegalStateException" "java/util/NoSuchElementException")) (by decide +kernel))⟩⟩
  have hS : va_S A s.heap s.heap [] := va_S.rf
  have hP : va_P D xcl [] s.heap := fun k q hk => by cases hk
  have hD : va_D A [] := ⟨(fun i j p q hi => by cases hi), (fun k q hk => by cases hk)⟩
  have hl := lv_entry ([.ref b0]) (n := 7) (Nat.le_of_ble_eq_true rfl)
  rw [lg_entry_eq]
  generalize (lg_sl ([.ref b0]) ++ List.replicate (7 - (lg_sl ([.ref b0])).length) Slot.unset).toArray = ls at hl ⊢
  have hl : lv_has ls 7 [(0, .ref b0)] := hl
  refine va_new (ci := 0) (fs := [.null, .null, .null, .null, .int 0, .int 0]) (C := xR_De) (T := xT_De) (N := 6) hx hb hT xi_De xt_De xt_De_ok hown (hT _ k6i_0) (hT _ k6i_1) (hT _ k6i_2) hK.1 hP hD hS hA rfl (by decide +kernel) (Nat.le_of_ble_eq_true rfl) (Nat.le_of_ble_eq_true rfl) xd_La_law_0 (fun q1 H hP hD hS => ?_)
  have hP : va_P D xcl [(q1, .inr (0, [.null, .null, .null, .null, .int 0, .int 0]))] H := hP
  have hD : va_D A [(q1, .inr (0, [.null, .null, .null, .null, .int 0, .int 0]))] := hD
  refine lv_dup hx hb xd_La_law_3 rfl ?_
  have hPc := hP.sub (ws' := [(q1, .inr (0, [.null, .null, .null, .null, .int 0, .int 0]))]) [0] rfl
  have hDc := hD.sub (ws' := [(q1, .inr (0, [.null, .null, .null, .null, .int 0, .int 0]))]) [0] (by decide) rfl
  have hFc := va_free (wc := [(q1, .inr (0, [.null, .null, .null, .null, .int 0, .int 0]))]) hD hS hA [0] rfl
  have hkc : 1 + 9 ≤ 601024 := Nat.le_of_ble_eq_true rfl
  have hks : 6 + 121 ≤ 7293034 := Nat.le_of_ble_eq_true rfl
  refine va_callv (va_runI (As := []) (rest := [.ref q1]) ⟨hx, hb, hml, hown, hT⟩ (xc_De_init l D kA H.size q1) (cwI 0 hT (wT_I k6i_3) rfl rfl rfl (hT _ k6i_2) (hT _ k6i_4) (hT _ k6i_5) rfl (by decide +kernel) ⟨Nat.le_of_ble_eq_true rfl, Nat.le_of_ble_eq_true rfl⟩) (x_preS hK hPc hDc) rfl rfl hl.1 rfl (lv_room (Nat.le_of_ble_eq_true rfl)) xd_La_law_4 ⟨hkc, hks⟩) hS (fun q _ h => hFc q h) hFc (fun u t H1 locs ht hvm hpost hB hz1 hk1 hS => ?_)
  obtain ⟨u2, u3, u4, u5, u6, u7, u8, u9, u10⟩ := u
  obtain ⟨hP1, hD1⟩ := hB
  rw [ht] at hP1
  obtain ⟨hP, hD⟩ := va_join (wr := []) (w1 := [(q1, .inr (0, [.ref u2, .ref u3, .ref u4, .ref u5, .int 0, .int 0])), (u2, .inr (1, [.ref u6, .ref u7, .ref u8, .int 0, .int 0])), (u6, .inl (kA 1, 40, .inl (fun _ => 0))), (u7, .inl (kA 0, 20, .inl (fun _ => 0))), (u8, .inl (kA 0, 20, .inl (fun _ => 0))), (u3, .inr (2, [.ref u9, .int 0])), (u9, .inl (kA 4, 12, .inr (.inr (.inr (.inr (fun _ => none)))))), (u4, .inr (3, [.ref u3, .ref u10, .int 0, .int 0, .null])), (u10, .inl (kA 4, 12, .inr (.inr (.inr (.inr (fun _ => none)))))), (u5, .inl (kA 5, 5, .inr (.inr (.inr (.inr (fun _ => none))))))]) hP hD [0] [] rfl rfl (by decide) (by decide) hk1 hFc hP1 hD1
  generalize H1 = H at hP hS ⊢
  have hP : va_P D xcl [(q1, .inr (0, [.ref u2, .ref u3, .ref u4, .ref u5, .int 0, .int 0])), (u2, .inr (1, [.ref u6, .ref u7, .ref u8, .int 0, .int 0])), (u6, .inl (kA 1, 40, .inl (fun _ => 0))), (u7, .inl (kA 0, 20, .inl (fun _ => 0))), (u8, .inl (kA 0, 20, .inl (fun _ => 0))), (u3, .inr (2, [.ref u9, .int 0])), (u9, .inl (kA 4, 12, .inr (.inr (.inr (.inr (fun _ => none)))))), (u4, .inr (3, [.ref u3, .ref u10, .int 0, .int 0, .null])), (u10, .inl (kA 4, 12, .inr (.inr (.inr (.inr (fun _ => none)))))), (u5, .inl (kA 5, 5, .inr (.inr (.inr (.inr (fun _ => none))))))] H := hP
  have hD : va_D A [(q1, .inr (0, [.ref u2, .ref u3, .ref u4, .ref u5, .int 0, .int 0])), (u2, .inr (1, [.ref u6, .ref u7, .ref u8, .int 0, .int 0])), (u6, .inl (kA 1, 40, .inl (fun _ => 0))), (u7, .inl (kA 0, 20, .inl (fun _ => 0))), (u8, .inl (kA 0, 20, .inl (fun _ => 0))), (u3, .inr (2, [.ref u9, .int 0])), (u9, .inl (kA 4, 12, .inr (.inr (.inr (.inr (fun _ => none)))))), (u4, .inr (3, [.ref u3, .ref u10, .int 0, .int 0, .null])), (u10, .inl (kA 4, 12, .inr (.inr (.inr (.inr (fun _ => none)))))), (u5, .inl (kA 5, 5, .inr (.inr (.inr (.inr (fun _ => none))))))] := hD
  refine lv_astore_n hx hb xd_La_law_7 rfl hl (Nat.le_of_ble_eq_true rfl) rfl (fun ls hl => ?_)
  have hl : lv_has ls 7 [(1, .ref q1), (0, .ref b0)] := hl
  refine va_new (ci := 4) (fs := [.int 0, .int 0, .null, .int 0, .int 0, .null, .null, .int 0, .null, .null, .null, .null, .null, .null, .null, .null, .null, .null, .null, .null, .null, .null, .null, .int 0, .null, .null, .null, .null, .null, .null, .null]) (C := xR_Mo) (T := xT_Mo) (N := 31) hx hb hT xi_Mo xt_Mo xt_Mo_ok hown (hT _ k6i_6) (hT _ k6i_7) (hT _ k6i_8) hK.1 hP hD hS hA rfl (by decide +kernel) (Nat.le_of_ble_eq_true rfl) (Nat.le_of_ble_eq_true rfl) xd_La_law_8 (fun q11 H hP hD hS => ?_)
  have hP : va_P D xcl [(q1, .inr (0, [.ref u2, .ref u3, .ref u4, .ref u5, .int 0, .int 0])), (u2, .inr (1, [.ref u6, .ref u7, .ref u8, .int 0, .int 0])), (u6, .inl (kA 1, 40, .inl (fun _ => 0))), (u7, .inl (kA 0, 20, .inl (fun _ => 0))), (u8, .inl (kA 0, 20, .inl (fun _ => 0))), (u3, .inr (2, [.ref u9, .int 0])), (u9, .inl (kA 4, 12, .inr (.inr (.inr (.inr (fun _ => none)))))), (u4, .inr (3, [.ref u3, .ref u10, .int 0, .int 0, .null])), (u10, .inl (kA 4, 12, .inr (.inr (.inr (.inr (fun _ => none)))))), (u5, .inl (kA 5, 5, .inr (.inr (.inr (.inr (fun _ => none)))))), (q11, .inr (4, [.int 0, .int 0, .null, .int 0, .int 0, .null, .null, .int 0, .null, .null, .null, .null, .null, .null, .null, .null, .null, .null, .null, .null, .null, .null, .null, .int 0, .null, .null, .null, .null, .null, .null, .null]))] H := hP
  have hD : va_D A [(q1, .inr (0, [.ref u2, .ref u3, .ref u4, .ref u5, .int 0, .int 0])), (u2, .inr (1, [.ref u6, .ref u7, .ref u8, .int 0, .int 0])), (u6, .inl (kA 1, 40, .inl (fun _ => 0))), (u7, .inl (kA 0, 20, .inl (fun _ => 0))), (u8, .inl (kA 0, 20, .inl (fun _ => 0))), (u3, .inr (2, [.ref u9, .int 0])), (u9, .inl (kA 4, 12, .inr (.inr (.inr (.inr (fun _ => none)))))), (u4, .inr (3, [.ref u3, .ref u10, .int 0, .int 0, .null])), (u10, .inl (kA 4, 12, .inr (.inr (.inr (.inr (fun _ => none)))))), (u5, .inl (kA 5, 5, .inr (.inr (.inr (.inr (fun _ => none)))))), (q11, .inr (4, [.int 0, .int 0, .null, .int 0, .int 0, .null, .null, .int 0, .null, .null, .null, .null, .null, .null, .null, .null, .null, .null, .null, .null, .null, .null, .null, .int 0, .null, .null, .null, .null, .null, .null, .null]))] := hD
  refine lv_dup hx hb xd_La_law_11 rfl ?_
  have hPc := hP.sub (ws' := [(q11, .inr (4, [.int 0, .int 0, .null, .int 0, .int 0, .null, .null, .int 0, .null, .null, .null, .null, .null, .null, .null, .null, .null, .null, .null, .null, .null, .null, .null, .int 0, .null, .null, .null, .null, .null, .null, .null]))]) [10] rfl
  have hDc := hD.sub (ws' := [(q11, .inr (4, [.int 0, .int 0, .null, .int 0, .int 0, .null, .null, .int 0, .null, .null, .null, .null, .null, .null, .null, .null, .null, .null, .null, .null, .null, .null, .null, .int 0, .null, .null, .null, .null, .null, .null, .null]))]) [10] (by decide) rfl
  have hFc := va_free (wc := [(q11, .inr (4, [.int 0, .int 0, .null, .int 0, .int 0, .null, .null, .int 0, .null, .null, .null, .null, .null, .null, .null, .null, .null, .null, .null, .null, .null, .null, .null, .int 0, .null, .null, .null, .null, .null, .null, .null]))]) hD hS hA [10] rfl
  have hkc : 11 + 25 ≤ 601024 := Nat.le_of_ble_eq_true rfl
  have hks : 158 + 1288 ≤ 7293034 := Nat.le_of_ble_eq_true rfl
  refine va_callv (va_runI (As := []) (rest := [.ref q11]) ⟨hx, hb, hml, hown, hT⟩ (xc_Mo_init l D kA H.size q11) (cwI 0 hT (wT_I k6i_9) rfl rfl rfl (hT _ k6i_8) (hT _ k6i_10) (hT _ k6i_11) rfl (by decide +kernel) ⟨Nat.le_of_ble_eq_true rfl, Nat.le_of_ble_eq_true rfl⟩) (x_preS hK hPc hDc) rfl rfl hl.1 rfl (lv_room (Nat.le_of_ble_eq_true rfl)) xd_La_law_12 ⟨hkc, hks⟩) hS (fun q _ h => hFc q h) hFc (fun u t H1 locs ht hvm hpost hB hz1 hk1 hS => ?_)
  obtain ⟨u12, u13, u14, u15, u16, u17, u18, u19, u20, u21, u22, u23, u24, u25, u26, u27, u28, u29, u30, u31, u32, u33, u34, u35, u36⟩ := u
  obtain ⟨hP1, hD1⟩ := hB
  rw [ht] at hP1
  obtain ⟨hP, hD⟩ := va_join (wr := [(q1, .inr (0, [.ref u2, .ref u3, .ref u4, .ref u5, .int 0, .int 0])), (u2, .inr (1, [.ref u6, .ref u7, .ref u8, .int 0, .int 0])), (u6, .inl (kA 1, 40, .inl (fun _ => 0))), (u7, .inl (kA 0, 20, .inl (fun _ => 0))), (u8, .inl (kA 0, 20, .inl (fun _ => 0))), (u3, .inr (2, [.ref u9, .int 0])), (u9, .inl (kA 4, 12, .inr (.inr (.inr (.inr (fun _ => none)))))), (u4, .inr (3, [.ref u3, .ref u10, .int 0, .int 0, .null])), (u10, .inl (kA 4, 12, .inr (.inr (.inr (.inr (fun _ => none)))))), (u5, .inl (kA 5, 5, .inr (.inr (.inr (.inr (fun _ => none))))))]) (w1 := [(q11, .inr (4, [.int 0, .int 0, .ref u12, .int 0, .int 0, .ref u13, .ref u14, .int 0, .ref u15, .ref u16, .ref u17, .ref u18, .ref u19, .ref u20, .ref u21, .ref u22, .ref u23, .ref u24, .ref u25, .ref u26, .ref u27, .ref u28, .ref u29, .int 0, .ref u30, .ref u31, .ref u32, .ref u33, .ref u34, .ref u35, .ref u36])), (u12, .inl (kA 1, 40, .inl (fun _ => 0))), (u13, .inl (kA 0, 20, .inl (fun _ => 0))), (u14, .inl (kA 0, 20, .inl (fun _ => 0))), (u15, .inl (kA 0, 12, .inl (fun _ => 0))), (u16, .inl (kA 0, 12, .inl (fun _ => 0))), (u17, .inl (kA 0, 12, .inl (fun _ => 0))), (u18, .inl (kA 0, 72, .inl (fun _ => 0))), (u19, .inl (kA 0, 216, .inl (fun _ => 0))), (u20, .inl (kA 0, 216, .inl (fun _ => 0))), (u21, .inl (kA 2, 72, .inl (fun _ => 0))), (u22, .inl (kA 2, 72, .inl (fun _ => 0))), (u23, .inl (kA 2, 12, .inl (fun _ => 0))), (u24, .inl (kA 0, 12, .inl (fun _ => 0))), (u25, .inl (kA 0, 60, .inl (fun _ => 0))), (u26, .inl (kA 0, 36, .inl (fun _ => 0))), (u27, .inl (kA 0, 36, .inl (fun _ => 0))), (u28, .inl (kA 2, 60, .inl (fun _ => 0))), (u29, .inl (kA 2, 60, .inl (fun _ => 0))), (u30, .inl (kA 0, 6, .inl (fun _ => 0))), (u31, .inl (kA 0, 6, .inl (fun _ => 0))), (u32, .inl (kA 0, 6, .inl (fun _ => 0))), (u33, .inl (kA 0, 72, .inl (fun _ => 0))), (u34, .inl (kA 2, 6, .inl (fun _ => 0))), (u35, .inl (kA 0, 80, .inl (fun _ => 0))), (u36, .inl (kA 2, 72, .inl (fun _ => 0)))]) hP hD [10] [0, 1, 2, 3, 4, 5, 6, 7, 8, 9] rfl rfl (by decide) (by decide) hk1 hFc hP1 hD1
  generalize H1 = H at hP hS ⊢
  have hP : va_P D xcl [(q1, .inr (0, [.ref u2, .ref u3, .ref u4, .ref u5, .int 0, .int 0])), (u2, .inr (1, [.ref u6, .ref u7, .ref u8, .int 0, .int 0])), (u6, .inl (kA 1, 40, .inl (fun _ => 0))), (u7, .inl (kA 0, 20, .inl (fun _ => 0))), (u8, .inl (kA 0, 20, .inl (fun _ => 0))), (u3, .inr (2, [.ref u9, .int 0])), (u9, .inl (kA 4, 12, .inr (.inr (.inr (.inr (fun _ => none)))))), (u4, .inr (3, [.ref u3, .ref u10, .int 0, .int 0, .null])), (u10, .inl (kA 4, 12, .inr (.inr (.inr (.inr (fun _ => none)))))), (u5, .inl (kA 5, 5, .inr (.inr (.inr (.inr (fun _ => none)))))), (q11, .inr (4, [.int 0, .int 0, .ref u12, .int 0, .int 0, .ref u13, .ref u14, .int 0, .ref u15, .ref u16, .ref u17, .ref u18, .ref u19, .ref u20, .ref u21, .ref u22, .ref u23, .ref u24, .ref u25, .ref u26, .ref u27, .ref u28, .ref u29, .int 0, .ref u30, .ref u31, .ref u32, .ref u33, .ref u34, .ref u35, .ref u36])), (u12, .inl (kA 1, 40, .inl (fun _ => 0))), (u13, .inl (kA 0, 20, .inl (fun _ => 0))), (u14, .inl (kA 0, 20, .inl (fun _ => 0))), (u15, .inl (kA 0, 12, .inl (fun _ => 0))), (u16, .inl (kA 0, 12, .inl (fun _ => 0))), (u17, .inl (kA 0, 12, .inl (fun _ => 0))), (u18, .inl (kA 0, 72, .inl (fun _ => 0))), (u19, .inl (kA 0, 216, .inl (fun _ => 0))), (u20, .inl (kA 0, 216, .inl (fun _ => 0))), (u21, .inl (kA 2, 72, .inl (fun _ => 0))), (u22, .inl (kA 2, 72, .inl (fun _ => 0))), (u23, .inl (kA 2, 12, .inl (fun _ => 0))), (u24, .inl (kA 0, 12, .inl (fun _ => 0))), (u25, .inl (kA 0, 60, .inl (fun _ => 0))), (u26, .inl (kA 0, 36, .inl (fun _ => 0))), (u27, .inl (kA 0, 36, .inl (fun _ => 0))), (u28, .inl (kA 2, 60, .inl (fun _ => 0))), (u29, .inl (kA 2, 60, .inl (fun _ => 0))), (u30, .inl (kA 0, 6, .inl (fun _ => 0))), (u31, .inl (kA 0, 6, .inl (fun _ => 0))), (u32, .inl (kA 0, 6, .inl (fun _ => 0))), (u33, .inl (kA 0, 72, .inl (fun _ => 0))), (u34, .inl (kA 2, 6, .inl (fun _ => 0))), (u35, .inl (kA 0, 80, .inl (fun _ => 0))), (u36, .inl (kA 2, 72, .inl (fun _ => 0)))] H := hP
  have hD : va_D A [(q1, .inr (0, [.ref u2, .ref u3, .ref u4, .ref u5, .int 0, .int 0])), (u2, .inr (1, [.ref u6, .ref u7, .ref u8, .int 0, .int 0])), (u6, .inl (kA 1, 40, .inl (fun _ => 0))), (u7, .inl (kA 0, 20, .inl (fun _ => 0))), (u8, .inl (kA 0, 20, .inl (fun _ => 0))), (u3, .inr (2, [.ref u9, .int 0])), (u9, .inl (kA 4, 12, .inr (.inr (.inr (.inr (fun _ => none)))))), (u4, .inr (3, [.ref u3, .ref u10, .int 0, .int 0, .null])), (u10, .inl (kA 4, 12, .inr (.inr (.inr (.inr (fun _ => none)))))), (u5, .inl (kA 5, 5, .inr (.inr (.inr (.inr (fun _ => none)))))), (q11, .inr (4, [.int 0, .int 0, .ref u12, .int 0, .int 0, .ref u13, .ref u14, .int 0, .ref u15, .ref u16, .ref u17, .ref u18, .ref u19, .ref u20, .ref u21, .ref u22, .ref u23, .ref u24, .ref u25, .ref u26, .ref u27, .ref u28, .ref u29, .int 0, .ref u30, .ref u31, .ref u32, .ref u33, .ref u34, .ref u35, .ref u36])), (u12, .inl (kA 1, 40, .inl (fun _ => 0))), (u13, .inl (kA 0, 20, .inl (fun _ => 0))), (u14, .inl (kA 0, 20, .inl (fun _ => 0))), (u15, .inl (kA 0, 12, .inl (fun _ => 0))), (u16, .inl (kA 0, 12, .inl (fun _ => 0))), (u17, .inl (kA 0, 12, .inl (fun _ => 0))), (u18, .inl (kA 0, 72, .inl (fun _ => 0))), (u19, .inl (kA 0, 216, .inl (fun _ => 0))), (u20, .inl (kA 0, 216, .inl (fun _ => 0))), (u21, .inl (kA 2, 72, .inl (fun _ => 0))), (u22, .inl (kA 2, 72, .inl (fun _ => 0))), (u23, .inl (kA 2, 12, .inl (fun _ => 0))), (u24, .inl (kA 0, 12, .inl (fun _ => 0))), (u25, .inl (kA 0, 60, .inl (fun _ => 0))), (u26, .inl (kA 0, 36, .inl (fun _ => 0))), (u27, .inl (kA 0, 36, .inl (fun _ => 0))), (u28, .inl (kA 2, 60, .inl (fun _ => 0))), (u29, .inl (kA 2, 60, .inl (fun _ => 0))), (u30, .inl (kA 0, 6, .inl (fun _ => 0))), (u31, .inl (kA 0, 6, .inl (fun _ => 0))), (u32, .inl (kA 0, 6, .inl (fun _ => 0))), (u33, .inl (kA 0, 72, .inl (fun _ => 0))), (u34, .inl (kA 2, 6, .inl (fun _ => 0))), (u35, .inl (kA 0, 80, .inl (fun _ => 0))), (u36, .inl (kA 2, 72, .inl (fun _ => 0)))] := hD
  refine lv_astore_n hx hb xd_La_law_15 rfl hl (Nat.le_of_ble_eq_true rfl) rfl (fun ls hl => ?_)
  have hl : lv_has ls 7 [(2, .ref q11), (1, .ref q1), (0, .ref b0)] := hl
  refine lv_iconst (v := 1) hx hb xd_La_law_16 (by decide) ?_
  refine xa_newa (atype := .long) (a0 := (1, Sum.inr (.inl (fun _ => 0)))) (ty := .long) (N' := 1) hx hb (hT _ k6i_12) rfl (fun _ h9 => h9) hK.1 3 rfl hP hD hS hA (fun _ => rfl) (by decide) rfl (by decide) (Nat.le_of_ble_eq_true rfl) (Nat.le_of_ble_eq_true rfl) xd_La_law_17 (fun q37 H hP hD hS => ?_)
  have hP : va_P D xcl [(q1, .inr (0, [.ref u2, .ref u3, .ref u4, .ref u5, .int 0, .int 0])), (u2, .inr (1, [.ref u6, .ref u7, .ref u8, .int 0, .int 0])), (u6, .inl (kA 1, 40, .inl (fun _ => 0))), (u7, .inl (kA 0, 20, .inl (fun _ => 0))), (u8, .inl (kA 0, 20, .inl (fun _ => 0))), (u3, .inr (2, [.ref u9, .int 0])), (u9, .inl (kA 4, 12, .inr (.inr (.inr (.inr (fun _ => none)))))), (u4, .inr (3, [.ref u3, .ref u10, .int 0, .int 0, .null])), (u10, .inl (kA 4, 12, .inr (.inr (.inr (.inr (fun _ => none)))))), (u5, .inl (kA 5, 5, .inr (.inr (.inr (.inr (fun _ => none)))))), (q11, .inr (4, [.int 0, .int 0, .ref u12, .int 0, .int 0, .ref u13, .ref u14, .int 0, .ref u15, .ref u16, .ref u17, .ref u18, .ref u19, .ref u20, .ref u21, .ref u22, .ref u23, .ref u24, .ref u25, .ref u26, .ref u27, .ref u28, .ref u29, .int 0, .ref u30, .ref u31, .ref u32, .ref u33, .ref u34, .ref u35, .ref u36])), (u12, .inl (kA 1, 40, .inl (fun _ => 0))), (u13, .inl (kA 0, 20, .inl (fun _ => 0))), (u14, .inl (kA 0, 20, .inl (fun _ => 0))), (u15, .inl (kA 0, 12, .inl (fun _ => 0))), (u16, .inl (kA 0, 12, .inl (fun _ => 0))), (u17, .inl (kA 0, 12, .inl (fun _ => 0))), (u18, .inl (kA 0, 72, .inl (fun _ => 0))), (u19, .inl (kA 0, 216, .inl (fun _ => 0))), (u20, .inl (kA 0, 216, .inl (fun _ => 0))), (u21, .inl (kA 2, 72, .inl (fun _ => 0))), (u22, .inl (kA 2, 72, .inl (fun _ => 0))), (u23, .inl (kA 2, 12, .inl (fun _ => 0))), (u24, .inl (kA 0, 12, .inl (fun _ => 0))), (u25, .inl (kA 0, 60, .inl (fun _ => 0))), (u26, .inl (kA 0, 36, .inl (fun _ => 0))), (u27, .inl (kA 0, 36, .inl (fun _ => 0))), (u28, .inl (kA 2, 60, .inl (fun _ => 0))), (u29, .inl (kA 2, 60, .inl (fun _ => 0))), (u30, .inl (kA 0, 6, .inl (fun _ => 0))), (u31, .inl (kA 0, 6, .inl (fun _ => 0))), (u32, .inl (kA 0, 6, .inl (fun _ => 0))), (u33, .inl (kA 0, 72, .inl (fun _ => 0))), (u34, .inl (kA 2, 6, .inl (fun _ => 0))), (u35, .inl (kA 0, 80, .inl (fun _ => 0))), (u36, .inl (kA 2, 72, .inl (fun _ => 0))), (q37, .inl (kA 3, 1, .inr (.inl (fun _ => 0))))] H := hP
  have hD : va_D A [(q1, .inr (0, [.ref u2, .ref u3, .ref u4, .ref u5, .int 0, .int 0])), (u2, .inr (1, [.ref u6, .ref u7, .ref u8, .int 0, .int 0])), (u6, .inl (kA 1, 40, .inl (fun _ => 0))), (u7, .inl (kA 0, 20, .inl (fun _ => 0))), (u8, .inl (kA 0, 20, .inl (fun _ => 0))), (u3, .inr (2, [.ref u9, .int 0])), (u9, .inl (kA 4, 12, .inr (.inr (.inr (.inr (fun _ => none)))))), (u4, .inr (3, [.ref u3, .ref u10, .int 0, .int 0, .null])), (u10, .inl (kA 4, 12, .inr (.inr (.inr (.inr (fun _ => none)))))), (u5, .inl (kA 5, 5, .inr (.inr (.inr (.inr (fun _ => none)))))), (q11, .inr (4, [.int 0, .int 0, .ref u12, .int 0, .int 0, .ref u13, .ref u14, .int 0, .ref u15, .ref u16, .ref u17, .ref u18, .ref u19, .ref u20, .ref u21, .ref u22, .ref u23, .ref u24, .ref u25, .ref u26, .ref u27, .ref u28, .ref u29, .int 0, .ref u30, .ref u31, .ref u32, .ref u33, .ref u34, .ref u35, .ref u36])), (u12, .inl (kA 1, 40, .inl (fun _ => 0))), (u13, .inl (kA 0, 20, .inl (fun _ => 0))), (u14, .inl (kA 0, 20, .inl (fun _ => 0))), (u15, .inl (kA 0, 12, .inl (fun _ => 0))), (u16, .inl (kA 0, 12, .inl (fun _ => 0))), (u17, .inl (kA 0, 12, .inl (fun _ => 0))), (u18, .inl (kA 0, 72, .inl (fun _ => 0))), (u19, .inl (kA 0, 216, .inl (fun _ => 0))), (u20, .inl (kA 0, 216, .inl (fun _ => 0))), (u21, .inl (kA 2, 72, .inl (fun _ => 0))), (u22, .inl (kA 2, 72, .inl (fun _ => 0))), (u23, .inl (kA 2, 12, .inl (fun _ => 0))), (u24, .inl (kA 0, 12, .inl (fun _ => 0))), (u25, .inl (kA 0, 60, .inl (fun _ => 0))), (u26, .inl (kA 0, 36, .inl (fun _ => 0))), (u27, .inl (kA 0, 36, .inl (fun _ => 0))), (u28, .inl (kA 2, 60, .inl (fun _ => 0))), (u29, .inl (kA 2, 60, .inl (fun _ => 0))), (u30, .inl (kA 0, 6, .inl (fun _ => 0))), (u31, .inl (kA 0, 6, .inl (fun _ => 0))), (u32, .inl (kA 0, 6, .inl (fun _ => 0))), (u33, .inl (kA 0, 72, .inl (fun _ => 0))), (u34, .inl (kA 2, 6, .inl (fun _ => 0))), (u35, .inl (kA 0, 80, .inl (fun _ => 0))), (u36, .inl (kA 2, 72, .inl (fun _ => 0))), (q37, .inl (kA 3, 1, .inr (.inl (fun _ => 0))))] := hD
  refine lv_astore_n hx hb xd_La_law_19 rfl hl (Nat.le_of_ble_eq_true rfl) rfl (fun ls hl => ?_)
  have hl : lv_has ls 7 [(3, .ref q37), (2, .ref q11), (1, .ref q1), (0, .ref b0)] := hl
  refine lv_iconst (v := 0) hx hb xd_La_law_20 (by decide) ?_
  refine lv_istore hx hb xd_La_law_21 hl (Nat.le_of_ble_eq_true rfl) rfl (fun ls hl => ?_)
  have hl : lv_has ls 7 [(4, .int 0), (3, .ref q37), (2, .ref q11), (1, .ref q1), (0, .ref b0)] := hl
  have hP9 : va_P D xcl ((moW q11 (fun j => [u12, u13, u14, u15, u16, u17, u18, u19, u20, u21, u22, u23, u24, u25, u26, u27, u28, u29, u30, u31, u32, u33, u34, u35, u36].getD j 0) kA (fun _ => 0) (fun _ _ => 0) ++ [(q37, .inl (kA 3, 1, .inr (.inl (fun _ => 0))))]) ++ rp (fun _ o => [q1, u2, u6, u7, u8, u3, u9, u4, u10, u5].getD o 0) (fun _ o => ([.inr (0, [.ref u2, .ref u3, .ref u4, .ref u5, .int 0, .int 0]), .inr (1, [.ref u6, .ref u7, .ref u8, .int 0, .int 0]), .inl (kA 1, 40, .inl (fun _ => 0)), .inl (kA 0, 20, .inl (fun _ => 0)), .inl (kA 0, 20, .inl (fun _ => 0)), .inr (2, [.ref u9, .int 0]), .inl (kA 4, 12, .inr (.inr (.inr (.inr (fun _ => none))))), .inr (3, [.ref u3, .ref u10, .int 0, .int 0, .null]), .inl (kA 4, 12, .inr (.inr (.inr (.inr (fun _ => none))))), .inl (kA 5, 5, .inr (.inr (.inr (.inr (fun _ => none)))))] : List va_E).getD o (.inr (0, []))) [(0, 0), (0, 1), (0, 2), (0, 3), (0, 4), (0, 5), (0, 6), (0, 7), (0, 8), (0, 9)]) H := hP.sub [10, 11, 12, 13, 14, 15, 16, 17, 18, 19, 20, 21, 22, 23, 24, 25, 26, 27, 28, 29, 30, 31, 32, 33, 34, 35, 36, 0, 1, 2, 3, 4, 5, 6, 7, 8, 9] rfl
  have hD9 : va_D A ((moW q11 (fun j => [u12, u13, u14, u15, u16, u17, u18, u19, u20, u21, u22, u23, u24, u25, u26, u27, u28, u29, u30, u31, u32, u33, u34, u35, u36].getD j 0) kA (fun _ => 0) (fun _ _ => 0) ++ [(q37, .inl (kA 3, 1, .inr (.inl (fun _ => 0))))]) ++ rp (fun _ o => [q1, u2, u6, u7, u8, u3, u9, u4, u10, u5].getD o 0) (fun _ o => ([.inr (0, [.ref u2, .ref u3, .ref u4, .ref u5, .int 0, .int 0]), .inr (1, [.ref u6, .ref u7, .ref u8, .int 0, .int 0]), .inl (kA 1, 40, .inl (fun _ => 0)), .inl (kA 0, 20, .inl (fun _ => 0)), .inl (kA 0, 20, .inl (fun _ => 0)), .inr (2, [.ref u9, .int 0]), .inl (kA 4, 12, .inr (.inr (.inr (.inr (fun _ => none))))), .inr (3, [.ref u3, .ref u10, .int 0, .int 0, .null]), .inl (kA 4, 12, .inr (.inr (.inr (.inr (fun _ => none))))), .inl (kA 5, 5, .inr (.inr (.inr (.inr (fun _ => none)))))] : List va_E).getD o (.inr (0, []))) [(0, 0), (0, 1), (0, 2), (0, 3), (0, 4), (0, 5), (0, 6), (0, 7), (0, 8), (0, 9)]) := hD.sub [10, 11, 12, 13, 14, 15, 16, 17, 18, 19, 20, 21, 22, 23, 24, 25, 26, 27, 28, 29, 30, 31, 32, 33, 34, 35, 36, 0, 1, 2, 3, 4, 5, 6, 7, 8, 9] (by decide) rfl
  have hCI9 : CI kA (fun _ o => [q1, u2, u6, u7, u8, u3, u9, u4, u10, u5].getD o 0) (fun _ o => ([.inr (0, [.ref u2, .ref u3, .ref u4, .ref u5, .int 0, .int 0]), .inr (1, [.ref u6, .ref u7, .ref u8, .int 0, .int 0]), .inl (kA 1, 40, .inl (fun _ => 0)), .inl (kA 0, 20, .inl (fun _ => 0)), .inl (kA 0, 20, .inl (fun _ => 0)), .inr (2, [.ref u9, .int 0]), .inl (kA 4, 12, .inr (.inr (.inr (.inr (fun _ => none))))), .inr (3, [.ref u3, .ref u10, .int 0, .int 0, .null]), .inl (kA 4, 12, .inr (.inr (.inr (.inr (fun _ => none))))), .inl (kA 5, 5, .inr (.inr (.inr (.inr (fun _ => none)))))] : List va_E).getD o (.inr (0, []))) [(0, 0), (0, 1), (0, 2), (0, 3), (0, 4), (0, 5), (0, 6), (0, 7), (0, 8), (0, 9)] 0 0 0 0 0 := ⟨fun o9 h9 => by
      have h8 : o9 = 0 ∨ o9 = 1 ∨ o9 = 2 ∨ o9 = 3 ∨ o9 = 4 ∨ o9 = 5 ∨ o9 = 6 ∨ o9 = 7 ∨ o9 = 8 ∨ o9 = 9 := by omega
      rcases h8 with rfl | rfl | rfl | rfl | rfl | rfl | rfl | rfl | rfl | rfl <;> decide, ⟨0, rfl⟩, ⟨fun _ => 0, fun _ => 0, fun _ => 0, by omega, by omega, rfl, rfl, rfl, rfl, fun w9 h9 => absurd h9 (by omega)⟩, ⟨fun _ => none, by omega, rfl, rfl, fun d9 h9 => absurd h9 (by omega)⟩, ⟨0, .null, fun _ => none, by omega, Or.inl rfl, rfl, rfl, fun k9 h9 => absurd h9 (by omega)⟩, ⟨fun _ => none, by omega, rfl, fun n9 h9 => absurd h9 (by omega)⟩, fun d9 h9 => absurd h9 (by omega), fun n9 h9 => absurd h9 (by omega)⟩
  refine W.widen (k := 40 + 110 * 0) (n := 2000 + 600 * 0) (Nat.le_of_ble_eq_true rfl) (Nat.le_of_ble_eq_true rfl) ?_
  exact x_loop l hlt hL hx hb hr hml hown hT hX hbl hlocks hK hZ hAe hA hbA hl hP9 hD9 hS hCI9 MI0 rfl rfl rfl rfl XT_0 NS_0
