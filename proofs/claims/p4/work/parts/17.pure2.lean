theorem MI_cut {v : Nat → Int32} {g : Nat → Nat → Int32} {nl k k2 : Nat} (hk : g 20 nl = nI k) (hk12 : k ≤ 12) (h2 : k2 ≤ k) (h : MI v g) : MI v (va_up g 20 (upd (g 20) nl (nI k2))) := by
  obtain ⟨h1, h3, h4, h5, h6, h7, h8⟩ := h
  refine ⟨h1, h3, h4, h5, h6, fun la hla => ?_, h8⟩
  show ∃ k9, k9 ≤ 12 ∧ upd (g 20) nl (nI k2) la = nI k9 ∧ ∀ j, j < k9 → ∃ d9, d9 < 12 ∧ g 21 (12 * la + j) = nI d9
  obtain ⟨k9, g1, g2, g3⟩ := h7 la hla
  by_cases e : la = nl
  · subst e
    have ek : k9 = k := by
      rw [hk] at g2
      exact ((nI_eq (by rw [xb_31]; omega) (by rw [xb_31]; omega)).mp g2).symm
    subst ek
    exact ⟨k2, by omega, pk_us, fun j hj => g3 j (by omega)⟩
  · exact ⟨k9, g1, by rw [pk_un e]; exact g2, g3⟩
theorem ND_cut {g : Nat → Nat → Int32} {la k k2 : Nat} {f20 : Nat → Int32} (h : NDp g la k) (hk : k2 ≤ k) : NDp (va_up g 20 f20) la k2 := fun i j hi hj e => h i j (by omega) (by omega) e
