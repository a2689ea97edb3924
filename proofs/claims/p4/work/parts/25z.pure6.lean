theorem nI_inj {a b : Nat} (ha : a ≤ 12) (hb : b ≤ 12) (h : nI a = nI b) : a = b := (nI_eq (by rw [xb_31]; omega) (by rw [xb_31]; omega)).mp h
theorem MI_dr {v : Nat → Int32} {g : Nat → Nat → Int32} {nl : Nat} {x y : Int32} (hv : v 5 = nI nl) (hnl : nl ≤ 5) (h : MI v g) : MI v (va_up (va_up (va_up g 18 (upd (g 18) nl x)) 19 (upd (g 19) nl y)) 20 (upd (g 20) nl 0)) := by
  obtain ⟨h1, ⟨n2, h2, h3, h4⟩, h5, h6, h7, h8, h9⟩ := h
  have en : n2 = nl := nI_inj (by omega) (by omega) (h3.symm.trans hv)
  subst en
  refine ⟨h1, ⟨n2, h2, h3, fun la hla => ?_⟩, h5, h6, h7, fun la hla => ?_, h9⟩
  · show ∃ lq, lq ≤ la ∧ upd (g 19) n2 y la = nI lq - 1
    rw [pk_un (by omega)]; exact h4 la hla
  · show ∃ k, k ≤ 12 ∧ upd (g 20) n2 0 la = nI k ∧ ∀ j, j < k → ∃ d, d < 12 ∧ g 21 (12 * la + j) = nI d
    by_cases e : la = n2
    · subst e
      exact ⟨0, by omega, pk_us, fun j hj => absurd hj (by omega)⟩
    · rw [pk_un e]; exact h8 la hla
theorem MI_nl {v : Nat → Int32} {g : Nat → Nat → Int32} {nl : Nat} (h5 : nl < 5) (hp : ∀ la, la < nl + 1 → ∃ lq, lq ≤ la ∧ g 19 la = nI lq - 1) (h : MI v g) : MI (va_up v 5 (nI (nl + 1))) g := by
  obtain ⟨h1, -, h3⟩ := h
  exact ⟨h1, ⟨nl + 1, by omega, rfl, hp⟩, h3⟩
