def NDp (g : Nat → Nat → Int32) (la k : Nat) : Prop := ∀ i j, i < k → j < k → g 21 (12 * la + i) = g 21 (12 * la + j) → i = j
theorem x_pigeon : ∀ (n k : Nat) (f : Nat → Nat), (∀ i, i < k → f i < n) → (∀ i j, i < k → j < k → f i = f j → i = j) → k ≤ n := by
  intro n
  induction n with
  | zero =>
    intro k f h _
    rcases Nat.eq_zero_or_pos k with e | e
    · omega
    · exact absurd (h 0 e) (by omega)
  | succ n ih =>
    intro k f h hi
    by_cases hx : ∃ i, i < k ∧ f i = n
    · obtain ⟨i0, hi0, e0⟩ := hx
      have h1 : k - 1 ≤ n := by
        refine ih (k - 1) (fun j => if j = i0 then f (k - 1) else f j) (fun j hj => ?_) (fun a b ha hb e => ?_)
        · show (if j = i0 then f (k - 1) else f j) < n
          by_cases ej : j = i0
          · rw [if_pos ej]
            have h2 := h (k - 1) (by omega)
            rcases Nat.lt_or_ge (f (k - 1)) n with h3 | h3
            · exact h3
            · have h4 : f (k - 1) = f i0 := by omega
              have h5 := hi (k - 1) i0 (by omega) hi0 h4
              omega
          · rw [if_neg ej]
            have h2 := h j (by omega)
            rcases Nat.lt_or_ge (f j) n with h3 | h3
            · exact h3
            · have h4 : f j = f i0 := by omega
              exact absurd (hi j i0 (by omega) hi0 h4) ej
        · have e : (if a = i0 then f (k - 1) else f a) = (if b = i0 then f (k - 1) else f b) := e
          by_cases ea : a = i0
          · by_cases eb : b = i0
            · omega
            · rw [if_pos ea, if_neg eb] at e
              have h5 := hi (k - 1) b (by omega) (by omega) e
              omega
          · by_cases eb : b = i0
            · rw [if_neg ea, if_pos eb] at e
              have h5 := hi a (k - 1) (by omega) (by omega) e
              omega
            · rw [if_neg ea, if_neg eb] at e
              exact hi a b (by omega) (by omega) e
      omega
    · have h1 : k ≤ n := ih k f (fun i hk => by
        have h2 := h i hk
        rcases Nat.lt_or_ge (f i) n with h3 | h3
        · exact h3
        · exact absurd ⟨i, hk, by omega⟩ hx) hi
      omega
theorem x_room {g : Nat → Nat → Int32} {la k d : Nat} (hk : k ≤ 12) (hent : ∀ j, j < k → ∃ d, d < 12 ∧ g 21 (12 * la + j) = nI d) (hnd : NDp g la k) (hd : d < 12) (hno : ∀ j, 12 * la ≤ j → j < 12 * la + k → ¬ g 21 j = nI d) : k < 12 := by
  have h1 : k + 1 ≤ 12 := by
    refine x_pigeon 12 (k + 1) (fun i => if i = k then d else (g 21 (12 * la + i)).toNatClampNeg) (fun i hi => ?_) (fun i j hi hj e => ?_)
    · show (if i = k then d else (g 21 (12 * la + i)).toNatClampNeg) < 12
      by_cases ei : i = k
      · rw [if_pos ei]; exact hd
      · rw [if_neg ei]
        obtain ⟨d1, h2, h3⟩ := hent i (by omega)
        rw [h3, nI_clamp (by rw [xb_31]; omega)]; exact h2
    · have e : (if i = k then d else (g 21 (12 * la + i)).toNatClampNeg) = (if j = k then d else (g 21 (12 * la + j)).toNatClampNeg) := e
      by_cases ei : i = k
      · by_cases ej : j = k
        · omega
        · rw [if_pos ei, if_neg ej] at e
          obtain ⟨d1, h2, h3⟩ := hent j (by omega)
          rw [h3, nI_clamp (by rw [xb_31]; omega)] at e
          exact absurd (by rw [h3, e]) (hno (12 * la + j) (by omega) (by omega))
      · by_cases ej : j = k
        · rw [if_neg ei, if_pos ej] at e
          obtain ⟨d1, h2, h3⟩ := hent i (by omega)
          rw [h3, nI_clamp (by rw [xb_31]; omega)] at e
          exact absurd (by rw [h3, e]) (hno (12 * la + i) (by omega) (by omega))
        · rw [if_neg ei, if_neg ej] at e
          obtain ⟨d1, h2, h3⟩ := hent i (by omega)
          obtain ⟨d2, h4, h5⟩ := hent j (by omega)
          rw [h3, h5, nI_clamp (by rw [xb_31]; omega), nI_clamp (by rw [xb_31]; omega)] at e
          exact hnd i j (by omega) (by omega) (by rw [h3, h5, e])
  omega
theorem xb_predlt {k m9 : Nat} (h : k ≤ m9) (hm : m9 < 1000000) : nI k - 1 < nI m9 := by
  rcases Nat.eq_zero_or_pos k with e | e
  · subst e
    have h1 : nI 0 - 1 = (-1 : Int32) := by decide
    rw [h1, Int32.lt_iff_toInt_lt, nI_toInt (by rw [xb_31]; omega)]
    have h2 : ((-1 : Int32)).toInt = -1 := by decide
    omega
  · rw [show nI k - 1 = nI (k - 1) from pk_sub (a := k) (b := 1) e]
    exact (nI_ltI (by rw [xb_31]; omega) (by rw [xb_31]; omega)).mpr (by omega)
theorem ND_add {g : Nat → Nat → Int32} {la k d : Nat} {f20 : Nat → Int32} (hnd : NDp g la k) (hno : ∀ j, 12 * la ≤ j → j < 12 * la + k → ¬ g 21 j = nI d) : NDp (va_up (va_up g 20 f20) 21 (upd (g 21) (12 * la + k) (nI d))) la (k + 1) := by
  intro i j hi hj e
  have e : upd (g 21) (12 * la + k) (nI d) (12 * la + i) = upd (g 21) (12 * la + k) (nI d) (12 * la + j) := e
  by_cases ei : i = k
  · by_cases ej : j = k
    · omega
    · rw [ei, pk_us, pk_un (by omega)] at e
      exact absurd e.symm (hno (12 * la + j) (by omega) (by omega))
  · by_cases ej : j = k
    · rw [ej, pk_us, pk_un (by omega)] at e
      exact absurd e (hno (12 * la + i) (by omega) (by omega))
    · rw [pk_un (by omega), pk_un (by omega)] at e
      exact hnd i j (by omega) (by omega) e
theorem MI_add {v : Nat → Int32} {g : Nat → Nat → Int32} {nl k d : Nat} (hnl : nl < 6) (hk : g 20 nl = nI k) (hk12 : k < 12) (hd : d < 12) (h : MI v g) : MI v (va_up (va_up g 20 (upd (g 20) nl (nI (k + 1)))) 21 (upd (g 21) (12 * nl + k) (nI d))) := by
  obtain ⟨h1, h2, h3, h4, h5, h6, h7⟩ := h
  refine ⟨h1, h2, h3, h4, h5, fun la hla => ?_, h7⟩
  show ∃ k9, k9 ≤ 12 ∧ upd (g 20) nl (nI (k + 1)) la = nI k9 ∧ ∀ j, j < k9 → ∃ d9, d9 < 12 ∧ upd (g 21) (12 * nl + k) (nI d) (12 * la + j) = nI d9
  obtain ⟨k9, g1, g2, g3⟩ := h6 la hla
  by_cases e : la = nl
  · subst e
    have ek : k9 = k := by
      rw [hk] at g2
      exact ((nI_eq (by rw [xb_31]; omega) (by rw [xb_31]; omega)).mp g2).symm
    subst ek
    refine ⟨k9 + 1, by omega, pk_us, fun j hj => ?_⟩
    by_cases ej : j = k9
    · rw [ej]; exact ⟨d, hd, pk_us⟩
    · rw [pk_un (by omega)]; exact g3 j (by omega)
  · refine ⟨k9, g1, by rw [pk_un e]; exact g2, fun j hj => ?_⟩
    rw [pk_un (by omega)]; exact g3 j hj
