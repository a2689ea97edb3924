abbrev moW (h : Nat) (mm : Nat → Nat) (kA : Nat → ClassId) (v : Nat → Int32) (g : Nat → Nat → Int32) : va_W := [(h, .inr (4, [.int (v 0), .int (v 1), .ref (mm 0), .int (v 2), .int (v 3), .ref (mm 1), .ref (mm 2), .int (v 4), .ref (mm 3), .ref (mm 4), .ref (mm 5), .ref (mm 6), .ref (mm 7), .ref (mm 8), .ref (mm 9), .ref (mm 10), .ref (mm 11), .ref (mm 12), .ref (mm 13), .ref (mm 14), .ref (mm 15), .ref (mm 16), .ref (mm 17), .int (v 5), .ref (mm 18), .ref (mm 19), .ref (mm 20), .ref (mm 21), .ref (mm 22), .ref (mm 23), .ref (mm 24)])), (mm 0, .inl (kA 1, 40, .inl (g 0))), (mm 1, .inl (kA 0, 20, .inl (g 1))), (mm 2, .inl (kA 0, 20, .inl (g 2))), (mm 3, .inl (kA 0, 12, .inl (g 3))), (mm 4, .inl (kA 0, 12, .inl (g 4))), (mm 5, .inl (kA 0, 12, .inl (g 5))), (mm 6, .inl (kA 0, 72, .inl (g 6))), (mm 7, .inl (kA 0, 216, .inl (g 7))), (mm 8, .inl (kA 0, 216, .inl (g 8))), (mm 9, .inl (kA 2, 72, .inl (g 9))), (mm 10, .inl (kA 2, 72, .inl (g 10))), (mm 11, .inl (kA 2, 12, .inl (g 11))), (mm 12, .inl (kA 0, 12, .inl (g 12))), (mm 13, .inl (kA 0, 60, .inl (g 13))), (mm 14, .inl (kA 0, 36, .inl (g 14))), (mm 15, .inl (kA 0, 36, .inl (g 15))), (mm 16, .inl (kA 2, 60, .inl (g 16))), (mm 17, .inl (kA 2, 60, .inl (g 17))), (mm 18, .inl (kA 0, 6, .inl (g 18))), (mm 19, .inl (kA 0, 6, .inl (g 19))), (mm 20, .inl (kA 0, 6, .inl (g 20))), (mm 21, .inl (kA 0, 72, .inl (g 21))), (mm 22, .inl (kA 2, 6, .inl (g 22))), (mm 23, .inl (kA 0, 80, .inl (g 23))), (mm 24, .inl (kA 2, 72, .inl (g 24)))]
def MI (v : Nat → Int32) (g : Nat → Nat → Int32) : Prop := (∃ nd, nd ≤ 12 ∧ v 4 = nI nd) ∧ (∃ nl, nl ≤ 5 ∧ v 5 = nI nl ∧ ∀ la, la < nl → ∃ lq, lq ≤ la ∧ g 19 la = nI lq - 1) ∧ (∀ i, i < 40 → narrow .char (.int (g 0 i)) = .int (g 0 i)) ∧ (∀ d, d < 12 → ∃ k, k ≤ 6 ∧ g 5 d = nI k) ∧ (∀ d, d < 12 → ∃ k, k ≤ 5 ∧ g 12 d = nI k) ∧ (∀ la, la < 6 → ∃ k, k ≤ 12 ∧ g 20 la = nI k ∧ ∀ j, j < k → ∃ d, d < 12 ∧ g 21 (12 * la + j) = nI d) ∧ (∀ nd, v 4 = nI nd → nd ≤ 12 → ∀ i j, i < nd → j < nd → g 3 i = g 3 j → g 4 i = g 4 j → i = j)
def WI (v : Nat → Int32) (g : Nat → Nat → Int32) (wn : Nat) : Prop := wn ≤ 20 ∧ v 3 = nI wn ∧ ∀ w9, w9 < wn → ∃ b9 e9, b9 < e9 ∧ e9 ≤ 40 ∧ g 1 w9 = nI b9 ∧ g 2 w9 = nI e9
theorem MI_v {v v2 : Nat → Int32} {g : Nat → Nat → Int32} (h4 : v2 4 = v 4) (h5 : v2 5 = v 5) (h : MI v g) : MI v2 g := by
  unfold MI at h ⊢
  rw [h4, h5]; exact h
theorem MI_g {v : Nat → Int32} {g g2 : Nat → Nat → Int32} (h0 : g2 0 = g 0) (h3 : g2 3 = g 3) (h4 : g2 4 = g 4) (h5 : g2 5 = g 5) (h12 : g2 12 = g 12) (h19 : g2 19 = g 19) (h20 : g2 20 = g 20) (h21 : g2 21 = g 21) (h : MI v g) : MI v g2 := by
  unfold MI at h ⊢
  rw [h0, h3, h4, h5, h12, h19, h20, h21]; exact h
theorem MI_new {v : Nat → Int32} {g : Nat → Nat → Int32} {n : Nat} {f9 n9 : Int32} (hv : v 4 = nI n) (hn : n < 12) (hno : ∀ j, j < n → ¬ (g 3 j = f9 ∧ g 4 j = n9)) (h : MI v g) : MI (va_up v 4 (nI (n + 1))) (va_up (va_up g 3 (upd (g 3) n f9)) 4 (upd (g 4) n n9)) := by
  obtain ⟨h1, h2, h3, h4, h5, h6, h7⟩ := h
  refine ⟨⟨n + 1, by omega, rfl⟩, h2, h3, h4, h5, h6, fun m hm hm12 i j hi hj e3 e4 => ?_⟩
  have em : m = n + 1 := by
    have h8 : nI (n + 1) = nI m := hm
    exact ((nI_eq (by rw [xb_31]; omega) (by rw [xb_31]; omega)).mp h8).symm
  subst em
  have e3 : upd (g 3) n f9 i = upd (g 3) n f9 j := e3
  have e4 : upd (g 4) n n9 i = upd (g 4) n n9 j := e4
  by_cases hin : i = n
  · by_cases hjn : j = n
    · omega
    · subst hin
      rw [pk_us, pk_un hjn] at e3 e4
      exact absurd ⟨e3.symm, e4.symm⟩ (hno j (by omega))
  · by_cases hjn : j = n
    · subst hjn
      rw [pk_us, pk_un hin] at e3 e4
      exact absurd ⟨e3, e4⟩ (hno i (by omega))
    · rw [pk_un hin, pk_un hjn] at e3 e4
      exact h7 n hv (by omega) i j (by omega) (by omega) e3 e4
theorem MI_pk {v : Nat → Int32} {g : Nat → Nat → Int32} {d k : Nat} (hk : k ≤ 6) (h : MI v g) : MI v (va_up g 5 (upd (g 5) d (nI k))) := by
  obtain ⟨h1, h2, h3, h4, h5, h6⟩ := h
  refine ⟨h1, h2, h3, fun d9 hd => ?_, h5, h6⟩
  show ∃ k9, k9 ≤ 6 ∧ upd (g 5) d (nI k) d9 = nI k9
  by_cases e : d9 = d
  · subst e; exact ⟨k, hk, pk_us⟩
  · rw [pk_un e]; exact h4 d9 hd
theorem MI_rq {v : Nat → Int32} {g : Nat → Nat → Int32} {d k : Nat} (hk : k ≤ 5) (h : MI v g) : MI v (va_up g 12 (upd (g 12) d (nI k))) := by
  obtain ⟨h1, h2, h3, h4, h5, h6⟩ := h
  refine ⟨h1, h2, h3, h4, fun d9 hd => ?_, h6⟩
  show ∃ k9, k9 ≤ 5 ∧ upd (g 12) d (nI k) d9 = nI k9
  by_cases e : d9 = d
  · subst e; exact ⟨k, hk, pk_us⟩
  · rw [pk_un e]; exact h5 d9 hd
