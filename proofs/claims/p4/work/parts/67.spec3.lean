def gC (g : gT) (x y : Nat → Int32) : gT := va_up (va_up g 1 x) 2 y
theorem gC_ne {g : gT} {x y : Nat → Int32} {j : Nat} (h1 : j ≠ 1) (h2 : j ≠ 2) : gC g x y j = g j := by simp [gC, va_up, h1, h2]
theorem gC_of {g g2 : gT} (h : ∀ j, j ≠ 1 → j ≠ 2 → g2 j = g j) : g2 = gC g (g2 1) (g2 2) := by
  funext j
  by_cases h1 : j = 1
  · subst h1; rfl
  · by_cases h2 : j = 2
    · subst h2; rfl
    · rw [gC_ne h1 h2]; exact h j h1 h2
theorem gC_ext {g g2 : gT} {x y : Nat → Int32} (e1 : g2 1 = x) (e2 : g2 2 = y) (h : ∀ j, j ≠ 1 → j ≠ 2 → g2 j = g j) : g2 = gC g x y := by
  rw [gC_of h, e1, e2]
theorem gC_up {g : gT} {x y z : Nat → Int32} {a : Nat} (h1 : a ≠ 1) (h2 : a ≠ 2) : va_up (gC g x y) a z = gC (va_up g a z) x y := by
  funext j
  by_cases q1 : j = 1
  · subst q1
    simp [gC, va_up, Ne.symm h1]
  · by_cases q2 : j = 2
    · subst q2
      simp [gC, va_up, Ne.symm h2]
    · simp [gC, va_up, q1, q2]
theorem lD_gC {t : Nat → Int32} {wl : List (Nat × Nat)} {nd : Nat} {g : gT} {x y : Nat → Int32} : lD t wl nd (gC g x y) = ((lD t wl nd g).1, gC (lD t wl nd g).2 x y) := by
  by_cases h : okD t wl nd g
  · have h2 : okD t wl nd (gC g x y) := h
    unfold lD
    rw [cif_pos h, cif_pos h2, gC_up (by decide) (by decide), gC_up (by decide) (by decide)]
    rfl
  · have h2 : ¬ okD t wl nd (gC g x y) := h
    unfold lD
    rw [cif_neg h, cif_neg h2]
theorem lP_gC {t : Nat → Int32} {wl : List (Nat × Nat)} {nd : Nat} {g : gT} {x y : Nat → Int32} : lP t wl nd (gC g x y) = gC (lP t wl nd g) x y := by
  by_cases h : okP t wl nd g
  · have h2 : okP t wl nd (gC g x y) := h
    unfold lP
    rw [cif_pos h, cif_pos h2, gC_up (by decide) (by decide), gC_up (by decide) (by decide)]
    rfl
  · have h2 : ¬ okP t wl nd (gC g x y) := h
    unfold lP
    rw [cif_neg h, cif_neg h2]
theorem lR_gC {t : Nat → Int32} {wl : List (Nat × Nat)} {nd : Nat} {g : gT} {x y : Nat → Int32} : lR t wl nd (gC g x y) = gC (lR t wl nd g) x y := by
  by_cases h : okR t wl nd g
  · have h2 : okR t wl nd (gC g x y) := h
    unfold lR
    rw [cif_pos h, cif_pos h2, gC_up (by decide) (by decide), gC_up (by decide) (by decide), gC_up (by decide) (by decide), gC_up (by decide) (by decide)]
    rfl
  · have h2 : ¬ okR t wl nd (gC g x y) := h
    unfold lR
    rw [cif_neg h, cif_neg h2]
theorem lS_gC {a : Nat} {t : Nat → Int32} {wl : List (Nat × Nat)} {nd : Nat} {g : gT} {x y : Nat → Int32} (h1 : a ≠ 1) (h2 : a ≠ 2) : lS a t wl nd (gC g x y) = gC (lS a t wl nd g) x y := by
  have e : gC g x y a = g a := gC_ne h1 h2
  have eo : okS a t wl nd (gC g x y) ↔ okS a t wl nd g := by unfold okS; rw [e]; exact Iff.rfl
  unfold lS
  rw [e]
  cases svF (g a) (nd - 1) with
  | none => rfl
  | some k =>
    simp only
    by_cases h : okS a t wl nd g
    · rw [cif_pos h, cif_pos (eo.mpr h), gC_up h1 h2]
    · rw [cif_neg h, cif_neg (fun q => h (eo.mp q))]
theorem gS_gC {a b : Nat} {to : Int32} {g : gT} {x y : Nat → Int32} (h1 : a ≠ 1) (h2 : a ≠ 2) : gS (gC g x y) a b to = gC (gS g a b to) x y := by
  have e : gC g x y a = g a := gC_ne h1 h2
  unfold gS
  rw [e]
  cases ff (fun k => g a (b + k) = to ∨ g a (b + k) = 0) 3 with
  | none => rfl
  | some k =>
    simp only
    by_cases h : ¬ g a (b + k) = to
    · rw [cif_pos h, cif_pos h, gC_up h1 h2]
    · rw [cif_neg h, cif_neg h]
theorem lG_gC {a a2 : Nat} {t : Nat → Int32} {wl : List (Nat × Nat)} {nd : Nat} {g : gT} {x y : Nat → Int32} (h1 : a ≠ 1) (h2 : a ≠ 2) (h3 : a2 ≠ 1) (h4 : a2 ≠ 2) : lG a a2 t wl nd (gC g x y) = gC (lG a a2 t wl nd g) x y := by
  have e : gC g x y a2 = g a2 := gC_ne h3 h4
  unfold lG
  rw [show pI (gC g x y) (nd - 1) (wN t wl 1) = pI g (nd - 1) (wN t wl 1) from rfl]
  cases pI g (nd - 1) (wN t wl 1) with
  | none => rfl
  | some i =>
    simp only
    by_cases h : okG t wl nd g
    · have q : okG t wl nd (gC g x y) := h
      rw [cif_pos h, cif_pos q]
      by_cases h5 : wl.length = 2
      · rw [cif_pos h5, cif_pos h5, e, gC_up h3 h4]
      · rw [cif_neg h5, cif_neg h5, gS_gC h1 h2]
    · have q : ¬ okG t wl nd (gC g x y) := h
      rw [cif_neg h, cif_neg q]
theorem cif_map {α β : Type} {C : Prop} {a b : α} (f : α → β) : f (cif C a b) = cif C (f a) (f b) := by
  by_cases h : C
  · rw [cif_pos h, cif_pos h]
  · rw [cif_neg h, cif_neg h]
theorem lnF_gC {t : Nat → Int32} {wl : List (Nat × Nat)} {nd : Nat} {g : gT} {x y : Nat → Int32} : lnF t wl nd (gC g x y) = ((lnF t wl nd g).1, gC (lnF t wl nd g).2 x y) := by
  unfold lnF
  rw [lD_gC, lP_gC, lG_gC (by decide) (by decide) (by decide) (by decide), lG_gC (by decide) (by decide) (by decide) (by decide), lR_gC, lS_gC (by decide) (by decide), lS_gC (by decide) (by decide)]
  have hm : ∀ (C : Prop) (a b : Nat × gT), (((cif C a b).1, gC (cif C a b).2 x y) : Nat × gT) = cif C (a.1, gC a.2 x y) (b.1, gC b.2 x y) := fun C a b => cif_map (fun z : Nat × gT => ((z.1, gC z.2 x y) : Nat × gT))
  rw [hm, hm, hm, hm, hm, hm, hm]
theorem lnF_nil {t : Nat → Int32} {wl : List (Nat × Nat)} {nd : Nat} {g : gT} (h : wl.length = 0) : lnF t wl nd g = (nd, g) := by
  have e : ∀ s, ¬ wS t wl 0 s := fun s q => by have := q.1; omega
  unfold lnF
  rw [cif_neg (e _), cif_neg (e _), cif_neg (e _), cif_neg (e _), cif_neg (e _), cif_neg (e _), cif_neg (e _)]
