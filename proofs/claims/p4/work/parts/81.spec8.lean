def exP (g : gT) (p : Nat) (tn : Int32) : Prop := ¬ g 9 p = 0 ∨ g 7 (3 * p) = tn ∨ g 7 (3 * p + 1) = tn ∨ g 7 (3 * p + 2) = tn
def elK (g : gT) (Q : Nat → Prop) (bt : Nat) (nm tn : Int32) (k : Nat) : Prop := ∃ m, m < k ∧ ¬ m = bt ∧ Q m ∧ ∃ i, pI g (m % 12) nm = some i ∧ exP g (6 * (m % 12) + i) tn
def spB (g : gT) (Q : Nat → Prop) (d m p : Nat) : Prop := exP g p (g 4 d) ∧ ((∃ i, pI g d (g 6 p) = some i) ∨ elK g Q m (g 6 p) (g 4 d) 72)
def spQ (g : gT) (Q : Nat → Prop) (d : Nat) : Prop := ∃ m, m < 72 ∧ Q m ∧ ∃ p, 6 * (m % 12) ≤ p ∧ p < 6 * (m % 12) + iN (g 5 (m % 12)) ∧ spB g Q d m p
def rdQ (g : gT) (ly d m : Nat) : Prop := rdP g ly d m ∧ m ≠ 12 * ly + d
theorem elK_iff {g : gT} {Q Q2 : Nat → Prop} {bt k : Nat} {nm tn : Int32} (hk : k ≤ 72) (h : ∀ m, m < 72 → (Q m ↔ Q2 m)) : elK g Q bt nm tn k ↔ elK g Q2 bt nm tn k := by
  constructor
  · intro ⟨m, h1, h2, h3, h4⟩
    exact ⟨m, h1, h2, (h m (by omega)).mp h3, h4⟩
  · intro ⟨m, h1, h2, h3, h4⟩
    exact ⟨m, h1, h2, (h m (by omega)).mpr h3, h4⟩
theorem spQ_iff {g : gT} {Q Q2 : Nat → Prop} {d : Nat} (h : ∀ m, m < 72 → (Q m ↔ Q2 m)) : spQ g Q d ↔ spQ g Q2 d := by
  constructor
  · intro ⟨m, h1, h2, p, h3, h4, h5, h6⟩
    exact ⟨m, h1, (h m h1).mp h2, p, h3, h4, h5, h6.imp id (elK_iff (Nat.le_refl _) h).mp⟩
  · intro ⟨m, h1, h2, p, h3, h4, h5, h6⟩
    exact ⟨m, h1, (h m h1).mpr h2, p, h3, h4, h5, h6.imp id (elK_iff (Nat.le_refl _) h).mpr⟩
theorem g24 {g g2 : gT} (h : ∀ j, j ≠ 24 → g2 j = g j) : g2 = va_up g 24 (g2 24) := by
  funext j
  by_cases e : j = 24
  · subst e; rfl
  · rw [h j e]; simp [va_up, e]
def CYC (g : gT) (nl md : Nat) : Prop := ∃ b, MB g nl md b ∧ tc (stp g nl) b b
def SPL (g : gT) (nl md : Nat) : Prop := ∃ b, MB g nl md b ∧ spQ g (rdQ g nl b) b
noncomputable def rsW (g : gT) (nl md : Nat) : Nat := cif (CYC g nl md) 1 (cif (SPL g nl md) 2 (cif (nl = 5) 3 0))
def cyK (g : gT) (nl k : Nat) : Prop := ∃ j, 12 * nl ≤ j ∧ j < k ∧ ∃ b, g 21 j = nI b ∧ b < 12 ∧ tc (stp g nl) b b
def spK (g : gT) (nl k : Nat) : Prop := ∃ j, 12 * nl ≤ j ∧ j < k ∧ ∃ b, g 21 j = nI b ∧ b < 12 ∧ spQ g (rdQ g nl b) b
theorem cyK_all {g : gT} {nl md : Nat} : cyK g nl (12 * nl + md) ↔ CYC g nl md := by
  constructor
  · intro ⟨j, h1, h2, b, h3, h4, h5⟩
    exact ⟨b, ⟨h4, j, h1, h2, h3⟩, h5⟩
  · intro ⟨b, ⟨h4, j, h1, h2, h3⟩, h5⟩
    exact ⟨j, h1, h2, b, h3, h4, h5⟩
theorem spK_all {g : gT} {nl md : Nat} : spK g nl (12 * nl + md) ↔ SPL g nl md := by
  constructor
  · intro ⟨j, h1, h2, b, h3, h4, h5⟩
    exact ⟨b, ⟨h4, j, h1, h2, h3⟩, h5⟩
  · intro ⟨b, ⟨h4, j, h1, h2, h3⟩, h5⟩
    exact ⟨j, h1, h2, b, h3, h4, h5⟩
theorem rsW_le {g : gT} {nl md : Nat} : rsW g nl md ≤ 3 := by
  unfold rsW
  by_cases h1 : CYC g nl md
  · rw [cif_pos h1]; omega
  · rw [cif_neg h1]
    by_cases h2 : SPL g nl md
    · rw [cif_pos h2]; omega
    · rw [cif_neg h2]
      by_cases h3 : nl = 5
      · rw [cif_pos h3]; omega
      · rw [cif_neg h3]; omega
theorem rsW_0 {g : gT} {nl md : Nat} (h : rsW g nl md = 0) : nl ≠ 5 := fun q => by
  unfold rsW at h
  by_cases h1 : CYC g nl md
  · rw [cif_pos h1] at h; omega
  · rw [cif_neg h1] at h
    by_cases h2 : SPL g nl md
    · rw [cif_pos h2] at h; omega
    · rw [cif_neg h2, cif_pos q] at h; omega
