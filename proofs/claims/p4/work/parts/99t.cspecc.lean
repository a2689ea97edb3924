theorem PW_self {F : Nat → Nat → Prop} {nf : Nat → Nat} {v t : Nat} : PW F nf (v + 1) v t ↔ PW F nf v v t := ⟨fun h => h.elim id (fun q => q.2), Or.inl⟩
theorem PW_no {F : Nat → Nat → Prop} {nf : Nat → Nat} {v a t : Nat} (h : ¬ PW F nf v a (nf v)) : PW F nf (v + 1) a t ↔ PW F nf v a t := ⟨fun q => q.elim id (fun z => absurd z.1 h), Or.inl⟩
def PJ (F : Nat → Nat → Prop) (nf : Nat → Nat) (mk via k : Nat) (Rw : Nat → Nat → Int32) : Prop := ∀ j, j < mk → ∀ t, t < 72 → (BS (Rw j) t ↔ ((j < k ∧ PW F nf (via + 1) j t) ∨ (k ≤ j ∧ PW F nf via j t)))
theorem PJ_0 {F : Nat → Nat → Prop} {nf : Nat → Nat} {mk via : Nat} {Rw : Nat → Nat → Int32} (h : ∀ j, j < mk → ∀ t, t < 72 → (BS (Rw j) t ↔ PW F nf via j t)) : PJ F nf mk via 0 Rw := fun j hj t ht => by
  rw [h j hj t ht]
  exact ⟨fun q => Or.inr ⟨Nat.zero_le _, q⟩, fun q => q.elim (fun z => absurd z.1 (Nat.not_lt_zero _)) (fun z => z.2)⟩
theorem PJ_e {F : Nat → Nat → Prop} {nf : Nat → Nat} {mk via k : Nat} {Rw : Nat → Nat → Int32} (hk : mk ≤ k) (h : PJ F nf mk via k Rw) : ∀ j, j < mk → ∀ t, t < 72 → (BS (Rw j) t ↔ PW F nf (via + 1) j t) := fun j hj t ht => by
  rw [h j hj t ht]
  exact ⟨fun q => q.elim (fun z => z.2) (fun z => by omega), fun q => Or.inl ⟨by omega, q⟩⟩
theorem PJ_at {F : Nat → Nat → Prop} {nf : Nat → Nat} {mk via k : Nat} {Rw : Nat → Nat → Int32} (h : PJ F nf mk via k Rw) (hk : k < mk) {t : Nat} (ht : t < 72) : BS (Rw k) t ↔ PW F nf via k t := by
  rw [h k hk t ht]
  exact ⟨fun q => q.elim (fun z => by omega) (fun z => z.2), fun q => Or.inr ⟨Nat.le_refl _, q⟩⟩
theorem PJ_via {F : Nat → Nat → Prop} {nf : Nat → Nat} {mk via k : Nat} {Rw : Nat → Nat → Int32} (h : PJ F nf mk via k Rw) (hv : via < mk) {t : Nat} (ht : t < 72) : BS (Rw via) t ↔ PW F nf via via t := by
  rw [h via hv t ht, PW_self]
  exact ⟨fun q => q.elim (fun z => z.2) (fun z => z.2), fun q => by
    rcases Nat.lt_or_ge via k with z | z
    · exact Or.inl ⟨z, q⟩
    · exact Or.inr ⟨z, q⟩⟩
theorem PJ_n {F : Nat → Nat → Prop} {nf : Nat → Nat} {mk via k : Nat} {Rw : Nat → Nat → Int32} (hn : ¬ PW F nf via k (nf via)) (h : PJ F nf mk via k Rw) : PJ F nf mk via (k + 1) Rw := fun j hj t ht => by
  rw [h j hj t ht]
  by_cases e : j = k
  · subst e
    rw [PW_no hn]
    exact ⟨fun q => Or.inl ⟨by omega, q.elim (fun z => z.2) (fun z => z.2)⟩, fun q => Or.inr ⟨Nat.le_refl _, q.elim (fun z => z.2) (fun z => z.2)⟩⟩
  · constructor
    · rintro (⟨q1, q2⟩ | ⟨q1, q2⟩)
      · exact Or.inl ⟨by omega, q2⟩
      · exact Or.inr ⟨by omega, q2⟩
    · rintro (⟨q1, q2⟩ | ⟨q1, q2⟩)
      · exact Or.inl ⟨by omega, q2⟩
      · exact Or.inr ⟨by omega, q2⟩
theorem PJ_y {F : Nat → Nat → Prop} {nf : Nat → Nat} {mk via k : Nat} {Rw Rw2 : Nat → Nat → Int32} (hv : via < mk) (hk : k < mk) (hy : PW F nf via k (nf via)) (h : PJ F nf mk via k Rw) (ho : ∀ j, j < mk → ¬ j = k → Rw2 j = Rw j) (hn : ∀ t, t < 72 → (BS (Rw2 k) t ↔ (BS (Rw k) t ∨ BS (Rw via) t))) : PJ F nf mk via (k + 1) Rw2 := fun j hj t ht => by
  by_cases e : j = k
  · subst e
    rw [hn t ht, PJ_at h hk ht, PJ_via h hv ht]
    constructor
    · intro q
      exact Or.inl ⟨by omega, q.elim Or.inl (fun z => Or.inr ⟨hy, z⟩)⟩
    · rintro (⟨_, q⟩ | ⟨q, _⟩)
      · exact q.elim Or.inl (fun z => Or.inr z.2)
      · omega
  · rw [ho j hj e, h j hj t ht]
    constructor
    · rintro (⟨q1, q2⟩ | ⟨q1, q2⟩)
      · exact Or.inl ⟨by omega, q2⟩
      · exact Or.inr ⟨by omega, q2⟩
    · rintro (⟨q1, q2⟩ | ⟨q1, q2⟩)
      · exact Or.inl ⟨by omega, q2⟩
      · exact Or.inr ⟨by omega, q2⟩
