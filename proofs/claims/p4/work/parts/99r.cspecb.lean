def LSp (g : gT) (n d k t : Nat) : Prop := ∃ i, i < k ∧ g 17 (5 * d + i) = 0 ∧ ∃ la e, lkG g (n + 1) (g 13 (5 * d + i)) = some (la, e) ∧ t = 12 * la + e
def CSp (g : gT) (n d k t : Nat) : Prop := ∃ i, i < k ∧ ¬ g 16 (5 * d + i) = 0 ∧ ∃ la e, lkG g (n + 1) (g 13 (5 * d + i)) = some (la, e) ∧ (t = 12 * la + e ∨ (¬ la = n ∧ tc (pst g) (12 * la + e) t))
theorem LSp_y {g : gT} {n d i t la e : Nat} (h : g 17 (5 * d + i) = 0) (hl : lkG g (n + 1) (g 13 (5 * d + i)) = some (la, e)) : LSp g n d (i + 1) t ↔ (LSp g n d i t ∨ t = 12 * la + e) := by
  constructor
  · intro ⟨j, h1, h2, la2, e2, h3, h4⟩
    rcases Nat.lt_or_ge j i with q | q
    · exact Or.inl ⟨j, q, h2, la2, e2, h3, h4⟩
    · rw [show j = i by omega, hl] at h3
      have q1 := congrArg Prod.fst (Option.some.inj h3)
      have q2 := congrArg Prod.snd (Option.some.inj h3)
      simp only at q1 q2
      exact Or.inr (by omega)
  · rintro (⟨j, h1, h2⟩ | q)
    · exact ⟨j, by omega, h2⟩
    · exact ⟨i, by omega, h, la, e, hl, q⟩
theorem LSp_n {g : gT} {n d i t : Nat} (h : ¬ g 17 (5 * d + i) = 0 ∨ lkG g (n + 1) (g 13 (5 * d + i)) = none) : LSp g n d (i + 1) t ↔ LSp g n d i t := by
  constructor
  · intro ⟨j, h1, h2, la2, e2, h3, h4⟩
    rcases Nat.lt_or_ge j i with q | q
    · exact ⟨j, q, h2, la2, e2, h3, h4⟩
    · rw [show j = i by omega] at h2 h3
      rcases h with z | z
      · exact absurd h2 z
      · rw [z] at h3; cases h3
  · intro ⟨j, h1, h2⟩
    exact ⟨j, by omega, h2⟩
theorem CSp_y {g : gT} {n d i t la e : Nat} (h : ¬ g 16 (5 * d + i) = 0) (hl : lkG g (n + 1) (g 13 (5 * d + i)) = some (la, e)) : CSp g n d (i + 1) t ↔ (CSp g n d i t ∨ (t = 12 * la + e ∨ (¬ la = n ∧ tc (pst g) (12 * la + e) t))) := by
  constructor
  · intro ⟨j, h1, h2, la2, e2, h3, h4⟩
    rcases Nat.lt_or_ge j i with q | q
    · exact Or.inl ⟨j, q, h2, la2, e2, h3, h4⟩
    · rw [show j = i by omega, hl] at h3
      have q1 := congrArg Prod.fst (Option.some.inj h3)
      have q2 := congrArg Prod.snd (Option.some.inj h3)
      simp only at q1 q2
      subst q1
      subst q2
      exact Or.inr h4
  · rintro (⟨j, h1, h2⟩ | q)
    · exact ⟨j, by omega, h2⟩
    · exact ⟨i, by omega, h, la, e, hl, q⟩
theorem CSp_n {g : gT} {n d i t : Nat} (h : g 16 (5 * d + i) = 0 ∨ lkG g (n + 1) (g 13 (5 * d + i)) = none) : CSp g n d (i + 1) t ↔ CSp g n d i t := by
  constructor
  · intro ⟨j, h1, h2, la2, e2, h3, h4⟩
    rcases Nat.lt_or_ge j i with q | q
    · exact ⟨j, q, h2, la2, e2, h3, h4⟩
    · rw [show j = i by omega] at h2 h3
      rcases h with z | z
      · exact absurd z h2
      · rw [z] at h3; cases h3
  · intro ⟨j, h1, h2⟩
    exact ⟨j, by omega, h2⟩
theorem LSp_0 {g : gT} {n d t : Nat} : ¬ LSp g n d 0 t := fun ⟨j, h, _⟩ => by omega
theorem CSp_0 {g : gT} {n d t : Nat} : ¬ CSp g n d 0 t := fun ⟨j, h, _⟩ => by omega
def CBs (g : gT) (E : Nat → Nat → va_E) (n : Nat) : Prop := ∀ la, la < n → ∀ k, k < iN (g 20 la) → ∀ t, t < 72 → (BS (eA (E (20 + la) (16 + 10 * k))) t ↔ tc (pst g) (12 * la + mdv g la k) t)
theorem CBs_same {g : gT} {E E' : Nat → Nat → va_E} {n : Nat} (h : ∀ la o, la < n → E' (20 + la) o = E (20 + la) o) (hc : CBs g E n) : CBs g E' n := fun la hl k hk t ht => by rw [h la _ hl]; exact hc la hl k hk t ht
theorem TLas_ro {g : gT} {ad : Nat → Nat → Nat} {E E' : Nat → Nat → va_E} {nd nL : Nat} (h : ∀ n o, n < nL → (o = 0 ∨ o = 1 ∨ ∃ k, o = 10 + 10 * k) → E' (20 + n) o = E (20 + n) o) (ht : TLas g ad E nd nL) : TLas g ad E' nd nL := fun n hn => by
  unfold TLa
  rw [h n 0 hn (Or.inl rfl), h n 1 hn (Or.inr (Or.inl rfl))]
  obtain ⟨q1, q2, q3, q4⟩ := ht n hn
  exact ⟨q1, q2, q3, fun k hk => by rw [h n (10 + 10 * k) hn (Or.inr (Or.inr ⟨k, rfl⟩))]; exact q4 k hk⟩
def RQX (g : gT) (kA : Nat → ClassId) (ad : Nat → Nat → Nat) (E : Nat → Nat → va_E) (RL : List (Nat × Nat)) (nd n d m : Nat) (fr : Nat → Option Nat) : Prop := ∀ j, j < m → (fr j = none ∧ lkG g (n + 1) (g 13 (5 * d + j)) = none) ∨ ∃ x9 k9, x9 ≤ n ∧ fr j = some (ad (20 + x9) (10 + 10 * k9)) ∧ MEI kA ad E RL nd x9 k9 ∧ k9 < iN (g 20 x9) ∧ lkG g (n + 1) (g 13 (5 * d + j)) = some (x9, mdv g x9 k9)
theorem RQX_RQ {g : gT} {kA : Nat → ClassId} {ad : Nat → Nat → Nat} {E : Nat → Nat → va_E} {RL : List (Nat × Nat)} {nd n d m : Nat} {fr : Nat → Option Nat} (h : RQX g kA ad E RL nd n d m fr) : RQ kA ad E RL nd n m fr := fun j hj => by
  rcases h j hj with q | ⟨x, k, q1, q2, q3, _⟩
  · exact Or.inl q.1
  · exact Or.inr ⟨x, k, q1, q2, q3⟩
theorem RQX_RU {g : gT} {kA : Nat → ClassId} {ad : Nat → Nat → Nat} {E E' : Nat → Nat → va_E} {RL : List (Nat × Nat)} {nd n d m : Nat} {fr : Nat → Option Nat} (hR : RU kA E E') (h : RQX g kA ad E RL nd n d m fr) : RQX g kA ad E' RL nd n d m fr := fun j hj => by
  rcases h j hj with q | ⟨x, k, q1, q2, q3, q4⟩
  · exact Or.inl q
  · exact Or.inr ⟨x, k, q1, q2, MEI_RU hR q3, q4⟩
theorem RQX_addN {g : gT} {kA : Nat → ClassId} {ad : Nat → Nat → Nat} {E : Nat → Nat → va_E} {RL : List (Nat × Nat)} {nd n d m : Nat} {fr : Nat → Option Nat} (hl : lkG g (n + 1) (g 13 (5 * d + m)) = none) (h : RQX g kA ad E RL nd n d m fr) : RQX g kA ad E RL nd n d (m + 1) (va_up fr m none) := fun j hj => by
  by_cases q : j = m
  · rw [q]; exact Or.inl ⟨vu_eq, hl⟩
  · rw [vu_ne q]; exact h j (by omega)
theorem RQX_add {g : gT} {kA : Nat → ClassId} {ad : Nat → Nat → Nat} {E : Nat → Nat → va_E} {RL : List (Nat × Nat)} {nd n d m x k : Nat} {fr : Nat → Option Nat} (hx : x ≤ n) (hM : MEI kA ad E RL nd x k) (hk : k < iN (g 20 x)) (hl : lkG g (n + 1) (g 13 (5 * d + m)) = some (x, mdv g x k)) (h : RQX g kA ad E RL nd n d m fr) : RQX g kA ad E RL nd n d (m + 1) (va_up fr m (some (ad (20 + x) (10 + 10 * k)))) := fun j hj => by
  by_cases q : j = m
  · rw [q]; exact Or.inr ⟨x, k, hx, vu_eq, hM, hk, hl⟩
  · rw [vu_ne q]; exact h j (by omega)
