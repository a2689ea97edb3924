def w_st (t : Nat → Int32) : Nat → Nat
  | 0 => 0
  | i + 1 => if t i = 32 then i + 1 else w_st t i
def w_l (t : Nat → Int32) : Nat → List (Nat × Nat)
  | 0 => []
  | i + 1 => if t i = 32 ∧ w_st t i < i then w_l t i ++ [(w_st t i, i)] else w_l t i
def w_all (t : Nat → Int32) (n : Nat) : List (Nat × Nat) := if w_st t n < n then w_l t n ++ [(w_st t n, n)] else w_l t n
theorem w_st_le (t : Nat → Int32) : ∀ i, w_st t i ≤ i
  | 0 => Nat.le_refl _
  | i + 1 => by
    unfold w_st
    split
    · omega
    · have := w_st_le t i
      omega
theorem w_l_len (t : Nat → Int32) : ∀ i, 2 * (w_l t i).length ≤ w_st t i
  | 0 => Nat.le_refl _
  | i + 1 => by
    have h := w_l_len t i
    have h2 := w_st_le t i
    rw [show w_l t (i + 1) = if t i = 32 ∧ w_st t i < i then w_l t i ++ [(w_st t i, i)] else w_l t i from rfl, show w_st t (i + 1) = if t i = 32 then i + 1 else w_st t i from rfl]
    by_cases h3 : t i = 32
    · by_cases h4 : w_st t i < i
      · rw [if_pos ⟨h3, h4⟩, if_pos h3, List.length_append]
        simp only [List.length_cons, List.length_nil]
        omega
      · rw [if_neg (fun q => h4 q.2), if_pos h3]
        omega
    · rw [if_neg (fun q => h3 q.1), if_neg h3]
      exact h
theorem w_all_len (t : Nat → Int32) {n : Nat} (hn : n ≤ 40) : (w_all t n).length ≤ 20 := by
  have h := w_l_len t n
  have h2 := w_st_le t n
  unfold w_all
  split
  · rw [List.length_append]
    simp only [List.length_cons, List.length_nil]
    omega
  · omega
theorem w_l_ok (t : Nat → Int32) : ∀ i, ∀ p ∈ w_l t i, p.1 < p.2 ∧ p.2 ≤ i
  | 0 => fun p hp => by cases hp
  | i + 1 => fun p hp => by
    rw [show w_l t (i + 1) = if t i = 32 ∧ w_st t i < i then w_l t i ++ [(w_st t i, i)] else w_l t i from rfl] at hp
    by_cases h : t i = 32 ∧ w_st t i < i
    · rw [if_pos h] at hp
      rcases List.mem_append.mp hp with q | q
      · have := w_l_ok t i p q
        omega
      · rw [List.mem_singleton] at q
        rw [q]
        exact ⟨h.2, by omega⟩
    · rw [if_neg h] at hp
      have := w_l_ok t i p hp
      omega
theorem w_all_ok (t : Nat → Int32) {n : Nat} : ∀ p ∈ w_all t n, p.1 < p.2 ∧ p.2 ≤ n := fun p hp => by
  unfold w_all at hp
  split at hp
  · next h =>
    rcases List.mem_append.mp hp with q | q
    · exact w_l_ok t n p q
    · rw [List.mem_singleton] at q
      rw [q]
      exact ⟨h, Nat.le_refl _⟩
  · exact w_l_ok t n p hp
theorem w_st_congr {t t2 : Nat → Int32} : ∀ {i : Nat}, (∀ j, j < i → t j = t2 j) → w_st t i = w_st t2 i
  | 0, _ => rfl
  | i + 1, h => by
    rw [show w_st t (i + 1) = if t i = 32 then i + 1 else w_st t i from rfl, show w_st t2 (i + 1) = if t2 i = 32 then i + 1 else w_st t2 i from rfl, h i (by omega), w_st_congr (i := i) (fun j hj => h j (by omega))]
theorem w_l_congr {t t2 : Nat → Int32} : ∀ {i : Nat}, (∀ j, j < i → t j = t2 j) → w_l t i = w_l t2 i
  | 0, _ => rfl
  | i + 1, h => by
    rw [show w_l t (i + 1) = if t i = 32 ∧ w_st t i < i then w_l t i ++ [(w_st t i, i)] else w_l t i from rfl, show w_l t2 (i + 1) = if t2 i = 32 ∧ w_st t2 i < i then w_l t2 i ++ [(w_st t2 i, i)] else w_l t2 i from rfl, h i (by omega), w_l_congr (i := i) (fun j hj => h j (by omega)), w_st_congr (i := i) (fun j hj => h j (by omega))]
theorem w_all_congr {t t2 : Nat → Int32} {n : Nat} (h : ∀ j, j < n → t j = t2 j) : w_all t n = w_all t2 n := by
  unfold w_all
  rw [w_st_congr h, w_l_congr h]
theorem w_ns {t : Nat → Int32} {k : Nat} (h : ¬ t k = 32) : w_l t (k + 1) = w_l t k ∧ w_st t (k + 1) = w_st t k := by
  rw [show w_l t (k + 1) = if t k = 32 ∧ w_st t k < k then w_l t k ++ [(w_st t k, k)] else w_l t k from rfl, show w_st t (k + 1) = if t k = 32 then k + 1 else w_st t k from rfl]
  exact ⟨if_neg (fun q => h q.1), if_neg h⟩
theorem w_sp {t : Nat → Int32} {k : Nat} (h : t k = 32) : w_l t (k + 1) = w_all t k ∧ w_st t (k + 1) = k + 1 := by
  rw [show w_l t (k + 1) = if t k = 32 ∧ w_st t k < k then w_l t k ++ [(w_st t k, k)] else w_l t k from rfl, show w_st t (k + 1) = if t k = 32 then k + 1 else w_st t k from rfl]
  refine ⟨?_, if_pos h⟩
  unfold w_all
  by_cases h2 : w_st t k < k
  · rw [if_pos ⟨h, h2⟩, if_pos h2]
  · rw [if_neg (fun q => h2 q.2), if_neg h2]
theorem w_all_st {t : Nat → Int32} {k : Nat} (h : w_st t k = k) : w_all t k = w_l t k := by
  unfold w_all
  rw [if_neg (by omega)]
theorem w_all_run {t : Nat → Int32} {k : Nat} (h : w_st t k < k) : w_all t k = w_l t k ++ [(w_st t k, k)] := by
  unfold w_all
  rw [if_pos h]
def n_fold (t : Nat → Int32) : Nat → Nat → Int32 → Int32
  | _, 0, a => a
  | b, m + 1, a => n_fold t (b + 1) m (a * 27 + (t b - 97 + 1))
def n_small (t : Nat → Int32) : Nat → Nat → Prop
  | _, 0 => True
  | b, m + 1 => (¬ t b < 97 ∧ ¬ 122 < t b) ∧ n_small t (b + 1) m
theorem n_fold_r (t : Nat → Int32) : ∀ (m b : Nat) (a : Int32), n_fold t b (m + 1) a = n_fold t b m a * 27 + (t (b + m) - 97 + 1)
  | 0, _, _ => rfl
  | m + 1, b, a => by
    show n_fold t (b + 1) (m + 1) (a * 27 + (t b - 97 + 1)) = n_fold t (b + 1) m (a * 27 + (t b - 97 + 1)) * 27 + (t (b + (m + 1)) - 97 + 1)
    rw [n_fold_r t m (b + 1)]
    rw [show b + 1 + m = b + (m + 1) by omega]
theorem n_step (a x : Int32) : 27 * a + x - 96 = a * 27 + (x - 97 + 1) := by
  rw [Int32.mul_comm 27 a, Int32.sub_eq_add_neg, Int32.sub_eq_add_neg, Int32.add_assoc, Int32.add_assoc x (-97) 1, show (-97 : Int32) + 1 = -96 by decide]
def n_val (t : Nat → Int32) (b e : Nat) : Int32 → Prop := fun r => (e - b ≤ 4 ∧ n_small t b (e - b) ∧ r = n_fold t b (e - b) 0) ∨ (¬ (e - b ≤ 4 ∧ n_small t b (e - b)) ∧ r = 0)
theorem n_val_one {t : Nat → Int32} {b e : Nat} {r r2 : Int32} (h : n_val t b e r) (h2 : n_val t b e r2) : r = r2 := by
  rcases h with ⟨h1, h3, h4⟩ | ⟨h1, h3⟩ <;> rcases h2 with ⟨g1, g3, g4⟩ | ⟨g1, g3⟩
  · rw [h4, g4]
  · exact absurd ⟨h1, h3⟩ g1
  · exact absurd ⟨g1, g3⟩ h1
  · rw [h3, g3]
theorem n_small_congr {t t2 : Nat → Int32} : ∀ {m b : Nat}, (∀ j, b ≤ j → j < b + m → t j = t2 j) → (n_small t b m ↔ n_small t2 b m)
  | 0, _, _ => Iff.rfl
  | m + 1, b, h => by
    show ((¬ t b < 97 ∧ ¬ 122 < t b) ∧ n_small t (b + 1) m) ↔ ((¬ t2 b < 97 ∧ ¬ 122 < t2 b) ∧ n_small t2 (b + 1) m)
    rw [h b (by omega) (by omega), n_small_congr (m := m) (b := b + 1) (fun j h1 h2 => h j (by omega) (by omega))]
theorem n_fold_congr {t t2 : Nat → Int32} : ∀ {m b : Nat} {a : Int32}, (∀ j, b ≤ j → j < b + m → t j = t2 j) → n_fold t b m a = n_fold t2 b m a
  | 0, _, _, _ => rfl
  | m + 1, b, a, h => by
    show n_fold t (b + 1) m (a * 27 + (t b - 97 + 1)) = n_fold t2 (b + 1) m (a * 27 + (t2 b - 97 + 1))
    rw [h b (by omega) (by omega), n_fold_congr (m := m) (b := b + 1) (fun j h1 h2 => h j (by omega) (by omega))]
theorem n_small_r {t : Nat → Int32} : ∀ {m b : Nat}, n_small t b (m + 1) ↔ (n_small t b m ∧ ¬ t (b + m) < 97 ∧ ¬ 122 < t (b + m))
  | 0, b => by
    show ((¬ t b < 97 ∧ ¬ 122 < t b) ∧ True) ↔ (True ∧ ¬ t b < 97 ∧ ¬ 122 < t b)
    constructor
    · exact fun h => ⟨trivial, h.1⟩
    · exact fun h => ⟨h.2, trivial⟩
  | m + 1, b => by
    have h := n_small_r (t := t) (m := m) (b := b + 1)
    rw [show b + 1 + m = b + (m + 1) by omega] at h
    show ((¬ t b < 97 ∧ ¬ 122 < t b) ∧ n_small t (b + 1) (m + 1)) ↔ (((¬ t b < 97 ∧ ¬ 122 < t b) ∧ n_small t (b + 1) m) ∧ ¬ t (b + (m + 1)) < 97 ∧ ¬ 122 < t (b + (m + 1)))
    rw [h]
    constructor
    · exact fun q => ⟨⟨q.1, q.2.1⟩, q.2.2⟩
    · exact fun q => ⟨q.1.1, q.1.2, q.2⟩
