def TT (g : gT) (d : Nat) (fd nm sd : Int32) (k0 k1 k2 k3 : Nat) (f0 f1 f2 f3 tr op : Nat → Int32) : Prop := fd = g 3 d ∧ nm = g 4 d ∧ sd = g 11 d ∧ nI k0 = g 5 d ∧ (∀ i, i < k0 → f0 i = g 6 (6 * d + i)) ∧ nI k1 = g 12 d ∧ (∀ i, i < k1 → f1 i = g 13 (5 * d + i) ∧ tr i = g 16 (5 * d + i) ∧ op i = g 17 (5 * d + i)) ∧ NT k2 f2 (fun i => g 14 (3 * d + i)) ∧ NT k3 f3 (fun i => g 15 (3 * d + i))
theorem TD_get {g : gT} {e : Nat → va_E} {d : Nat} {v0 v3 v4 v5 v6 v7 v8 v9 v10 w1 w2 w3 w4 : Value} {fd nm sd : Int32} {k0 k1 k2 k3 n5 n6 n7 n8 n11 n12 : Nat} {f0 f1 f2 f3 tr op : Nat → Int32} {a5 a6 a7 a8 a11 a12 : ClassId} (b0 : k0 ≤ 6) (b1 : k1 ≤ 5) (b2 : k2 ≤ 3) (b3 : k3 ≤ 3) (c0 : e 0 = .inr (7, [v0, .int fd, .int nm, v3, v4, v5, v6, v7, v8, v9, v10, .int sd])) (c1 : e 1 = .inr (8, [w1, .int (nI k0)])) (c2 : e 2 = .inr (8, [w2, .int (nI k1)])) (c3 : e 3 = .inr (8, [w3, .int (nI k2)])) (c4 : e 4 = .inr (8, [w4, .int (nI k3)])) (c5 : e 5 = .inl (a5, n5, .inl f0)) (c6 : e 6 = .inl (a6, n6, .inl f1)) (c7 : e 7 = .inl (a7, n7, .inl f2)) (c8 : e 8 = .inl (a8, n8, .inl f3)) (c11 : e 11 = .inl (a11, n11, .inl tr)) (c12 : e 12 = .inl (a12, n12, .inl op)) (h : TD g e d) : TT g d fd nm sd k0 k1 k2 k3 f0 f1 f2 f3 tr op ∧ ∀ i, i < k0 → TG (e (20 + 3 * i)) (e (21 + 3 * i)) (e (22 + 3 * i)) (g 9 (6 * d + i)) (fun j => g 7 (3 * (6 * d + i) + j)) ∧ TG (e (38 + 3 * i)) (e (39 + 3 * i)) (e (40 + 3 * i)) (g 10 (6 * d + i)) (fun j => g 8 (3 * (6 * d + i) + j)) := by
  obtain ⟨h1, h2, h3, h4, h5, h6, h7, h8, h9, h10⟩ := h
  rw [c0] at h1 h2 h3
  rw [c1] at h4
  have e4 : nI k0 = g 5 d := h4
  have i4 : iN (g 5 d) = k0 := by rw [← e4, iN_nI (by omega)]
  rw [c2] at h6
  have e6 : nI k1 = g 12 d := h6
  have i6 : iN (g 12 d) = k1 := by rw [← e6, iN_nI (by omega)]
  rw [i4] at h5 h10
  rw [i6] at h7
  rw [c5] at h5
  rw [c6, c11, c12] at h7
  rw [c3, c7] at h8
  rw [c4, c8] at h9
  have i8 : iN (eI (.inr (8, [w3, .int (nI k2)])) 1) = k2 := iN_nI (by omega)
  have i9 : iN (eI (.inr (8, [w4, .int (nI k3)])) 1) = k3 := iN_nI (by omega)
  rw [i8] at h8
  rw [i9] at h9
  exact ⟨⟨h1, h2, h3, e4, h5, e6, h7, h8, h9⟩, h10⟩
theorem TD_mk {g : gT} {e : Nat → va_E} {d : Nat} {v0 v3 v4 v5 v6 v7 v8 v9 v10 w1 w2 w3 w4 : Value} {fd nm sd : Int32} {k0 k1 k2 k3 n5 n6 n7 n8 n11 n12 : Nat} {f0 f1 f2 f3 tr op : Nat → Int32} {a5 a6 a7 a8 a11 a12 : ClassId} (b0 : k0 ≤ 6) (b1 : k1 ≤ 5) (b2 : k2 ≤ 3) (b3 : k3 ≤ 3) (c0 : e 0 = .inr (7, [v0, .int fd, .int nm, v3, v4, v5, v6, v7, v8, v9, v10, .int sd])) (c1 : e 1 = .inr (8, [w1, .int (nI k0)])) (c2 : e 2 = .inr (8, [w2, .int (nI k1)])) (c3 : e 3 = .inr (8, [w3, .int (nI k2)])) (c4 : e 4 = .inr (8, [w4, .int (nI k3)])) (c5 : e 5 = .inl (a5, n5, .inl f0)) (c6 : e 6 = .inl (a6, n6, .inl f1)) (c7 : e 7 = .inl (a7, n7, .inl f2)) (c8 : e 8 = .inl (a8, n8, .inl f3)) (c11 : e 11 = .inl (a11, n11, .inl tr)) (c12 : e 12 = .inl (a12, n12, .inl op)) (h : TT g d fd nm sd k0 k1 k2 k3 f0 f1 f2 f3 tr op) (hg : ∀ i, i < k0 → TG (e (20 + 3 * i)) (e (21 + 3 * i)) (e (22 + 3 * i)) (g 9 (6 * d + i)) (fun j => g 7 (3 * (6 * d + i) + j)) ∧ TG (e (38 + 3 * i)) (e (39 + 3 * i)) (e (40 + 3 * i)) (g 10 (6 * d + i)) (fun j => g 8 (3 * (6 * d + i) + j))) : TD g e d := by
  obtain ⟨h1, h2, h3, h4, h5, h6, h7, h8, h9⟩ := h
  have i4 : iN (g 5 d) = k0 := by rw [← h4, iN_nI (by omega)]
  have i6 : iN (g 12 d) = k1 := by rw [← h6, iN_nI (by omega)]
  refine ⟨by rw [c0]; exact h1, by rw [c0]; exact h2, by rw [c0]; exact h3, by rw [c1]; exact h4, ?_, by rw [c2]; exact h6, ?_, ?_, ?_, ?_⟩
  · rw [i4, c5]; exact h5
  · rw [i6, c6, c11, c12]; exact h7
  · rw [c3, c7, show iN (eI (.inr (8, [w3, .int (nI k2)])) 1) = k2 from iN_nI (by omega)]; exact h8
  · rw [c4, c8, show iN (eI (.inr (8, [w4, .int (nI k3)])) 1) = k3 from iN_nI (by omega)]; exact h9
  · rw [i4]; exact hg
theorem pI_y {g : gT} {d k0 k : Nat} {f0 : Nat → Int32} {n : Int32} (b0 : k0 ≤ 6) (h4 : nI k0 = g 5 d) (h5 : ∀ i, i < k0 → f0 i = g 6 (6 * d + i)) (hk : k < k0) (h : f0 k = n) (hn : ∀ j, j < k → ¬ f0 j = n) : pI g d n = some k := by
  unfold pI
  rw [← h4, iN_nI (by omega)]
  exact ff_some hk (by rw [← h5 k hk]; exact h) (fun j hj q => hn j hj (by rw [h5 j (by omega)]; exact q))
theorem pI_x {g : gT} {d k0 : Nat} {f0 : Nat → Int32} {n : Int32} (b0 : k0 ≤ 6) (h4 : nI k0 = g 5 d) (h5 : ∀ i, i < k0 → f0 i = g 6 (6 * d + i)) (hn : ∀ j, j < k0 → ¬ f0 j = n) : pI g d n = none := by
  unfold pI
  rw [← h4, iN_nI (by omega)]
  exact ff_none (fun j hj q => hn j hj (by rw [h5 j hj]; exact q))
def COV (ta : Int32) (n : Nat) (f : Nat → Int32) (x : Int32) : Prop := ¬ ta = 0 ∨ ∃ k, k < n ∧ f k = x
theorem TG_get {a b c : va_E} {all : Int32} {to : Nat → Int32} {x y : Value} {ta : Int32} {n n3 : Nat} {f : Nat → Int32} {ka : ClassId} (hn : n ≤ 3) (ca : a = .inr (9, [x, .int ta])) (cb : b = .inr (8, [y, .int (nI n)])) (cc : c = .inl (ka, n3, .inl f)) (h : TG a b c all to) : ta = all ∧ (ta = 0 → NT n f to) := by
  obtain ⟨h1, h2⟩ := h
  rw [ca] at h1
  have e1 : ta = all := h1
  rw [cb, cc, show iN (eI (.inr (8, [y, .int (nI n)])) 1) = n from iN_nI (by omega)] at h2
  exact ⟨e1, fun q => h2 (by rw [← e1]; exact q)⟩
theorem TG_mk {a b c : va_E} {all : Int32} {to : Nat → Int32} {x y : Value} {ta : Int32} {n n3 : Nat} {f : Nat → Int32} {ka : ClassId} (hn : n ≤ 3) (ca : a = .inr (9, [x, .int ta])) (cb : b = .inr (8, [y, .int (nI n)])) (cc : c = .inl (ka, n3, .inl f)) (h1 : ta = all) (h2 : ta = 0 → NT n f to) : TG a b c all to := by
  refine ⟨by rw [ca]; exact h1, fun q => ?_⟩
  rw [cb, cc, show iN (eI (.inr (8, [y, .int (nI n)])) 1) = n from iN_nI (by omega)]
  exact h2 (by rw [h1]; exact q)
theorem NT_iff {n : Nat} {f to : Nat → Int32} {x : Int32} (hn : n ≤ 3) (hx : ¬ x = 0) (h : NT n f to) : (∃ k, k < n ∧ f k = x) ↔ (to 0 = x ∨ to 1 = x ∨ to 2 = x) := by
  constructor
  · intro ⟨k, hk, e⟩
    rw [((h k (by omega)).1 hk).1] at e
    rcases (show k = 0 ∨ k = 1 ∨ k = 2 by omega) with q | q | q
    · rw [q] at e; exact Or.inl e
    · rw [q] at e; exact Or.inr (Or.inl e)
    · rw [q] at e; exact Or.inr (Or.inr e)
  · intro q
    have hj : ∀ j, j < 3 → to j = x → ∃ k, k < n ∧ f k = x := fun j hj e => by
      rcases Nat.lt_or_ge j n with z | z
      · exact ⟨j, z, by rw [((h j hj).1 z).1]; exact e⟩
      · rw [(h j hj).2 z] at e; exact absurd e.symm hx
    rcases q with q | q | q
    · exact hj 0 (by omega) q
    · exact hj 1 (by omega) q
    · exact hj 2 (by omega) q
theorem exP_c {g : gT} {p n : Nat} {ta rd : Int32} {f : Nat → Int32} (hn : n ≤ 3) (hr : ¬ rd = 0) (h1 : ta = g 9 p) (h2 : ta = 0 → NT n f (fun j => g 7 (3 * p + j))) : exP g p rd ↔ COV ta n f rd := by
  unfold exP COV
  rw [← h1]
  by_cases q : ta = 0
  · rw [NT_iff hn hr (h2 q)]
    exact Iff.rfl
  · exact ⟨fun _ => Or.inl q, fun _ => Or.inl q⟩
def NZ (g : gT) (nd : Nat) : Prop := ∀ d, d < nd → ¬ g 4 d = 0
