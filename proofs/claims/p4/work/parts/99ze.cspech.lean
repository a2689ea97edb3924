theorem AG_11 {g : gT} {f1 f2 : Nat → Int32} {d : Nat} (h : f2 d = f1 d) : AG (va_up g 11 f1) (va_up g 11 f2) d := by
  have e : ∀ j, j ≠ 11 → va_up g 11 f2 j = va_up g 11 f1 j := fun j hj => by rw [vu_ne hj, vu_ne hj]
  exact ⟨congrFun (e 3 (by decide)) d, congrFun (e 4 (by decide)) d, congrFun (e 5 (by decide)) d, by rw [vu_eq, vu_eq]; exact h, congrFun (e 12 (by decide)) d, fun i _ => ⟨congrFun (e 6 (by decide)) _, congrFun (e 9 (by decide)) _, congrFun (e 10 (by decide)) _, fun j _ => ⟨congrFun (e 7 (by decide)) _, congrFun (e 8 (by decide)) _⟩⟩, fun i _ => ⟨congrFun (e 13 (by decide)) _, congrFun (e 16 (by decide)) _, congrFun (e 17 (by decide)) _⟩, fun i _ => ⟨congrFun (e 14 (by decide)) _, congrFun (e 15 (by decide)) _⟩⟩
theorem AG_11g {g : gT} {f : Nat → Int32} {d : Nat} (h : f d = g 11 d) : AG g (va_up g 11 f) d := by
  have q := AG_11 (g := g) (f1 := g 11) (f2 := f) (d := d) h
  rw [up_self rfl] at q; exact q
theorem TD_set11 {g : gT} {f : Nat → Int32} {e e' : Nat → va_E} {d : Nat} {fd nm sd x : Int32} {v0 v3 v4 v5 v6 v7 v8 v9 v10 w0 w3 w4 w5 w6 w7 w8 w9 w10 : Value} (h : TD g e d) (c0 : e 0 = .inr (7, [v0, .int fd, .int nm, v3, v4, v5, v6, v7, v8, v9, v10, .int sd])) (c1 : e' 0 = .inr (7, [w0, .int fd, .int nm, w3, w4, w5, w6, w7, w8, w9, w10, .int x])) (he : ∀ o, ¬ o = 0 → e' o = e o) (hf : f d = x) : TD (va_up g 11 f) e' d := by
  have eg : ∀ j, j ≠ 11 → va_up g 11 f j = g j := fun j hj => vu_ne hj
  unfold TD at h ⊢
  rw [eg 3 (by decide), eg 4 (by decide), eg 5 (by decide), eg 6 (by decide), eg 7 (by decide), eg 8 (by decide), eg 9 (by decide), eg 10 (by decide), eg 12 (by decide), eg 13 (by decide), eg 14 (by decide), eg 15 (by decide), eg 16 (by decide), eg 17 (by decide), vu_eq, he 1 (by decide), he 2 (by decide), he 3 (by decide), he 4 (by decide), he 5 (by decide), he 6 (by decide), he 7 (by decide), he 8 (by decide), he 11 (by decide), he 12 (by decide), c1]
  rw [c0] at h
  obtain ⟨h1, h2, h3, h4, h5, h6, h7, h8, h9, h10⟩ := h
  refine ⟨h1, h2, hf.symm, h4, h5, h6, h7, h8, h9, fun i hi => ?_⟩
  rw [he (20 + 3 * i) (by omega), he (21 + 3 * i) (by omega), he (22 + 3 * i) (by omega), he (38 + 3 * i) (by omega), he (39 + 3 * i) (by omega), he (40 + 3 * i) (by omega)]
  exact h10 i hi
noncomputable def kf (g : gT) (L : List Nat) (k : Nat) : Nat → Int32 := fun d => cif (∃ j, j < k ∧ L.getD j 0 = d) 1 (g 11 d)
theorem kf_0 {g : gT} {L : List Nat} {d : Nat} : kf g L 0 d = g 11 d := cif_neg (fun ⟨j, h, _⟩ => absurd h (Nat.not_lt_zero _))
theorem kf_s {g : gT} {L : List Nat} {k x : Nat} (h : L.getD k 0 = x) : kf g L (k + 1) x = 1 := cif_pos ⟨k, by omega, h⟩
theorem kf_o {g : gT} {L : List Nat} {k d : Nat} (h : ¬ L.getD k 0 = d) : kf g L (k + 1) d = kf g L k d := by
  unfold kf
  by_cases q : ∃ j, j < k ∧ L.getD j 0 = d
  · obtain ⟨j, h1, h2⟩ := q
    rw [cif_pos ⟨j, by omega, h2⟩, cif_pos ⟨j, h1, h2⟩]
  · rw [cif_neg q, cif_neg (fun ⟨j, h1, h2⟩ => q ⟨j, by
      rcases Nat.lt_or_ge j k with z | z
      · exact z
      · exact absurd (by rw [show k = j by omega]; exact h2) h, h2⟩)]
noncomputable def gKl (g : gT) (L : List Nat) : gT := va_up g 11 (fun d => cif (d ∈ L) 1 (g 11 d))
theorem kf_end {g : gT} {L : List Nat} {k : Nat} (h : k = L.length) : va_up g 11 (kf g L k) = gKl g L := by
  unfold gKl
  congr 1
  funext d
  unfold kf
  subst h
  by_cases q : d ∈ L
  · obtain ⟨j, h1, h2⟩ := mem_getD q
    rw [cif_pos q, cif_pos ⟨j, h1, h2⟩]
  · rw [cif_neg q, cif_neg (fun ⟨j, h1, h2⟩ => q (by rw [← h2]; exact getD_mem h1))]
theorem T_21 {g : gT} {kA : Nat → ClassId} {ad : Nat → Nat → Nat} {E : Nat → Nat → va_E} {RL : List (Nat × Nat)} {nd nL n k : Nat} (hnd : nd ≤ 12) (hn : n < nL) (hI : LIs kA ad E RL nd nL) (h : TLas g ad E nd nL) (hk : k < mcv g n) : g 21 (12 * n + k) = nI (mdv g n k) := by
  obtain ⟨_, _, q3, q4⟩ := h n hn
  have q := LIs_12 hI n hn
  unfold mcv at hk
  rw [q3, iN_nI (by omega)] at hk
  obtain ⟨d, q5, q6, _⟩ := q4 k hk
  unfold mdv
  rw [q6, iN_nI (by omega)]
