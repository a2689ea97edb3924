theorem NT_congr {n : Nat} {f to to2 : Nat → Int32} (h : ∀ j, j < 3 → to2 j = to j) (ht : NT n f to) : NT n f to2 := fun j hj => by rw [h j hj]; exact ht j hj
theorem TG_congr {a b c : va_E} {all : Int32} {to to2 : Nat → Int32} (h : ∀ j, j < 3 → to2 j = to j) (ht : TG a b c all to) : TG a b c all to2 := ⟨ht.1, fun q => NT_congr h (ht.2 q)⟩
def AG (g g' : gT) (d : Nat) : Prop := g' 3 d = g 3 d ∧ g' 4 d = g 4 d ∧ g' 5 d = g 5 d ∧ g' 11 d = g 11 d ∧ g' 12 d = g 12 d ∧ (∀ i, i < 6 → g' 6 (6 * d + i) = g 6 (6 * d + i) ∧ g' 9 (6 * d + i) = g 9 (6 * d + i) ∧ g' 10 (6 * d + i) = g 10 (6 * d + i) ∧ ∀ j, j < 3 → g' 7 (3 * (6 * d + i) + j) = g 7 (3 * (6 * d + i) + j) ∧ g' 8 (3 * (6 * d + i) + j) = g 8 (3 * (6 * d + i) + j)) ∧ (∀ i, i < 5 → g' 13 (5 * d + i) = g 13 (5 * d + i) ∧ g' 16 (5 * d + i) = g 16 (5 * d + i) ∧ g' 17 (5 * d + i) = g 17 (5 * d + i)) ∧ ∀ i, i < 3 → g' 14 (3 * d + i) = g 14 (3 * d + i) ∧ g' 15 (3 * d + i) = g 15 (3 * d + i)
theorem TD_AG {g g' : gT} {kA : Nat → ClassId} {d : Nat} {a : Nat → Nat} {e : Nat → va_E} {m : Nat → Prop} (hD : DI kA d a e m) (hA : AG g g' d) (h : TD g e d) : TD g' e d := by
  obtain ⟨_, fd, nm, st, k0, k1, k2, k3, f0, f1, f2, f3, fe, fo, tr, op, g0, g1, g2, g3, c0, c1, c2, c3, c4, c5, c6, c7, c8, c9, c10, c11, c12, hg⟩ := hD
  obtain ⟨⟨t1, t2, t3, t4, t5, t6, t7, t8, t9⟩, tg⟩ := TD_get g0 g1 g2 g3 c0 c1 c2 c3 c4 c5 c6 c7 c8 c11 c12 h
  obtain ⟨q3, q4, q5, q11, q12, q6, q13, q14⟩ := hA
  refine TD_mk g0 g1 g2 g3 c0 c1 c2 c3 c4 c5 c6 c7 c8 c11 c12 ⟨t1.trans q3.symm, t2.trans q4.symm, t3.trans q11.symm, t4.trans q5.symm, fun i hi => by rw [(q6 i (by omega)).1]; exact t5 i hi, t6.trans q12.symm, fun i hi => by rw [(q13 i (by omega)).1, (q13 i (by omega)).2.1, (q13 i (by omega)).2.2]; exact t7 i hi, NT_congr (fun j hj => (q14 j hj).1) t8, NT_congr (fun j hj => (q14 j hj).2) t9⟩ (fun i hi => ?_)
  have q := q6 i (by omega)
  rw [q.2.1, q.2.2.1]
  exact ⟨TG_congr (fun j hj => (q.2.2.2 j hj).1) (tg i hi).1, TG_congr (fun j hj => (q.2.2.2 j hj).2) (tg i hi).2⟩
def pkU (g : gT) (d : Nat) (x : Int32) : gT := va_up (va_up g 5 (upd (g 5) d (nI (iN (g 5 d) + 1)))) 6 (upd (g 6) (6 * d + iN (g 5 d)) x)
theorem TT_P {g : gT} {d : Nat} {fd nm sd x : Int32} {k0 k1 k2 k3 : Nat} {f0 f1 f2 f3 tr op : Nat → Int32} (b0 : k0 ≤ 6) (h : TT g d fd nm sd k0 k1 k2 k3 f0 f1 f2 f3 tr op) : TT (pkU g d x) d fd nm sd (k0 + 1) k1 k2 k3 (upd f0 k0 x) f1 f2 f3 tr op := by
  obtain ⟨t1, t2, t3, t4, t5, t6, t7, t8, t9⟩ := h
  have e : iN (g 5 d) = k0 := by rw [← t4, iN_nI (by omega)]
  refine ⟨t1, t2, t3, ?_, fun i hi => ?_, t6, t7, t8, t9⟩
  · show nI (k0 + 1) = upd (g 5) d (nI (iN (g 5 d) + 1)) d
    rw [pk_us, e]
  · show upd f0 k0 x i = upd (g 6) (6 * d + iN (g 5 d)) x (6 * d + i)
    rw [e]
    by_cases q : i = k0
    · rw [q, pk_us, pk_us]
    · rw [pk_un q, pk_un (by omega)]; exact t5 i (by omega)
theorem AG_P {g : gT} {x d : Nat} {n : Int32} (hk : iN (g 5 x) < 6) (h : d ≠ x) : AG g (pkU g x n) d := by
  refine ⟨rfl, rfl, ?_, rfl, rfl, fun i hi => ⟨?_, rfl, rfl, fun j _ => ⟨rfl, rfl⟩⟩, fun i _ => ⟨rfl, rfl, rfl⟩, fun i _ => ⟨rfl, rfl⟩⟩
  · show upd (g 5) x _ d = _
    rw [pk_un h]
  · show upd (g 6) (6 * x + iN (g 5 x)) n (6 * d + i) = _
    rw [pk_un (by omega)]
def rqU (g : gT) (d : Nat) (x t o : Int32) : gT := va_up (va_up (va_up (va_up g 12 (upd (g 12) d (nI (iN (g 12 d) + 1)))) 13 (upd (g 13) (5 * d + iN (g 12 d)) x)) 16 (upd (g 16) (5 * d + iN (g 12 d)) t)) 17 (upd (g 17) (5 * d + iN (g 12 d)) o)
theorem TT_R {g : gT} {d : Nat} {fd nm sd x t o : Int32} {k0 k1 k2 k3 : Nat} {f0 f1 f2 f3 tr op : Nat → Int32} (b1 : k1 ≤ 5) (h : TT g d fd nm sd k0 k1 k2 k3 f0 f1 f2 f3 tr op) : TT (rqU g d x t o) d fd nm sd k0 (k1 + 1) k2 k3 f0 (upd f1 k1 x) f2 f3 (upd tr k1 t) (upd op k1 o) := by
  obtain ⟨t1, t2, t3, t4, t5, t6, t7, t8, t9⟩ := h
  have e : iN (g 12 d) = k1 := by rw [← t6, iN_nI (by omega)]
  refine ⟨t1, t2, t3, t4, t5, ?_, fun i hi => ?_, t8, t9⟩
  · show nI (k1 + 1) = upd (g 12) d (nI (iN (g 12 d) + 1)) d
    rw [pk_us, e]
  · show upd f1 k1 x i = upd (g 13) (5 * d + iN (g 12 d)) x (5 * d + i) ∧ upd tr k1 t i = upd (g 16) (5 * d + iN (g 12 d)) t (5 * d + i) ∧ upd op k1 o i = upd (g 17) (5 * d + iN (g 12 d)) o (5 * d + i)
    rw [e]
    by_cases q : i = k1
    · rw [q, pk_us, pk_us, pk_us, pk_us, pk_us, pk_us]; exact ⟨rfl, rfl, rfl⟩
    · rw [pk_un q, pk_un q, pk_un q, pk_un (by omega), pk_un (by omega), pk_un (by omega)]; exact t7 i (by omega)
theorem AG_R {g : gT} {x d : Nat} {n t o : Int32} (hk : iN (g 12 x) < 5) (h : d ≠ x) : AG g (rqU g x n t o) d := by
  refine ⟨rfl, rfl, rfl, rfl, ?_, fun i hi => ⟨rfl, rfl, rfl, fun j _ => ⟨rfl, rfl⟩⟩, fun i hi => ⟨?_, ?_, ?_⟩, fun i _ => ⟨rfl, rfl⟩⟩
  · show upd (g 12) x _ d = _
    rw [pk_un h]
  · show upd (g 13) (5 * x + iN (g 12 x)) n (5 * d + i) = _
    rw [pk_un (by omega)]
  · show upd (g 16) (5 * x + iN (g 12 x)) t (5 * d + i) = _
    rw [pk_un (by omega)]
  · show upd (g 17) (5 * x + iN (g 12 x)) o (5 * d + i) = _
    rw [pk_un (by omega)]
theorem NT_add {n : Nat} {f : Nat → Int32} {G : Nat → Int32} {b : Nat} {x : Int32} (hn : n < 3) (hx : 0 < x) (h : NT n f (fun i => G (b + i))) : NT (n + 1) (upd f n x) (fun i => upd G (b + n) x (b + i)) := fun j hj => by
  show (j < n + 1 → upd f n x j = upd G (b + n) x (b + j) ∧ 0 < upd G (b + n) x (b + j)) ∧ (n + 1 ≤ j → upd G (b + n) x (b + j) = 0)
  by_cases q : j = n
  · rw [q, pk_us, pk_us]; exact ⟨fun _ => ⟨rfl, hx⟩, fun z => absurd z (by omega)⟩
  · rw [pk_un q, pk_un (by omega)]; exact ⟨fun z => (h j hj).1 (by omega), fun z => (h j hj).2 (by omega)⟩
theorem NT_sv {n : Nat} {f F : Nat → Int32} {d : Nat} (hn : n < 3) (h : NT n f (fun i => F (3 * d + i))) : svF F d = some n := by
  unfold svF
  refine ff_some hn ((h n hn).2 (Nat.le_refl _)) (fun j hj q => ?_)
  have := ((h j (by omega)).1 hj).2
  have q2 : F (3 * d + j) = 0 := q
  rw [show (fun i => F (3 * d + i)) j = F (3 * d + j) from rfl, q2] at this
  exact absurd this (by decide)
theorem NT_sn {n : Nat} {f F : Nat → Int32} {d : Nat} (hn : 3 ≤ n) (h : NT n f (fun i => F (3 * d + i))) : svF F d = none := by
  unfold svF
  refine ff_none (fun j hj q => ?_)
  have := ((h j hj).1 (by omega)).2
  have q2 : F (3 * d + j) = 0 := q
  rw [show (fun i => F (3 * d + i)) j = F (3 * d + j) from rfl, q2] at this
  exact absurd this (by decide)
theorem AG_S {g : gT} {a x k d : Nat} {n : Int32} (ha : a = 14 ∨ a = 15) (hk : k < 3) (h : d ≠ x) : AG g (va_up g a (upd (g a) (3 * x + k) n)) d := by
  rcases ha with rfl | rfl
  · refine ⟨rfl, rfl, rfl, rfl, rfl, fun i hi => ⟨rfl, rfl, rfl, fun j _ => ⟨rfl, rfl⟩⟩, fun i hi => ⟨rfl, rfl, rfl⟩, fun i hi => ⟨?_, rfl⟩⟩
    show upd (g 14) (3 * x + k) n (3 * d + i) = _
    rw [pk_un (by omega)]
  · refine ⟨rfl, rfl, rfl, rfl, rfl, fun i hi => ⟨rfl, rfl, rfl, fun j _ => ⟨rfl, rfl⟩⟩, fun i hi => ⟨rfl, rfl, rfl⟩, fun i hi => ⟨rfl, ?_⟩⟩
    show upd (g 15) (3 * x + k) n (3 * d + i) = _
    rw [pk_un (by omega)]
theorem TT_S2 {g : gT} {d : Nat} {fd nm sd x : Int32} {k0 k1 k2 k3 : Nat} {f0 f1 f2 f3 tr op : Nat → Int32} (b2 : k2 < 3) (hx : 0 < x) (h : TT g d fd nm sd k0 k1 k2 k3 f0 f1 f2 f3 tr op) : TT (va_up g 14 (upd (g 14) (3 * d + k2) x)) d fd nm sd k0 k1 (k2 + 1) k3 f0 f1 (upd f2 k2 x) f3 tr op := by
  obtain ⟨t1, t2, t3, t4, t5, t6, t7, t8, t9⟩ := h
  exact ⟨t1, t2, t3, t4, t5, t6, t7, NT_add b2 hx t8, t9⟩
theorem TT_S3 {g : gT} {d : Nat} {fd nm sd x : Int32} {k0 k1 k2 k3 : Nat} {f0 f1 f2 f3 tr op : Nat → Int32} (b3 : k3 < 3) (hx : 0 < x) (h : TT g d fd nm sd k0 k1 k2 k3 f0 f1 f2 f3 tr op) : TT (va_up g 15 (upd (g 15) (3 * d + k3) x)) d fd nm sd k0 k1 k2 (k3 + 1) f0 f1 f2 (upd f3 k3 x) tr op := by
  obtain ⟨t1, t2, t3, t4, t5, t6, t7, t8, t9⟩ := h
  exact ⟨t1, t2, t3, t4, t5, t6, t7, t8, NT_add b3 hx t9⟩
theorem TDs_upd {g g' : gT} {kA : Nat → ClassId} {ad : Nat → Nat → Nat} {E E' : Nat → Nat → va_E} {RL : List (Nat × Nat)} {nd x : Nat} (hD : DIs kA ad E RL nd) (hE : ∀ d, d < nd → ¬ d = x → E' (1 + d) = E (1 + d)) (hA : ∀ d, d < nd → ¬ d = x → AG g g' d) (hx : TD g' (E' (1 + x)) x) (h : TDs g E nd) : TDs g' E' nd := fun d hd => by
  by_cases q : d = x
  · rw [q]; exact hx
  · rw [hE d hd q]
    exact TD_AG (hD d hd) (hA d hd q) (h d hd)
theorem TDs_add {g g' : gT} {kA : Nat → ClassId} {ad : Nat → Nat → Nat} {E E' : Nat → Nat → va_E} {RL : List (Nat × Nat)} {nd : Nat} (hD : DIs kA ad E RL nd) (hE : ∀ d, d < nd → E' (1 + d) = E (1 + d)) (hA : ∀ d, d < nd → AG g g' d) (hx : TD g' (E' (1 + nd)) nd) (h : TDs g E nd) : TDs g' E' (nd + 1) := fun d hd => by
  by_cases q : d = nd
  · rw [q]; exact hx
  · rw [hE d (by omega)]
    exact TD_AG (hD d (by omega)) (hA d (by omega)) (h d (by omega))
theorem AG_D {g : gT} {x d : Nat} {f n : Int32} (h : d ≠ x) : AG g (va_up (va_up g 3 (upd (g 3) x f)) 4 (upd (g 4) x n)) d := by
  refine ⟨?_, ?_, rfl, rfl, rfl, fun i hi => ⟨rfl, rfl, rfl, fun j _ => ⟨rfl, rfl⟩⟩, fun i hi => ⟨rfl, rfl, rfl⟩, fun i hi => ⟨rfl, rfl⟩⟩
  · show upd (g 3) x f d = _
    rw [pk_un h]
  · show upd (g 4) x n d = _
    rw [pk_un h]
theorem TT_D {g : gT} {x : Nat} {f n : Int32} {f0 f1 f2 f3 tr op : Nat → Int32} (hz : g 5 x = 0 ∧ g 12 x = 0 ∧ g 11 x = 0 ∧ ∀ i, i < 3 → g 14 (3 * x + i) = 0 ∧ g 15 (3 * x + i) = 0) : TT (va_up (va_up g 3 (upd (g 3) x f)) 4 (upd (g 4) x n)) x f n 0 0 0 0 0 f0 f1 f2 f3 tr op := ⟨pk_us.symm, pk_us.symm, hz.2.2.1.symm, hz.1.symm, fun i hi => absurd hi (by omega), hz.2.1.symm, fun i hi => absurd hi (by omega), fun j hj => ⟨fun q => absurd q (by omega), fun _ => (hz.2.2.2 j hj).1⟩, fun j hj => ⟨fun q => absurd q (by omega), fun _ => (hz.2.2.2 j hj).2⟩⟩
def FRL (ml nd : Nat) (ad ad' : Nat → Nat → Nat) (E E' : Nat → Nat → va_E) : Prop := (∀ n, n < ml → E' (20 + n) = E (20 + n) ∧ ad' (20 + n) = ad (20 + n)) ∧ (∀ d, d < nd → ad' (1 + d) 0 = ad (1 + d) 0) ∧ E' 0 0 = E 0 0
theorem FRL_rf {ml nd : Nat} {ad : Nat → Nat → Nat} {E : Nat → Nat → va_E} : FRL ml nd ad ad E E := ⟨fun _ _ => ⟨rfl, rfl⟩, fun _ _ => rfl, rfl⟩
