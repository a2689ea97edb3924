theorem lD_n {t : Nat → Int32} {wl : List (Nat × Nat)} {nd : Nat} {g : gT} (h : ¬ okD t wl nd g) : lD t wl nd g = (nd, g) := by unfold lD; rw [cif_neg h]
theorem lD_y {t : Nat → Int32} {wl : List (Nat × Nat)} {nd : Nat} {g : gT} {f n : Int32} (hf : f = fF t wl) (hn : n = wN t wl 2) (h : okD t wl nd g) : lD t wl nd g = (nd + 1, va_up (va_up g 3 (upd (g 3) nd f)) 4 (upd (g 4) nd n)) := by unfold lD; rw [cif_pos h, hf, hn]
theorem lP_y {t : Nat → Int32} {wl : List (Nat × Nat)} {nd : Nat} {g : gT} (h : okP t wl nd g) : lP t wl nd g = pkU g (nd - 1) (wN t wl 1) := by unfold lP; rw [cif_pos h]; rfl
theorem lR_y {t : Nat → Int32} {wl : List (Nat × Nat)} {nd : Nat} {g : gT} {n x y : Int32} (hn : n = wN t wl (rqB t wl)) (hx : x = bI (rqT t wl)) (hy : y = bI (rqO t wl)) (h : okR t wl nd g) : lR t wl nd g = rqU g (nd - 1) n (vp_nar .boolean x) (vp_nar .boolean y) := by
  unfold lR; rw [cif_pos h, hn, hx, hy, bI_nar, bI_nar]; rfl
theorem lS_y {a : Nat} {t : Nat → Int32} {wl : List (Nat × Nat)} {nd k : Nat} {g : gT} (hp : svF (g a) (nd - 1) = some k) (h : okS a t wl nd g) : lS a t wl nd g = va_up g a (upd (g a) (3 * (nd - 1) + k) (wN t wl 1)) := (lS_ok hp h rfl).symm
theorem fF_0 {t : Nat → Int32} {wl : List (Nat × Nat)} (h : wS t wl 1 [48]) : (0 : Int32) = fF t wl := (cif_pos h).symm
theorem fF_1 {t : Nat → Int32} {wl : List (Nat × Nat)} (h : ¬ wS t wl 1 [48]) : (1 : Int32) = fF t wl := (cif_neg h).symm
theorem wS_ts {t : Nat → Int32} {wl : List (Nat × Nat)} {i : Nat} (h : wS t wl i zTr) (h2 : wS t wl i zSt) : False := by
  have e1 := h.2.1
  have e2 := h2.2.1
  rw [e1] at e2
  exact absurd e2 (by decide)
theorem rq_iff {t : Nat → Int32} {wl : List (Nat × Nat)} {a b : Nat} (ha : (a = 1 ∧ 3 ≤ wl.length ∧ wS t wl 1 zTr) ∨ (a = 0 ∧ ¬ (3 ≤ wl.length ∧ wS t wl 1 zTr))) (hb : (b = 1 ∧ 3 ≤ wl.length ∧ wS t wl (wl.length - 2) zSt) ∨ (b = 0 ∧ ¬ (3 ≤ wl.length ∧ wS t wl (wl.length - 2) zSt))) : (wl.length = rqB t wl + 1 ↔ wl.length = 2 + a + b) ∧ (wl.length = 2 + a + b → ((rqT t wl ↔ a = 1) ∧ (rqO t wl ↔ b = 1) ∧ rqB t wl = wl.length - 1)) := by
  have hT : rqT t wl ↔ a = 1 := by
    unfold rqT
    constructor
    · intro q
      rcases ha with z | z
      · exact z.1
      · exact absurd ⟨by omega, q.2⟩ z.2
    · intro q
      rcases ha with z | z
      · exact ⟨by omega, z.2.2⟩
      · omega
  rcases ha with ⟨ha1, ha2, ha3⟩ | ⟨ha1, ha2⟩
  · have eA : rqA t wl = 2 := by unfold rqA; rw [cif_pos (hT.mpr ha1)]
    have hO : rqO t wl ↔ (3 < wl.length ∧ wS t wl 2 zSt) := by unfold rqO; rw [eA]
    by_cases q : rqO t wl
    · have q2 := hO.mp q
      have eB : rqB t wl = 3 := by unfold rqB; rw [cif_pos q, eA]
      rw [eB]
      rcases hb with ⟨hb1, hb2, hb3⟩ | ⟨hb1, hb2⟩
      · refine ⟨by omega, fun z => ⟨hT, ⟨fun _ => hb1, fun _ => q⟩, by omega⟩⟩
      · refine ⟨⟨fun z => ?_, fun z => by omega⟩, fun z => by omega⟩
        rw [show wl.length - 2 = 2 by omega] at hb2
        exact absurd ⟨by omega, q2.2⟩ hb2
    · have eB : rqB t wl = 2 := by unfold rqB; rw [cif_neg q, eA]
      rw [eB]
      rcases hb with ⟨hb1, hb2, hb3⟩ | ⟨hb1, hb2⟩
      · refine ⟨⟨fun z => ?_, fun z => ?_⟩, fun z => ?_⟩
        · rw [show wl.length - 2 = 1 by omega] at hb3
          exact absurd hb3 (fun z => wS_ts ha3 z)
        · rw [show wl.length - 2 = 2 by omega] at hb3
          exact absurd (hO.mpr ⟨by omega, hb3⟩) q
        · rw [show wl.length - 2 = 2 by omega] at hb3
          exact absurd (hO.mpr ⟨by omega, hb3⟩) q
      · exact ⟨by omega, fun z => ⟨hT, ⟨fun z2 => absurd z2 q, fun z2 => by omega⟩, by omega⟩⟩
  · have hnT : ¬ rqT t wl := fun q => by have := hT.mp q; omega
    have eA : rqA t wl = 1 := by unfold rqA; rw [cif_neg hnT]
    have hO : rqO t wl ↔ (2 < wl.length ∧ wS t wl 1 zSt) := by unfold rqO; rw [eA]
    by_cases q : rqO t wl
    · have q2 := hO.mp q
      have eB : rqB t wl = 2 := by unfold rqB; rw [cif_pos q, eA]
      rw [eB]
      rcases hb with ⟨hb1, hb2, hb3⟩ | ⟨hb1, hb2⟩
      · exact ⟨by omega, fun z => ⟨hT, ⟨fun _ => hb1, fun _ => q⟩, by omega⟩⟩
      · refine ⟨⟨fun z => ?_, fun z => by omega⟩, fun z => by omega⟩
        rw [show wl.length - 2 = 1 by omega] at hb2
        exact absurd ⟨by omega, q2.2⟩ hb2
    · have eB : rqB t wl = 1 := by unfold rqB; rw [cif_neg q, eA]
      rw [eB]
      rcases hb with ⟨hb1, hb2, hb3⟩ | ⟨hb1, hb2⟩
      · refine ⟨⟨fun z => by omega, fun z => ?_⟩, fun z => ?_⟩
        · rw [show wl.length - 2 = 1 by omega] at hb3
          exact absurd (hO.mpr ⟨by omega, hb3⟩) q
        · rw [show wl.length - 2 = 1 by omega] at hb3
          exact absurd (hO.mpr ⟨by omega, hb3⟩) q
      · exact ⟨by omega, fun z => ⟨hT, ⟨fun z2 => absurd z2 q, fun z2 => by omega⟩, by omega⟩⟩
theorem gS_ne {g : gT} {a b j : Nat} {to : Int32} (h : j ≠ a) : gS g a b to j = g j := by
  unfold gS
  cases ff (fun k => g a (b + k) = to ∨ g a (b + k) = 0) 3 with
  | none => rfl
  | some k =>
    simp only
    by_cases q : ¬ g a (b + k) = to
    · rw [cif_pos q]; simp [va_up, h]
    · rw [cif_neg q]
theorem lG_ne {a a2 j : Nat} {t : Nat → Int32} {wl : List (Nat × Nat)} {nd : Nat} {g : gT} (h : j ≠ a) (h2 : j ≠ a2) : lG a a2 t wl nd g j = g j := by
  unfold lG
  cases pI g (nd - 1) (wN t wl 1) with
  | none => rfl
  | some i =>
    simp only
    by_cases q : okG t wl nd g
    · rw [cif_pos q]
      by_cases q2 : wl.length = 2
      · rw [cif_pos q2]; simp [va_up, h2]
      · rw [cif_neg q2]; exact gS_ne h
    · rw [cif_neg q]
theorem gS_at {g : gT} {a b j : Nat} {to : Int32} (h : ∀ k, k < 3 → ¬ j = b + k) : gS g a b to a j = g a j := by
  unfold gS
  cases hq : ff (fun k => g a (b + k) = to ∨ g a (b + k) = 0) 3 with
  | none => rfl
  | some k =>
    simp only
    by_cases q : ¬ g a (b + k) = to
    · rw [cif_pos q]
      show va_up g a (upd (g a) (b + k) to) a j = g a j
      rw [show va_up g a (upd (g a) (b + k) to) a = upd (g a) (b + k) to by simp [va_up], pk_un (h k (ff_is hq).1)]
    · rw [cif_neg q]
theorem lG_a {a a2 j : Nat} {t : Nat → Int32} {wl : List (Nat × Nat)} {nd : Nat} {g : gT} (haa : a ≠ a2) (h : ∀ i k, pI g (nd - 1) (wN t wl 1) = some i → k < 3 → ¬ j = 3 * (6 * (nd - 1) + i) + k) : lG a a2 t wl nd g a j = g a j := by
  unfold lG
  cases hp : pI g (nd - 1) (wN t wl 1) with
  | none => rfl
  | some i =>
    simp only
    by_cases q : okG t wl nd g
    · rw [cif_pos q]
      by_cases q2 : wl.length = 2
      · rw [cif_pos q2]; simp [va_up, haa]
      · rw [cif_neg q2]; exact gS_at (fun k hk => h i k hp hk)
    · rw [cif_neg q]
theorem lG_a2 {a a2 j : Nat} {t : Nat → Int32} {wl : List (Nat × Nat)} {nd : Nat} {g : gT} (haa : a ≠ a2) (h : ∀ i, pI g (nd - 1) (wN t wl 1) = some i → ¬ j = 6 * (nd - 1) + i) : lG a a2 t wl nd g a2 j = g a2 j := by
  unfold lG
  cases hp : pI g (nd - 1) (wN t wl 1) with
  | none => rfl
  | some i =>
    simp only
    by_cases q : okG t wl nd g
    · rw [cif_pos q]
      by_cases q2 : wl.length = 2
      · rw [cif_pos q2, show va_up g a2 (upd (g a2) (6 * (nd - 1) + i) 1) a2 = upd (g a2) (6 * (nd - 1) + i) 1 by simp [va_up], pk_un (h i hp)]
      · rw [cif_neg q2, gS_ne (Ne.symm haa)]
    · rw [cif_neg q]
theorem pI_lt {g : gT} {d i : Nat} {n : Int32} (hb : iN (g 5 d) ≤ 6) (h : pI g d n = some i) : i < 6 := by
  have := (ff_is h).1
  omega
theorem AG_G {a a2 d : Nat} {t : Nat → Int32} {wl : List (Nat × Nat)} {nd : Nat} {g : gT} (ha : (a = 7 ∧ a2 = 9) ∨ (a = 8 ∧ a2 = 10)) (hb : iN (g 5 (nd - 1)) ≤ 6) (h : d ≠ nd - 1) : AG g (lG a a2 t wl nd g) d := by
  have hne : ∀ j, j ≠ a → j ≠ a2 → lG a a2 t wl nd g j = g j := fun j h1 h2 => lG_ne h1 h2
  have haa : a ≠ a2 := by omega
  have h7 : ∀ i j, i < 6 → j < 3 → lG a a2 t wl nd g a (3 * (6 * d + i) + j) = g a (3 * (6 * d + i) + j) := fun i j hi hj => lG_a haa (fun i2 k hp hk q => by have := pI_lt hb hp; omega)
  have h9 : ∀ i, i < 6 → lG a a2 t wl nd g a2 (6 * d + i) = g a2 (6 * d + i) := fun i hi => lG_a2 haa (fun i2 hp q => by have := pI_lt hb hp; omega)
  rcases ha with ⟨rfl, rfl⟩ | ⟨rfl, rfl⟩
  · refine ⟨by rw [hne 3 (by decide) (by decide)], by rw [hne 4 (by decide) (by decide)], by rw [hne 5 (by decide) (by decide)], by rw [hne 11 (by decide) (by decide)], by rw [hne 12 (by decide) (by decide)], fun i hi => ⟨by rw [hne 6 (by decide) (by decide)], h9 i hi, by rw [hne 10 (by decide) (by decide)], fun j hj => ⟨h7 i j hi hj, by rw [hne 8 (by decide) (by decide)]⟩⟩, fun i hi => ⟨by rw [hne 13 (by decide) (by decide)], by rw [hne 16 (by decide) (by decide)], by rw [hne 17 (by decide) (by decide)]⟩, fun i hi => ⟨by rw [hne 14 (by decide) (by decide)], by rw [hne 15 (by decide) (by decide)]⟩⟩
  · refine ⟨by rw [hne 3 (by decide) (by decide)], by rw [hne 4 (by decide) (by decide)], by rw [hne 5 (by decide) (by decide)], by rw [hne 11 (by decide) (by decide)], by rw [hne 12 (by decide) (by decide)], fun i hi => ⟨by rw [hne 6 (by decide) (by decide)], by rw [hne 9 (by decide) (by decide)], h9 i hi, fun j hj => ⟨by rw [hne 7 (by decide) (by decide)], h7 i j hi hj⟩⟩, fun i hi => ⟨by rw [hne 13 (by decide) (by decide)], by rw [hne 16 (by decide) (by decide)], by rw [hne 17 (by decide) (by decide)]⟩, fun i hi => ⟨by rw [hne 14 (by decide) (by decide)], by rw [hne 15 (by decide) (by decide)]⟩⟩
theorem TT_G {a a2 : Nat} {t : Nat → Int32} {wl : List (Nat × Nat)} {nd : Nat} {g : gT} {d : Nat} {fd nm sd : Int32} {k0 k1 k2 k3 : Nat} {f0 f1 f2 f3 tr op : Nat → Int32} (ha : (a = 7 ∧ a2 = 9) ∨ (a = 8 ∧ a2 = 10)) (h : TT g d fd nm sd k0 k1 k2 k3 f0 f1 f2 f3 tr op) : TT (lG a a2 t wl nd g) d fd nm sd k0 k1 k2 k3 f0 f1 f2 f3 tr op := by
  unfold TT
  have hne : ∀ j, j ≠ 7 → j ≠ 8 → j ≠ 9 → j ≠ 10 → lG a a2 t wl nd g j = g j := fun j h1 h2 h3 h4 => lG_ne (by omega) (by omega)
  rw [hne 3 (by decide) (by decide) (by decide) (by decide), hne 4 (by decide) (by decide) (by decide) (by decide), hne 5 (by decide) (by decide) (by decide) (by decide), hne 6 (by decide) (by decide) (by decide) (by decide), hne 11 (by decide) (by decide) (by decide) (by decide), hne 12 (by decide) (by decide) (by decide) (by decide), hne 13 (by decide) (by decide) (by decide) (by decide), hne 14 (by decide) (by decide) (by decide) (by decide), hne 15 (by decide) (by decide) (by decide) (by decide), hne 16 (by decide) (by decide) (by decide) (by decide), hne 17 (by decide) (by decide) (by decide) (by decide)]
  exact h
theorem NT_cov {g : gT} {a b n : Nat} {f : Nat → Int32} {x : Int32} (h : NT n f (fun j => g a (b + j))) (hn : n ≤ 3) (hc : ∃ k, k < n ∧ f k = x) : gS g a b x = g := by
  have hs : ∀ j, j < n → f j = g a (b + j) ∧ 0 < g a (b + j) := fun j hj => (h j (by omega)).1 hj
  obtain ⟨k, hk, e⟩ := hc
  rcases ff_or (P := fun j => f j = x) n with ⟨k2, q1, q2, q3, _⟩ | ⟨q, _⟩
  · refine (gS_same (k := k2) (by omega) ?_ (fun j hj => ⟨fun z => q3 j hj (by rw [(hs j (by omega)).1]; exact z), fun z => ?_⟩)).symm
    · rw [← (hs k2 q1).1]; exact q2
    · have := (hs j (by omega)).2
      rw [z] at this
      exact absurd this (by decide)
  · exact absurd e (q k hk)
theorem NT_put {g : gT} {a b n : Nat} {f : Nat → Int32} {x : Int32} (h : NT n f (fun j => g a (b + j))) (hx : 0 < x) (hn : n < 3) (hc : ¬ ∃ k, k < n ∧ f k = x) : gS g a b x = va_up g a (upd (g a) (b + n) x) := by
  have hs : ∀ j, j < n → f j = g a (b + j) ∧ 0 < g a (b + j) := fun j hj => (h j (by omega)).1 hj
  have h0 : g a (b + n) = 0 := (h n hn).2 (Nat.le_refl _)
  refine (gS_set hn h0 (fun z => ?_) (fun j hj => ⟨fun z => hc ⟨j, hj, by rw [(hs j hj).1]; exact z⟩, fun z => ?_⟩)).symm
  · rw [h0] at z; rw [← z] at hx; exact absurd hx (by decide)
  · have := (hs j hj).2
    rw [z] at this
    exact absurd this (by decide)
theorem NT_ful {g : gT} {a b n : Nat} {f : Nat → Int32} {x : Int32} (h : NT n f (fun j => g a (b + j))) (hn : 3 ≤ n) (hc : ¬ ∃ k, k < n ∧ f k = x) : gS g a b x = g := by
  have hs : ∀ j, j < 3 → f j = g a (b + j) ∧ 0 < g a (b + j) := fun j hj => (h j hj).1 (by omega)
  refine (gS_full (fun j hj => ⟨fun z => hc ⟨j, by omega, by rw [(hs j hj).1]; exact z⟩, fun z => ?_⟩)).symm
  have := (hs j hj).2
  rw [z] at this
  exact absurd this (by decide)
theorem gr_upd {g : gT} {a a2 p n n2 : Nat} {ta ta2 x : Int32} {f f2 : Nat → Int32} (haa : a2 ≠ a) (hn : n ≤ 3) (h1 : ta = g a2 p) (h2 : ta = 0 → NT n f (fun j => g a (3 * p + j))) (hx : 0 < x) (h : (x = 0 ∧ ta2 = 1 ∧ n2 = n ∧ f2 = f) ∨ (¬ x = 0 ∧ COV ta n f x ∧ ta2 = ta ∧ n2 = n ∧ f2 = f) ∨ (¬ x = 0 ∧ ¬ COV ta n f x ∧ ta2 = ta ∧ ((n < 3 ∧ n2 = n + 1 ∧ f2 = upd f n x) ∨ (3 ≤ n ∧ n2 = n ∧ f2 = f)))) : ta2 = gS g a (3 * p) x a2 p ∧ (ta2 = 0 → NT n2 f2 (fun j => gS g a (3 * p) x a (3 * p + j))) := by
  rw [gS_ne haa]
  rcases h with ⟨q, _⟩ | ⟨_, q1, q2, q3, q4⟩ | ⟨_, q1, q2, q3⟩
  · rw [q] at hx; exact absurd hx (by decide)
  · refine ⟨q2.trans h1, fun z => ?_⟩
    rw [q3, q4]
    rw [q2] at z
    have hc : ∃ k, k < n ∧ f k = x := q1.resolve_left (fun w => w z)
    rw [NT_cov (h2 z) hn hc]
    exact h2 z
  · refine ⟨q2.trans h1, fun z => ?_⟩
    rw [q2] at z
    have hc : ¬ ∃ k, k < n ∧ f k = x := fun w => q1 (Or.inr w)
    rcases q3 with ⟨r1, r2, r3⟩ | ⟨r1, r2, r3⟩
    · rw [r2, r3, NT_put (h2 z) hx r1 hc]
      have := NT_add r1 hx (h2 z)
      rw [show va_up g a (upd (g a) (3 * p + n) x) a = upd (g a) (3 * p + n) x by simp [va_up]]
      exact this
    · rw [r2, r3, NT_ful (h2 z) r1 hc]; exact h2 z
theorem lG_w4 {a a2 : Nat} {t : Nat → Int32} {wl : List (Nat × Nat)} {nd i : Nat} {g : gT} (hp : pI g (nd - 1) (wN t wl 1) = some i) (h : okG t wl nd g) (h4 : wl.length = 4) : lG a a2 t wl nd g = gS g a (3 * (6 * (nd - 1) + i)) (wN t wl 3) := (lG_to hp h h4 rfl).symm
theorem lG_w2 {a a2 : Nat} {t : Nat → Int32} {wl : List (Nat × Nat)} {nd i : Nat} {g : gT} (hp : pI g (nd - 1) (wN t wl 1) = some i) (h : okG t wl nd g) (h2 : wl.length = 2) : lG a a2 t wl nd g = va_up g a2 (upd (g a2) (6 * (nd - 1) + i) 1) := (lG_all hp h h2 rfl rfl).symm
