theorem lG_ind {Q : gT → Prop} {a a2 nd : Nat} {t : Nat → Int32} {wl : List (Nat × Nat)} {g : gT} (h0 : Q g) (hG : 0 < nd → g 11 (nd - 1) = 0 → ∀ i, i < iN (g 5 (nd - 1)) → Q (va_up g a2 (upd (g a2) (6 * (nd - 1) + i) 1)) ∧ ∀ k x, k < 3 → Q (va_up g a (upd (g a) (3 * (6 * (nd - 1) + i) + k) x))) : Q (lG a a2 t wl nd g) := by
  unfold lG
  cases hp : pI g (nd - 1) (wN t wl 1) with
  | none => exact h0
  | some i =>
    simp only
    by_cases ho : okG t wl nd g
    · rw [cif_pos ho]
      have q := hG ho.2.2.1 ho.2.2.2 i (pI_is hp).1
      by_cases h2 : wl.length = 2
      · rw [cif_pos h2]; exact q.1
      · rw [cif_neg h2]
        unfold gS
        cases hf : ff (fun k => g a (3 * (6 * (nd - 1) + i) + k) = wN t wl 3 ∨ g a (3 * (6 * (nd - 1) + i) + k) = 0) 3 with
        | none => exact h0
        | some k =>
          simp only
          by_cases h3 : ¬ g a (3 * (6 * (nd - 1) + i) + k) = wN t wl 3
          · rw [cif_pos h3]; exact q.2 k _ (ff_is hf).1
          · rw [cif_neg h3]; exact h0
    · rw [cif_neg ho]; exact h0
theorem lS_ind {Q : gT → Prop} {a nd : Nat} {t : Nat → Int32} {wl : List (Nat × Nat)} {g : gT} (h0 : Q g) (hS : 0 < nd → g 11 (nd - 1) = 0 → ∀ k, k < 3 → Q (va_up g a (upd (g a) (3 * (nd - 1) + k) (wN t wl 1)))) : Q (lS a t wl nd g) := by
  unfold lS
  cases hp : svF (g a) (nd - 1) with
  | none => exact h0
  | some k =>
    simp only
    by_cases ho : okS a t wl nd g
    · rw [cif_pos ho]; exact hS ho.2.2.1 ho.2.2.2.2 k (ff_is hp).1
    · rw [cif_neg ho]; exact h0
theorem lnF_ind {P : Nat × gT → Prop} {nd : Nat} {t : Nat → Int32} {wl : List (Nat × Nat)} {g : gT} (h0 : P (nd, g)) (hD : okD t wl nd g → P (nd + 1, va_up (va_up g 3 (upd (g 3) nd (fF t wl))) 4 (upd (g 4) nd (wN t wl 2)))) (hP : okP t wl nd g → P (nd, pkU g (nd - 1) (wN t wl 1))) (hR : okR t wl nd g → ∀ n x y, P (nd, rqU g (nd - 1) n x y)) (hS : ∀ a, (a = 14 ∨ a = 15) → 0 < nd → g 11 (nd - 1) = 0 → ∀ k, k < 3 → P (nd, va_up g a (upd (g a) (3 * (nd - 1) + k) (wN t wl 1)))) (hG : ∀ a a2, ((a = 7 ∧ a2 = 9) ∨ (a = 8 ∧ a2 = 10)) → 0 < nd → g 11 (nd - 1) = 0 → ∀ i, i < iN (g 5 (nd - 1)) → P (nd, va_up g a2 (upd (g a2) (6 * (nd - 1) + i) 1)) ∧ ∀ k x, k < 3 → P (nd, va_up g a (upd (g a) (3 * (6 * (nd - 1) + i) + k) x))) : P (lnF t wl nd g) := by
  unfold lnF
  by_cases h1 : wS t wl 0 zMo
  · rw [cif_pos h1]
    by_cases h : okD t wl nd g
    · rw [lD_y rfl rfl h]; exact hD h
    · rw [lD_n h]; exact h0
  rw [cif_neg h1]
  by_cases h2 : wS t wl 0 zPa
  · rw [cif_pos h2]
    by_cases h : okP t wl nd g
    · rw [lP_y h]; exact hP h
    · rw [← lP_no h]; exact h0
  rw [cif_neg h2]
  by_cases h3 : wS t wl 0 zEx
  · rw [cif_pos h3]; exact lG_ind (Q := fun x => P (nd, x)) h0 (hG 7 9 (Or.inl ⟨rfl, rfl⟩))
  rw [cif_neg h3]
  by_cases h4 : wS t wl 0 zOp
  · rw [cif_pos h4]; exact lG_ind (Q := fun x => P (nd, x)) h0 (hG 8 10 (Or.inr ⟨rfl, rfl⟩))
  rw [cif_neg h4]
  by_cases h5 : wS t wl 0 zRe
  · rw [cif_pos h5]
    by_cases h : okR t wl nd g
    · rw [lR_y rfl rfl rfl h]; exact hR h _ _ _
    · rw [← lR_no h]; exact h0
  rw [cif_neg h5]
  by_cases h6 : wS t wl 0 zUs
  · rw [cif_pos h6]; exact lS_ind (Q := fun x => P (nd, x)) h0 (hS 14 (Or.inl rfl))
  rw [cif_neg h6]
  by_cases h7 : wS t wl 0 zPr
  · rw [cif_pos h7]; exact lS_ind (Q := fun x => P (nd, x)) h0 (hS 15 (Or.inr rfl))
  rw [cif_neg h7]; exact h0
theorem pkU_o {g : gT} {d j : Nat} {x : Int32} (h1 : j ≠ 5) (h2 : j ≠ 6) : pkU g d x j = g j := by unfold pkU; rw [vu_ne h2, vu_ne h1]
theorem rqU_o {g : gT} {d j : Nat} {x y z : Int32} (h1 : j ≠ 12) (h2 : j ≠ 13) (h3 : j ≠ 16) (h4 : j ≠ 17) : rqU g d x y z j = g j := by unfold rqU; rw [vu_ne h4, vu_ne h3, vu_ne h2, vu_ne h1]
theorem pkU_5 {g : gT} {d : Nat} {x : Int32} : pkU g d x 5 = upd (g 5) d (nI (iN (g 5 d) + 1)) := by unfold pkU; rw [vu_ne (by decide), vu_eq]
theorem pkU_6 {g : gT} {d : Nat} {x : Int32} : pkU g d x 6 = upd (g 6) (6 * d + iN (g 5 d)) x := by unfold pkU; rw [vu_eq]
theorem rqU_12 {g : gT} {d : Nat} {x y z : Int32} : rqU g d x y z 12 = upd (g 12) d (nI (iN (g 12 d) + 1)) := by unfold rqU; rw [vu_ne (by decide), vu_ne (by decide), vu_ne (by decide), vu_eq]
theorem lnF_nd {nd : Nat} {t : Nat → Int32} {wl : List (Nat × Nat)} {g : gT} : nd ≤ (lnF t wl nd g).1 := lnF_ind (P := fun x => nd ≤ x.1) (Nat.le_refl _) (fun _ => Nat.le_succ _) (fun _ => Nat.le_refl _) (fun _ _ _ _ => Nat.le_refl _) (fun _ _ _ _ _ _ => Nat.le_refl _) (fun _ _ _ _ _ _ _ => ⟨Nat.le_refl _, fun _ _ _ => Nat.le_refl _⟩)
theorem lnF_12 {nd : Nat} {t : Nat → Int32} {wl : List (Nat × Nat)} {g : gT} (h : nd ≤ 12) : (lnF t wl nd g).1 ≤ 12 := lnF_ind (P := fun x => x.1 ≤ 12) h (fun q => q.2.2.2.2) (fun _ => h) (fun _ _ _ _ => h) (fun _ _ _ _ _ _ => h) (fun _ _ _ _ _ _ _ => ⟨h, fun _ _ _ => h⟩)
theorem lnF_row {nd : Nat} {t : Nat → Int32} {wl : List (Nat × Nat)} {g : gT} : ∀ j, (18 ≤ j ∨ j = 11 ∨ j ≤ 2) → (lnF t wl nd g).2 j = g j := by
  refine lnF_ind (P := fun x => ∀ j, (18 ≤ j ∨ j = 11 ∨ j ≤ 2) → x.2 j = g j) (fun _ _ => rfl) (fun _ j hj => ?_) (fun _ j hj => pkU_o (by omega) (by omega)) (fun _ _ _ _ j hj => rqU_o (by omega) (by omega) (by omega) (by omega)) (fun a ha _ _ k _ j hj => vu_ne (by omega)) (fun a a2 ha _ _ i _ => ⟨fun j hj => vu_ne (by omega), fun k x _ j hj => vu_ne (by omega)⟩)
  show va_up (va_up g 3 _) 4 _ j = g j
  rw [vu_ne (by omega), vu_ne (by omega)]
theorem AG_9 {g : gT} {a x i d : Nat} {v : Int32} (ha : a = 9 ∨ a = 10) (hi : i < 6) (h : d ≠ x) : AG g (va_up g a (upd (g a) (6 * x + i) v)) d := by
  rcases ha with rfl | rfl
  · refine ⟨rfl, rfl, rfl, rfl, rfl, fun i2 h2 => ⟨rfl, ?_, rfl, fun j _ => ⟨rfl, rfl⟩⟩, fun _ _ => ⟨rfl, rfl, rfl⟩, fun _ _ => ⟨rfl, rfl⟩⟩
    show upd (g 9) (6 * x + i) v (6 * d + i2) = _
    rw [pk_un (by omega)]
  · refine ⟨rfl, rfl, rfl, rfl, rfl, fun i2 h2 => ⟨rfl, rfl, ?_, fun j _ => ⟨rfl, rfl⟩⟩, fun _ _ => ⟨rfl, rfl, rfl⟩, fun _ _ => ⟨rfl, rfl⟩⟩
    show upd (g 10) (6 * x + i) v (6 * d + i2) = _
    rw [pk_un (by omega)]
theorem AG_7 {g : gT} {a x i k d : Nat} {v : Int32} (ha : a = 7 ∨ a = 8) (hi : i < 6) (hk : k < 3) (h : d ≠ x) : AG g (va_up g a (upd (g a) (3 * (6 * x + i) + k) v)) d := by
  rcases ha with rfl | rfl
  · refine ⟨rfl, rfl, rfl, rfl, rfl, fun i2 h2 => ⟨rfl, rfl, rfl, fun j hj => ⟨?_, rfl⟩⟩, fun _ _ => ⟨rfl, rfl, rfl⟩, fun _ _ => ⟨rfl, rfl⟩⟩
    show upd (g 7) (3 * (6 * x + i) + k) v (3 * (6 * d + i2) + j) = _
    rw [pk_un (by omega)]
  · refine ⟨rfl, rfl, rfl, rfl, rfl, fun i2 h2 => ⟨rfl, rfl, rfl, fun j hj => ⟨rfl, ?_⟩⟩, fun _ _ => ⟨rfl, rfl, rfl⟩, fun _ _ => ⟨rfl, rfl⟩⟩
    show upd (g 8) (3 * (6 * x + i) + k) v (3 * (6 * d + i2) + j) = _
    rw [pk_un (by omega)]
theorem AG_rf {g : gT} {d : Nat} : AG g g d := AG_of (fun _ _ _ => rfl)
theorem lnF_AG {nd : Nat} {t : Nat → Int32} {wl : List (Nat × Nat)} {g : gT} (h5 : iN (g 5 (nd - 1)) ≤ 6) : ∀ d, d < nd → ¬ g 11 d = 0 → AG g (lnF t wl nd g).2 d := by
  refine lnF_ind (P := fun x => ∀ d, d < nd → ¬ g 11 d = 0 → AG g x.2 d) (fun _ _ _ => AG_rf) (fun _ d hd _ => AG_D (by omega)) (fun q d hd hl => AG_P q.2.2.2.2.2 (fun e => hl (by rw [e]; exact q.2.2.2.2.1))) (fun q _ _ _ d hd hl => AG_R q.2.2.2.2.2.2 (fun e => hl (by rw [e]; exact q.2.2.2.2.2.1))) (fun a ha _ h11 k hk d hd hl => AG_S ha hk (fun e => hl (by rw [e]; exact h11))) (fun a a2 ha _ h11 i hi => ⟨fun d hd hl => AG_9 (by omega) (by omega) (fun e => hl (by rw [e]; exact h11)), fun k x hk d hd hl => AG_7 (by omega) (by omega) hk (fun e => hl (by rw [e]; exact h11))⟩)
theorem lnF_NZ {nd : Nat} {t : Nat → Int32} {wl : List (Nat × Nat)} {g : gT} (h : NZ g nd) : NZ (lnF t wl nd g).2 (lnF t wl nd g).1 := by
  refine lnF_ind (P := fun x => NZ x.2 x.1) h (fun q d hd => ?_) (fun _ d hd => ?_) (fun _ n9 x9 y9 d hd => ?_) (fun a ha _ _ k _ d hd => ?_) (fun a a2 ha _ _ i _ => ⟨fun d hd => ?_, fun k x _ d hd => ?_⟩)
  · show ¬ upd (g 4) nd (wN t wl 2) d = 0
    by_cases e : d = nd
    · rw [e, pk_us]; exact q.2.2.1
    · rw [pk_un e]; exact h d (by have hd : d < nd + 1 := hd; omega)
  · show ¬ pkU g (nd - 1) (wN t wl 1) 4 d = 0
    rw [pkU_o (by decide) (by decide)]; exact h d hd
  · show ¬ rqU g (nd - 1) n9 x9 y9 4 d = 0
    rw [rqU_o (by decide) (by decide) (by decide) (by decide)]; exact h d hd
  · show ¬ va_up g a _ 4 d = 0
    rw [vu_ne (by omega)]; exact h d hd
  · show ¬ va_up g a2 _ 4 d = 0
    rw [vu_ne (by omega)]; exact h d hd
  · show ¬ va_up g a _ 4 d = 0
    rw [vu_ne (by omega)]; exact h d hd
theorem UQ1_c {g g2 : gT} {d : Nat} (h5 : g2 5 = g 5) (h6 : g2 6 = g 6) (h : UQ1 g d) : UQ1 g2 d := by
  unfold UQ1; rw [h5, h6]; exact h
theorem lnF_UQ {nd : Nat} {t : Nat → Int32} {wl : List (Nat × Nat)} {g : gT} (hnd : nd ≤ 12) (h5 : ∀ d, d < 12 → ∃ k, k ≤ 6 ∧ g 5 d = nI k) (hz : ZI g nd) (h : ∀ d, d < nd → UQ1 g d) : ∀ d, d < (lnF t wl nd g).1 → UQ1 (lnF t wl nd g).2 d := by
  refine lnF_ind (P := fun x => ∀ d, d < x.1 → UQ1 x.2 d) h (fun q d hd => ?_) (fun q d hd => ?_) (fun _ n9 x9 y9 d hd => UQ1_c (g := g) (g2 := rqU g (nd - 1) n9 x9 y9) (rqU_o (j := 5) (by decide) (by decide) (by decide) (by decide)) (rqU_o (j := 6) (by decide) (by decide) (by decide) (by decide)) (h d hd)) (fun a ha _ _ k _ d hd => UQ1_c (g := g) (vu_ne (by omega)) (vu_ne (by omega)) (h d hd)) (fun a a2 ha _ _ i _ => ⟨fun d hd => UQ1_c (g := g) (vu_ne (by omega)) (vu_ne (by omega)) (h d hd), fun k x _ d hd => UQ1_c (g := g) (vu_ne (by omega)) (vu_ne (by omega)) (h d hd)⟩)
  · have hd : d < nd + 1 := hd
    have q12 := q.2.2.2.2
    by_cases e : d = nd
    · intro i j hi
      have z := ((hz d (by omega)).1 (by omega)).1
      have hi : i < iN (g 5 d) := hi
      rw [z] at hi
      exact absurd hi (by show ¬ i < 0; omega)
    · exact UQ1_c rfl rfl (h d (by omega))
  · have hd : d < nd := hd
    unfold UQ1
    show ∀ i j, i < iN (pkU g (nd - 1) (wN t wl 1) 5 d) → j < iN (pkU g (nd - 1) (wN t wl 1) 5 d) → pkU g (nd - 1) (wN t wl 1) 6 (6 * d + i) = pkU g (nd - 1) (wN t wl 1) 6 (6 * d + j) → i = j
    rw [pkU_5, pkU_6]
    by_cases e : d = nd - 1
    · rw [← e, pk_us]
      have q6 := q.2.2.2.2.2
      rw [← e] at q6
      rw [iN_nI (by omega)]
      have hq : ∀ j, j < iN (g 5 d) → ¬ g 6 (6 * d + j) = wN t wl 1 := fun j hj => by
        have z := q.2.2.2.1 (6 * d + j)
        rw [← e] at z
        exact z (by omega) (by omega)
      intro i j hi hj eq
      by_cases ei : i = iN (g 5 d)
      · by_cases ej : j = iN (g 5 d)
        · rw [ei, ej]
        · rw [ei, pk_us, pk_un (by omega)] at eq
          exact absurd eq.symm (hq j (by omega))
      · by_cases ej : j = iN (g 5 d)
        · rw [ej, pk_us, pk_un (by omega)] at eq
          exact absurd eq (hq i (by omega))
        · rw [pk_un (by omega), pk_un (by omega)] at eq
          exact h d hd i j (by omega) (by omega) eq
    · rw [pk_un e]
      have q6 := q.2.2.2.2.2
      obtain ⟨kd, hk6, hkd⟩ := h5 d (by omega)
      have e5 : iN (g 5 d) ≤ 6 := by rw [hkd, iN_nI (by omega)]; exact hk6
      intro i j hi hj eq
      rw [pk_un (by omega), pk_un (by omega)] at eq
      exact h d hd i j hi hj eq
theorem lnF_ZI {nd : Nat} {t : Nat → Int32} {wl : List (Nat × Nat)} {g : gT} (h5 : ∀ d, d < 12 → ∃ k, k ≤ 6 ∧ g 5 d = nI k) (hnd : nd ≤ 12) (h : ZI g nd) : ZI (lnF t wl nd g).2 (lnF t wl nd g).1 := by
  refine lnF_ind (P := fun x => ZI x.2 x.1) h (fun q d hd => ?_) (fun q d hd => ?_) (fun q n9 x9 y9 d hd => ?_) (fun a ha _ _ k hk d hd => ?_) (fun a a2 ha h0 _ i hi => ⟨fun d hd => ?_, fun k x hk d hd => ?_⟩)
  · exact ⟨fun z => (h d hd).1 (by have z : nd + 1 ≤ d := z; omega), fun i hi z => (h d hd).2 i hi (z.elim (fun z => Or.inl (by have z : nd + 1 ≤ d := z; omega)) Or.inr)⟩
  · have q6 := q.2.2.2.2.2
    have q0 := q.2.2.1
    show (nd ≤ d → pkU g (nd - 1) (wN t wl 1) 5 d = 0 ∧ _) ∧ ∀ i, i < 6 → (nd ≤ d ∨ iN (pkU g (nd - 1) (wN t wl 1) 5 d) ≤ i) → _
    rw [pkU_5]
    refine ⟨fun z => ?_, fun i hi z => ?_⟩
    · rw [pk_un (by omega)]; exact (h d hd).1 z
    · refine (h d hd).2 i hi ?_
      rcases z with z | z
      · exact Or.inl z
      · by_cases e : d = nd - 1
        · rw [← e] at z q6
          rw [pk_us, iN_nI (by omega)] at z
          exact Or.inr (by omega)
        · rw [pk_un e] at z; exact Or.inr z
  · have q0 := q.2.2.1
    refine ⟨fun z => ?_, fun i hi z => (h d hd).2 i hi z⟩
    have z : nd ≤ d := z
    obtain ⟨z1, z2, z3, z4⟩ := (h d hd).1 z
    refine ⟨z1, ?_, z3, z4⟩
    show rqU g (nd - 1) n9 x9 y9 12 d = 0
    rw [rqU_12, pk_un (by omega)]; exact z2
  · rcases ha with rfl | rfl
    · refine ⟨fun z => ?_, fun i hi z => (h d hd).2 i hi z⟩
      have z : nd ≤ d := z
      obtain ⟨z1, z2, z3, z4⟩ := (h d hd).1 z
      refine ⟨z1, z2, z3, fun i hi => ⟨?_, (z4 i hi).2⟩⟩
      show upd (g 14) (3 * (nd - 1) + k) _ (3 * d + i) = 0
      rw [pk_un (by omega)]; exact (z4 i hi).1
    · refine ⟨fun z => ?_, fun i hi z => (h d hd).2 i hi z⟩
      have z : nd ≤ d := z
      obtain ⟨z1, z2, z3, z4⟩ := (h d hd).1 z
      refine ⟨z1, z2, z3, fun i hi => ⟨(z4 i hi).1, ?_⟩⟩
      show upd (g 15) (3 * (nd - 1) + k) _ (3 * d + i) = 0
      rw [pk_un (by omega)]; exact (z4 i hi).2
  · obtain ⟨kd, hk6, hkd⟩ := h5 (nd - 1) (by omega)
    have e5 : iN (g 5 (nd - 1)) ≤ 6 := by rw [hkd, iN_nI (by omega)]; exact hk6
    rcases ha with ⟨rfl, rfl⟩ | ⟨rfl, rfl⟩
    · refine ⟨fun z => (h d hd).1 z, fun i2 hi2 z => ?_⟩
      have z : nd ≤ d ∨ iN (g 5 d) ≤ i2 := z
      obtain ⟨z1, z2, z3⟩ := (h d hd).2 i2 hi2 z
      refine ⟨?_, z2, z3⟩
      show upd (g 9) (6 * (nd - 1) + i) 1 (6 * d + i2) = 0
      rw [pk_un (fun e => ?_)]
      · exact z1
      · have ed : d = nd - 1 := by omega
        rw [ed] at z; omega
    · refine ⟨fun z => (h d hd).1 z, fun i2 hi2 z => ?_⟩
      have z : nd ≤ d ∨ iN (g 5 d) ≤ i2 := z
      obtain ⟨z1, z2, z3⟩ := (h d hd).2 i2 hi2 z
      refine ⟨z1, ?_, z3⟩
      show upd (g 10) (6 * (nd - 1) + i) 1 (6 * d + i2) = 0
      rw [pk_un (fun e => ?_)]
      · exact z2
      · have ed : d = nd - 1 := by omega
        rw [ed] at z; omega
  · obtain ⟨kd, hk6, hkd⟩ := h5 (nd - 1) (by omega)
    have e5 : iN (g 5 (nd - 1)) ≤ 6 := by rw [hkd, iN_nI (by omega)]; exact hk6
    rcases ha with ⟨rfl, rfl⟩ | ⟨rfl, rfl⟩
    · refine ⟨fun z => (h d hd).1 z, fun i2 hi2 z => ?_⟩
      have z : nd ≤ d ∨ iN (g 5 d) ≤ i2 := z
      obtain ⟨z1, z2, z3⟩ := (h d hd).2 i2 hi2 z
      refine ⟨z1, z2, fun j hj => ⟨?_, (z3 j hj).2⟩⟩
      show upd (g 7) (3 * (6 * (nd - 1) + i) + k) x (3 * (6 * d + i2) + j) = 0
      rw [pk_un (fun e => ?_)]
      · exact (z3 j hj).1
      · have ed : d = nd - 1 := by omega
        rw [ed] at z; omega
    · refine ⟨fun z => (h d hd).1 z, fun i2 hi2 z => ?_⟩
      have z : nd ≤ d ∨ iN (g 5 d) ≤ i2 := z
      obtain ⟨z1, z2, z3⟩ := (h d hd).2 i2 hi2 z
      refine ⟨z1, z2, fun j hj => ⟨(z3 j hj).1, ?_⟩⟩
      show upd (g 8) (3 * (6 * (nd - 1) + i) + k) x (3 * (6 * d + i2) + j) = 0
      rw [pk_un (fun e => ?_)]
      · exact (z3 j hj).2
      · have ed : d = nd - 1 := by omega
        rw [ed] at z; omega
