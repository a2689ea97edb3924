def eI (e : va_E) (k : Nat) : Int32 := match e with
  | .inr (_, fs) => (match fs[k]? with
    | some (.int x) => x
    | _ => 0)
  | _ => 0
def eV (e : va_E) (k : Nat) : Value := match e with
  | .inr (_, fs) => (fs[k]?).getD .null
  | _ => .null
def eA (e : va_E) : Nat → Int32 := match e with
  | .inl (_, _, .inl f) => f
  | _ => fun _ => 0
def eL (e : va_E) : Nat := match e with
  | .inl (_, n, _) => n
  | _ => 0
def NT (n : Nat) (f to : Nat → Int32) : Prop := ∀ j, j < 3 → (j < n → f j = to j ∧ 0 < to j) ∧ (n ≤ j → to j = 0)
def TG (a b c : va_E) (all : Int32) (to : Nat → Int32) : Prop := eI a 1 = all ∧ (all = 0 → NT (iN (eI b 1)) (eA c) to)
def TD (g : gT) (e : Nat → va_E) (d : Nat) : Prop := eI (e 0) 1 = g 3 d ∧ eI (e 0) 2 = g 4 d ∧ eI (e 0) 11 = g 11 d ∧ eI (e 1) 1 = g 5 d ∧ (∀ i, i < iN (g 5 d) → eA (e 5) i = g 6 (6 * d + i)) ∧ eI (e 2) 1 = g 12 d ∧ (∀ i, i < iN (g 12 d) → eA (e 6) i = g 13 (5 * d + i) ∧ eA (e 11) i = g 16 (5 * d + i) ∧ eA (e 12) i = g 17 (5 * d + i)) ∧ NT (iN (eI (e 3) 1)) (eA (e 7)) (fun i => g 14 (3 * d + i)) ∧ NT (iN (eI (e 4) 1)) (eA (e 8)) (fun i => g 15 (3 * d + i)) ∧ ∀ i, i < iN (g 5 d) → TG (e (20 + 3 * i)) (e (21 + 3 * i)) (e (22 + 3 * i)) (g 9 (6 * d + i)) (fun j => g 7 (3 * (6 * d + i) + j)) ∧ TG (e (38 + 3 * i)) (e (39 + 3 * i)) (e (40 + 3 * i)) (g 10 (6 * d + i)) (fun j => g 8 (3 * (6 * d + i) + j))
def TDs (g : gT) (E : Nat → Nat → va_E) (nd : Nat) : Prop := ∀ d, d < nd → TD g (E (1 + d)) d
theorem TDs_same {g : gT} {E E' : Nat → Nat → va_E} {nd : Nat} (h : ∀ d, d < nd → E' (1 + d) = E (1 + d)) (ht : TDs g E nd) : TDs g E' nd := fun d hd => by rw [h d hd]; exact ht d hd
def ZI (g : gT) (nd : Nat) : Prop := ∀ d, d < 12 → (nd ≤ d → g 5 d = 0 ∧ g 12 d = 0 ∧ g 11 d = 0 ∧ ∀ i, i < 3 → g 14 (3 * d + i) = 0 ∧ g 15 (3 * d + i) = 0) ∧ ∀ i, i < 6 → (nd ≤ d ∨ iN (g 5 d) ≤ i) → g 9 (6 * d + i) = 0 ∧ g 10 (6 * d + i) = 0 ∧ ∀ j, j < 3 → g 7 (3 * (6 * d + i) + j) = 0 ∧ g 8 (3 * (6 * d + i) + j) = 0
def LW (g : gT) (E : Nat → Nat → va_E) (lt : Nat) (wl : List (Nat × Nat)) : Prop := WL wl ∧ lt ≤ 40 ∧ (∀ i, i < wl.length → eA (E 0 3) i = nI (wb wl i) ∧ eA (E 0 4) i = nI (we wl i) ∧ we wl i ≤ lt) ∧ ∀ i, i < lt → eA (E 0 2) i = g 0 i
theorem nV_congr {t t2 : Nat → Int32} {b e : Nat} (h : ∀ j, b ≤ j → j < e → t j = t2 j) : nV t b e = nV t2 b e := by
  unfold nV
  have h3 : n_small t b (e - b) ↔ n_small t2 b (e - b) := n_small_congr fun j h1 h2 => h j h1 (by omega)
  rw [n_fold_congr (t := t) (t2 := t2) (fun j h1 h2 => h j h1 (by omega)), h3]
theorem wE_congr {t t2 : Nat → Int32} {b e : Nat} {s : List Nat} (h : ∀ j, b ≤ j → j < e → t j = t2 j) : wE t b e s ↔ wE t2 b e s := by
  unfold wE
  constructor
  · intro ⟨h1, h2⟩
    exact ⟨h1, fun p hp => by rw [← h (b + p) (by omega) (by omega)]; exact h2 p hp⟩
  · intro ⟨h1, h2⟩
    exact ⟨h1, fun p hp => by rw [h (b + p) (by omega) (by omega)]; exact h2 p hp⟩
def zW (si : Nat) : List Nat := (List.range (zL.getD si 0)).map (fun k => iN ((zB.getD si []).getD k 0))
theorem zW_len : ∀ si, si < 12 → (zW si).length = zL.getD si 0 := by decide +kernel
theorem zW_chr : ∀ si, si < 12 → ∀ k, k < zL.getD si 0 → ((zB.getD si []).getD k 0 &&& 255) = nI ((zW si).getD k 0) := by decide +kernel
theorem zW_all : zW 0 = zMo ∧ zW 1 = zPa ∧ zW 2 = zEx ∧ zW 3 = zOp ∧ zW 4 = zRe ∧ zW 5 = zUs ∧ zW 6 = zPr ∧ zW 7 = [48] ∧ zW 8 = [49] ∧ zW 9 = zTo ∧ zW 10 = zTr ∧ zW 11 = zSt := by decide +kernel
