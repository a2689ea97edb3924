noncomputable def cif {α : Type} (C : Prop) (a b : α) : α := @ite α C (Classical.propDecidable C) a b
theorem cif_pos {α : Type} {C : Prop} {a b : α} (h : C) : cif C a b = a := @if_pos C (Classical.propDecidable C) h α a b
theorem cif_neg {α : Type} {C : Prop} {a b : α} (h : ¬ C) : cif C a b = b := @if_neg C (Classical.propDecidable C) h α a b
def iN (x : Int32) : Nat := x.toNatClampNeg
theorem iN_nI {n : Nat} (h : n < 2147483648) : iN (nI n) = n := nI_clamp (by rw [xb_31]; exact h)
noncomputable def nV (t : Nat → Int32) (b e : Nat) : Int32 := cif (e - b ≤ 4 ∧ n_small t b (e - b)) (n_fold t b (e - b) 0) 0
theorem ch_nat {x : Int32} (h1 : ¬ x < 97) (h2 : ¬ 122 < x) : ∃ c : Nat, 97 ≤ c ∧ c ≤ 122 ∧ x = nI c := by
  have h0 : ¬ x < 0 := fun q => h1 (Int32.lt_trans q (by decide))
  obtain ⟨j, hj, rfl⟩ := nI_of h0
  have e1 : (97 : Int32) = nI 97 := rfl
  have e2 : (122 : Int32) = nI 122 := rfl
  rw [e1, nI_ltI hj (by decide)] at h1
  rw [e2, nI_ltI (by decide) hj] at h2
  exact ⟨j, by omega, by omega, rfl⟩
theorem n_fold_nat {t : Nat → Int32} : ∀ (m b a : Nat), n_small t b m → ∃ k, n_fold t b m (nI a) = nI k ∧ a + m ≤ k ∧ k < (a + 1) * 27 ^ m
  | 0, _, a, _ => ⟨a, rfl, by omega, by omega⟩
  | m + 1, b, a, h => by
    obtain ⟨c, hc1, hc2, hc⟩ := ch_nat h.1.1 h.1.2
    have e : nI a * 27 + (t b - 97 + 1) = nI (a * 27 + (c - 96)) := by
      rw [hc, show (27 : Int32) = nI 27 from rfl, pk_mul, show (97 : Int32) = nI 97 from rfl, pk_sub (by omega), show (1 : Int32) = nI 1 from rfl, nI_add, nI_add]
      rw [show c - 97 + 1 = c - 96 by omega]
    obtain ⟨k, hk, h1, h2⟩ := n_fold_nat m (b + 1) (a * 27 + (c - 96)) h.2
    refine ⟨k, ?_, by omega, ?_⟩
    · show n_fold t (b + 1) m (nI a * 27 + (t b - 97 + 1)) = nI k
      rw [e]; exact hk
    · have h3 : (a * 27 + (c - 96) + 1) * 27 ^ m ≤ ((a + 1) * 27) * 27 ^ m := Nat.mul_le_mul_right _ (by omega)
      rw [Nat.pow_succ, Nat.mul_comm (27 ^ m) 27, ← Nat.mul_assoc]
      omega
theorem nV_nat (t : Nat → Int32) (b e : Nat) : ∃ k, k < 531441 ∧ nV t b e = nI k := by
  unfold nV
  by_cases h : e - b ≤ 4 ∧ n_small t b (e - b)
  · rw [cif_pos h]
    obtain ⟨k, hk, _, h2⟩ := n_fold_nat (e - b) b 0 h.2
    have h3 : 27 ^ (e - b) ≤ 27 ^ 4 := Nat.pow_le_pow_right (by decide) h.1
    have h4 : (27 : Nat) ^ 4 = 531441 := by decide
    exact ⟨k, by omega, hk⟩
  · rw [cif_neg h]; exact ⟨0, by decide, rfl⟩
theorem nV_ok {t : Nat → Int32} {b e : Nat} (h1 : e - b ≤ 4) (h2 : n_small t b (e - b)) {r : Int32} (h : r = n_fold t b (e - b) 0) : r = nV t b e := by
  unfold nV; rw [cif_pos ⟨h1, h2⟩]; exact h
theorem nV_no {t : Nat → Int32} {b e : Nat} (h : ¬ (e - b ≤ 4 ∧ n_small t b (e - b))) : (0 : Int32) = nV t b e := by
  unfold nV; rw [cif_neg h]
theorem nV_pos {t : Nat → Int32} {b e : Nat} : ¬ nV t b e = 0 ↔ 0 < nV t b e := by
  obtain ⟨k, hk, h⟩ := nV_nat t b e
  rw [h, show (0 : Int32) = nI 0 from rfl, nI_eq (by rw [xb_31]; omega) (by decide), nI_ltI (by decide) (by rw [xb_31]; omega)]
  omega
theorem n_small_at {t : Nat → Int32} : ∀ {m b p : Nat}, n_small t b m → p < m → ¬ t (b + p) < 97 ∧ ¬ 122 < t (b + p)
  | 0, _, _, _, h => absurd h (Nat.not_lt_zero _)
  | m + 1, b, 0, h, _ => h.1
  | m + 1, b, p + 1, h, hp => by
    have := n_small_at (m := m) (b := b + 1) (p := p) h.2 (by omega)
    rw [show b + (p + 1) = b + 1 + p by omega]; exact this
theorem n_small_of {t : Nat → Int32} : ∀ {m b : Nat}, (∀ p, p < m → ¬ t (b + p) < 97 ∧ ¬ 122 < t (b + p)) → n_small t b m
  | 0, _, _ => trivial
  | m + 1, b, h => ⟨h 0 (by omega), n_small_of (m := m) (b := b + 1) fun p hp => by
      have := h (p + 1) (by omega)
      rw [show b + (p + 1) = b + 1 + p by omega] at this; exact this⟩
def vN (x : Nat → Nat) : Nat → Nat
  | 0 => 0
  | n + 1 => 32 * vN x n + x n
theorem vN_inj {x y : Nat → Nat} : ∀ {n m : Nat}, (∀ i, i < n → 1 ≤ x i ∧ x i ≤ 31) → (∀ i, i < m → 1 ≤ y i ∧ y i ≤ 31) → vN x n = vN y m → n = m ∧ ∀ i, i < n → x i = y i
  | 0, 0, _, _, _ => ⟨rfl, fun i hi => absurd hi (Nat.not_lt_zero i)⟩
  | 0, m + 1, _, hy, h => by
    have h1 := hy m (by omega)
    simp only [vN] at h
    omega
  | n + 1, 0, hx, _, h => by
    have h1 := hx n (by omega)
    simp only [vN] at h
    omega
  | n + 1, m + 1, hx, hy, h => by
    have h1 := hx n (by omega)
    have h2 := hy m (by omega)
    simp only [vN] at h
    have h3 : vN x n = vN y m := by omega
    have h4 : x n = y m := by omega
    obtain ⟨h5, h6⟩ := vN_inj (n := n) (m := m) (fun i hi => hx i (by omega)) (fun i hi => hy i (by omega)) h3
    subst h5
    exact ⟨rfl, fun i hi => by
      rcases Nat.lt_or_ge i n with q | q
      · exact h6 i q
      · rw [show i = n by omega]; exact h4⟩
theorem vN_lt {x : Nat → Nat} : ∀ {n : Nat}, (∀ i, i < n → x i ≤ 31) → vN x n < 32 ^ n
  | 0, _ => (by decide : (0 : Nat) < 1)
  | n + 1, h => by
    have h1 := h n (by omega)
    have h2 := vN_lt (n := n) (fun i hi => h i (by omega))
    simp only [vN, Nat.pow_succ]
    omega
theorem vN_congr {x y : Nat → Nat} : ∀ {n : Nat}, (∀ i, i < n → x i = y i) → vN x n = vN y n
  | 0, _ => rfl
  | n + 1, h => by
    simp only [vN]
    rw [vN_congr (n := n) (fun i hi => h i (by omega)), h n (by omega)]
def sL (t : Nat → Int32) (b e k : Nat) : Int32 := if b + k < e then t (b + k) else 0
def sC (t : Nat → Int32) (b e s : Nat) : Nat → Int32
  | 0 => 0
  | i + 1 => if sL t b e (s + i) = 0 then sC t b e s i else 32 * sC t b e s i + (sL t b e (s + i) &&& 31)
theorem sC_p {t : Nat → Int32} {b e s i : Nat} (h : sL t b e (s + i) = 0) : sC t b e s (i + 1) = sC t b e s i := if_pos h
theorem sC_n {t : Nat → Int32} {b e s i : Nat} (h : ¬ sL t b e (s + i) = 0) : sC t b e s (i + 1) = 32 * sC t b e s i + (sL t b e (s + i) &&& 31) := if_neg h
theorem sC_31 : ∀ c, c < 123 → 97 ≤ c → nI c &&& 31 = nI (c - 96) := by decide +kernel
theorem sC_val {t : Nat → Int32} {b e s : Nat} (hbe : b ≤ e) (hs : n_small t b (e - b)) : ∀ i, sC t b e s i = nI (vN (fun p => iN (t (b + (s + p))) - 96) (min i (e - b - s)))
  | 0 => by rw [Nat.zero_min]; rfl
  | i + 1 => by
    have ih := sC_val (s := s) hbe hs i
    by_cases h : b + (s + i) < e
    · obtain ⟨c, h1, h2, h3⟩ := ch_nat (n_small_at hs (p := s + i) (by omega)).1 (n_small_at hs (p := s + i) (by omega)).2
      have e1 : sL t b e (s + i) = nI c := by unfold sL; rw [if_pos h]; exact h3
      have n0 : ¬ nI c = 0 := fun q => by
        have := (nI_eq (a := c) (b := 0) (by rw [xb_31]; omega) (by decide)).mp q
        omega
      rw [sC_n (by rw [e1]; exact n0), ih, e1, sC_31 c (by omega) h1, show min i (e - b - s) = i by omega, show min (i + 1) (e - b - s) = i + 1 by omega]
      rw [show (32 : Int32) = nI 32 from rfl, pk_mul, nI_add]
      simp only [vN, h3, iN_nI (show c < 2147483648 by omega)]
    · rw [sC_p (by unfold sL; rw [if_neg h]), ih, show min i (e - b - s) = min (i + 1) (e - b - s) by omega]
def sQ (t : Nat → Int32) (b e : Nat) (a c : Int32) : Prop := (e - b ≤ 10 ∧ n_small t b (e - b)) ∧ sC t b e 0 5 = a ∧ sC t b e 5 5 = c
def wE (t : Nat → Int32) (b e : Nat) (s : List Nat) : Prop := e - b = s.length ∧ ∀ p, p < s.length → t (b + p) = nI (s.getD p 0)
theorem sQ_w {t : Nat → Int32} {b e n : Nat} {y : Nat → Nat} {a c : Int32} (hbe : b ≤ e) (hn : n ≤ 10) (hy : ∀ i, i < n → 97 ≤ y i ∧ y i ≤ 122) (ha : a = nI (vN (fun p => y p - 96) (min 5 n))) (hc : c = nI (vN (fun p => y (5 + p) - 96) (n - 5))) : sQ t b e a c ↔ (e - b = n ∧ ∀ p, p < n → t (b + p) = nI (y p)) := by
  have hb5 : ∀ (x : Nat → Nat) (k : Nat), k ≤ 5 → (∀ i, i < k → x i ≤ 31) → vN x k < 2 ^ 31 := fun x k hk hx => by
    have h1 := vN_lt hx
    have h2 : (32 : Nat) ^ k ≤ 32 ^ 5 := Nat.pow_le_pow_right (by decide) hk
    have h3 : (32 : Nat) ^ 5 = 33554432 := by decide
    rw [xb_31]; omega
  constructor
  · intro ⟨⟨h10, hs⟩, h1, h2⟩
    have hd : ∀ p, p < e - b → ∃ c9, 97 ≤ c9 ∧ c9 ≤ 122 ∧ t (b + p) = nI c9 := fun p hp => ch_nat (n_small_at hs hp).1 (n_small_at hs hp).2
    have hd2 : ∀ p, p < e - b → 97 ≤ iN (t (b + p)) ∧ iN (t (b + p)) ≤ 122 := fun p hp => by
      obtain ⟨c9, q1, q2, q3⟩ := hd p hp
      rw [q3, iN_nI (by omega)]; exact ⟨q1, q2⟩
    rw [sC_val hbe hs, ha] at h1
    rw [sC_val hbe hs, hc] at h2
    have k1 := vN_inj (fun i hi => by have := hd2 (0 + i) (by omega); omega) (fun i hi => by have := hy i (by omega); omega) ((nI_eq (hb5 _ _ (by omega) (fun i hi => by have := hd2 (0 + i) (by omega); omega)) (hb5 _ _ (by omega) (fun i hi => by have := hy i (by omega); omega))).mp h1)
    have k2 := vN_inj (fun i hi => by have := hd2 (5 + i) (by omega); omega) (fun i hi => by have := hy (5 + i) (by omega); omega) ((nI_eq (hb5 _ _ (by omega) (fun i hi => by have := hd2 (5 + i) (by omega); omega)) (hb5 _ _ (by omega) (fun i hi => by have := hy (5 + i) (by omega); omega))).mp h2)
    have hl : e - b = n := by omega
    refine ⟨hl, fun p hp => ?_⟩
    obtain ⟨c9, q1, q2, q3⟩ := hd p (by omega)
    have hyp := hy p hp
    rcases Nat.lt_or_ge p 5 with h5 | h5
    · have q := k1.2 p (by omega)
      simp only [Nat.zero_add, q3, iN_nI (show c9 < 2147483648 by omega)] at q
      rw [q3, show c9 = y p by omega]
    · have q := k2.2 (p - 5) (by omega)
      simp only [show 5 + (p - 5) = p by omega, q3, iN_nI (show c9 < 2147483648 by omega)] at q
      rw [q3, show c9 = y p by omega]
  · intro ⟨hl, hp⟩
    have hs : n_small t b (e - b) := n_small_of fun p hp9 => by
      rw [hp p (by omega)]
      have := hy p (by omega)
      rw [show (97 : Int32) = nI 97 from rfl, show (122 : Int32) = nI 122 from rfl, nI_ltI (by rw [xb_31]; omega) (by decide), nI_ltI (by decide) (by rw [xb_31]; omega)]
      omega
    refine ⟨⟨by omega, hs⟩, ?_, ?_⟩
    · rw [sC_val hbe hs, ha, show min 5 (e - b - 0) = min 5 n by omega]
      congr 1
      exact vN_congr fun i hi => by
        simp only [Nat.zero_add]
        rw [hp i (by omega), iN_nI (by have := hy i (by omega); omega)]
    · rw [sC_val hbe hs, hc, show min 5 (e - b - 5) = n - 5 by omega]
      congr 1
      exact vN_congr fun i hi => by
        show iN (t (b + (5 + i))) - 96 = y (5 + i) - 96
        rw [hp (5 + i) (by omega), iN_nI (by have := hy (5 + i) (by omega); omega)]
def cd1 (v x : Int32) : Int32 := if x = 0 then v else 32 * v + x - 96
def cdV (a b c d e : Int32) : Int32 := cd1 (cd1 (cd1 (cd1 (a - 96) b) c) d) e
theorem cd1_p {v x : Int32} (h : x = 0) : cd1 v x = v := if_pos h
theorem cd1_n {v x : Int32} (h : ¬ x = 0) : cd1 v x = 32 * v + x - 96 := if_neg h
theorem sQ_l {t : Nat → Int32} {b e : Nat} (s : List Nat) {a c : Int32} (hbe : b ≤ e) (hn : s.length ≤ 10) (hy : ∀ i, i < s.length → 97 ≤ s.getD i 0 ∧ s.getD i 0 ≤ 122) (ha : a = nI (vN (fun p => s.getD p 0 - 96) (min 5 s.length))) (hc : c = nI (vN (fun p => s.getD (5 + p) 0 - 96) (s.length - 5))) : sQ t b e a c ↔ wE t b e s := sQ_w hbe hn hy ha hc
def wb (wl : List (Nat × Nat)) (i : Nat) : Nat := (wl.getD i (0, 0)).1
def we (wl : List (Nat × Nat)) (i : Nat) : Nat := (wl.getD i (0, 0)).2
def wS (t : Nat → Int32) (wl : List (Nat × Nat)) (i : Nat) (s : List Nat) : Prop := i < wl.length ∧ wE t (wb wl i) (we wl i) s
noncomputable def wN (t : Nat → Int32) (wl : List (Nat × Nat)) (i : Nat) : Int32 := cif (i < wl.length) (nV t (wb wl i) (we wl i)) 0
theorem wN_in {t : Nat → Int32} {wl : List (Nat × Nat)} {i : Nat} (h : i < wl.length) : wN t wl i = nV t (wb wl i) (we wl i) := cif_pos h
theorem wN_out {t : Nat → Int32} {wl : List (Nat × Nat)} {i : Nat} (h : ¬ i < wl.length) : wN t wl i = 0 := cif_neg h
theorem wN_pos {t : Nat → Int32} {wl : List (Nat × Nat)} {i : Nat} : ¬ wN t wl i = 0 ↔ 0 < wN t wl i := by
  by_cases h : i < wl.length
  · rw [wN_in h]; exact nV_pos
  · rw [wN_out h]; exact ⟨fun q => absurd rfl q, fun q => absurd q (by decide)⟩
def WL (wl : List (Nat × Nat)) : Prop := wl.length ≤ 20 ∧ ∀ i, i < wl.length → wb wl i < we wl i ∧ we wl i ≤ 40
def WX (v : Nat → Int32) (g : Nat → Nat → Int32) (wl : List (Nat × Nat)) : Prop := v 3 = nI wl.length ∧ WL wl ∧ ∀ i, i < wl.length → g 1 i = nI (wb wl i) ∧ g 2 i = nI (we wl i)
theorem wb_app {wl : List (Nat × Nat)} {p : Nat × Nat} {i : Nat} (h : i < wl.length) : wb (wl ++ [p]) i = wb wl i := by
  unfold wb
  rw [List.getD_eq_getElem?_getD, List.getD_eq_getElem?_getD, List.getElem?_append_left h]
theorem we_app {wl : List (Nat × Nat)} {p : Nat × Nat} {i : Nat} (h : i < wl.length) : we (wl ++ [p]) i = we wl i := by
  unfold we
  rw [List.getD_eq_getElem?_getD, List.getD_eq_getElem?_getD, List.getElem?_append_left h]
theorem wb_new {wl : List (Nat × Nat)} {p : Nat × Nat} : wb (wl ++ [p]) wl.length = p.1 := by
  unfold wb
  rw [List.getD_eq_getElem?_getD, List.getElem?_append_right (Nat.le_refl _), Nat.sub_self]; rfl
theorem we_new {wl : List (Nat × Nat)} {p : Nat × Nat} : we (wl ++ [p]) wl.length = p.2 := by
  unfold we
  rw [List.getD_eq_getElem?_getD, List.getElem?_append_right (Nat.le_refl _), Nat.sub_self]; rfl
theorem WL_all (t : Nat → Int32) {n : Nat} (hn : n ≤ 40) : WL (w_all t n) := ⟨w_all_len t hn, fun i hi => by
  have h := w_all_ok t (n := n) ((w_all t n)[i]) (List.getElem_mem hi)
  have e : (w_all t n).getD i (0, 0) = (w_all t n)[i] := by rw [List.getD_eq_getElem?_getD, List.getElem?_eq_getElem hi]; rfl
  unfold wb we
  rw [e]; omega⟩
theorem wN_congr {t t2 : Nat → Int32} {wl : List (Nat × Nat)} {n i : Nat} (hw : WL wl) (h : ∀ j, j < 40 → t j = t2 j) : wN t wl i = wN t2 wl i := by
  by_cases hi : i < wl.length
  · have h1 := hw.2 i hi
    rw [wN_in hi, wN_in hi]
    unfold nV
    have h3 : n_small t (wb wl i) (we wl i - wb wl i) ↔ n_small t2 (wb wl i) (we wl i - wb wl i) := n_small_congr fun j h1 h2 => h j (by omega)
    rw [n_fold_congr (t := t) (t2 := t2) (fun j h1 h2 => h j (by omega)), h3]
  · rw [wN_out hi, wN_out hi]
def fT (g : Nat → Nat → Int32) (f1 f2 : Nat → Int32) (wl : List (Nat × Nat)) : Prop := ∀ i, i < wl.length → f1 i = nI (wb wl i) ∧ f2 i = nI (we wl i)
theorem fT_nil {g : Nat → Nat → Int32} {f1 f2 : Nat → Int32} : fT g f1 f2 [] := fun i hi => absurd hi (Nat.not_lt_zero i)
theorem fT_add {g : Nat → Nat → Int32} {f1 f2 : Nat → Int32} {wl : List (Nat × Nat)} {b e : Nat} (h : fT g f1 f2 wl) : fT g (upd f1 wl.length (nI b)) (upd f2 wl.length (nI e)) (wl ++ [(b, e)]) := fun i hi => by
  rw [List.length_append] at hi
  simp only [List.length_cons, List.length_nil] at hi
  rcases Nat.lt_or_ge i wl.length with q | q
  · rw [pk_un (by omega), pk_un (by omega), wb_app q, we_app q]; exact h i q
  · have q2 : i = wl.length := by omega
    subst q2
    rw [pk_us, pk_us, wb_new, we_new]; exact ⟨rfl, rfl⟩
