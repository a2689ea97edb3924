theorem up_self {α : Type} {v : Nat → α} {k : Nat} {x : α} (h : v k = x) : va_up v k x = v := by
  funext j
  unfold va_up
  by_cases q : j = k
  · rw [if_pos q, q, h]
  · rw [if_neg q]
noncomputable def ff (P : Nat → Prop) : Nat → Option Nat
  | 0 => none
  | n + 1 => match ff P n with
    | some k => some k
    | none => cif (P n) (some n) none
theorem ff_none {P : Nat → Prop} : ∀ {n : Nat}, (∀ j, j < n → ¬ P j) → ff P n = none
  | 0, _ => rfl
  | n + 1, h => by
    unfold ff
    rw [ff_none (n := n) (fun j hj => h j (by omega))]
    exact cif_neg (h n (by omega))
theorem ff_some {P : Nat → Prop} : ∀ {n k : Nat}, k < n → P k → (∀ j, j < k → ¬ P j) → ff P n = some k
  | 0, _, h, _, _ => absurd h (Nat.not_lt_zero _)
  | n + 1, k, h, hp, hn => by
    unfold ff
    rcases Nat.lt_or_ge k n with q | q
    · rw [ff_some (n := n) q hp hn]
    · have e : k = n := by omega
      subst e
      rw [ff_none hn]
      exact cif_pos hp
theorem ff_or {P : Nat → Prop} : ∀ (n : Nat), (∃ k, k < n ∧ P k ∧ (∀ j, j < k → ¬ P j) ∧ ff P n = some k) ∨ ((∀ j, j < n → ¬ P j) ∧ ff P n = none)
  | 0 => Or.inr ⟨fun j hj => absurd hj (Nat.not_lt_zero _), rfl⟩
  | n + 1 => by
    rcases ff_or (P := P) n with ⟨k, h1, h2, h3, _⟩ | ⟨h1, _⟩
    · exact Or.inl ⟨k, by omega, h2, h3, ff_some (by omega) h2 h3⟩
    · by_cases h : P n
      · exact Or.inl ⟨n, by omega, h, h1, ff_some (by omega) h h1⟩
      · have h4 : ∀ j, j < n + 1 → ¬ P j := fun j hj => by
          rcases Nat.lt_or_ge j n with q | q
          · exact h1 j q
          · rw [show j = n by omega]; exact h
        exact Or.inr ⟨h4, ff_none h4⟩
theorem ff_is {P : Nat → Prop} {n k : Nat} (h : ff P n = some k) : k < n ∧ P k ∧ ∀ j, j < k → ¬ P j := by
  rcases ff_or (P := P) n with ⟨k2, h1, h2, h3, h4⟩ | ⟨_, h4⟩
  · rw [h] at h4
    rw [Option.some.inj h4]; exact ⟨h1, h2, h3⟩
  · rw [h] at h4; cases h4
theorem ff_no {P : Nat → Prop} {n : Nat} (h : ff P n = none) : ∀ j, j < n → ¬ P j := by
  rcases ff_or (P := P) n with ⟨k2, _, _, _, h4⟩ | ⟨h4, _⟩
  · rw [h] at h4; cases h4
  · exact h4
theorem ff_congr {P Q : Nat → Prop} {n : Nat} (h : ∀ j, j < n → (P j ↔ Q j)) : ff P n = ff Q n := by
  rcases ff_or (P := P) n with ⟨k, h1, h2, h3, h4⟩ | ⟨h3, h4⟩
  · rw [h4, ff_some h1 ((h k h1).mp h2) (fun j hj q => h3 j hj ((h j (by omega)).mpr q))]
  · rw [h4, ff_none (fun j hj q => h3 j hj ((h j hj).mpr q))]
def zMo : List Nat := [109, 111, 100, 117, 108, 101]
def zPa : List Nat := [112, 97, 99, 107, 97, 103, 101]
def zEx : List Nat := [101, 120, 112, 111, 114, 116, 115]
def zOp : List Nat := [111, 112, 101, 110, 115]
def zRe : List Nat := [114, 101, 113, 117, 105, 114, 101, 115]
def zUs : List Nat := [117, 115, 101, 115]
def zPr : List Nat := [112, 114, 111, 118, 105, 100, 101, 115]
def zTr : List Nat := [116, 114, 97, 110, 115, 105, 116, 105, 118, 101]
def zSt : List Nat := [115, 116, 97, 116, 105, 99]
def zTo : List Nat := [116, 111]
theorem q_Mo {t : Nat → Int32} {b e : Nat} (h : b ≤ e) : sQ t b e (cdV 109 111 100 117 108) (cdV 101 0 0 0 0) ↔ wE t b e zMo := sQ_l zMo h (by decide) (by decide) (by decide) (by decide)
theorem q_Pa {t : Nat → Int32} {b e : Nat} (h : b ≤ e) : sQ t b e (cdV 112 97 99 107 97) (cdV 103 101 0 0 0) ↔ wE t b e zPa := sQ_l zPa h (by decide) (by decide) (by decide) (by decide)
theorem q_Ex {t : Nat → Int32} {b e : Nat} (h : b ≤ e) : sQ t b e (cdV 101 120 112 111 114) (cdV 116 115 0 0 0) ↔ wE t b e zEx := sQ_l zEx h (by decide) (by decide) (by decide) (by decide)
theorem q_Op {t : Nat → Int32} {b e : Nat} (h : b ≤ e) : sQ t b e (cdV 111 112 101 110 115) 0 ↔ wE t b e zOp := sQ_l zOp h (by decide) (by decide) (by decide) (by decide)
theorem q_Re {t : Nat → Int32} {b e : Nat} (h : b ≤ e) : sQ t b e (cdV 114 101 113 117 105) (cdV 114 101 115 0 0) ↔ wE t b e zRe := sQ_l zRe h (by decide) (by decide) (by decide) (by decide)
theorem q_Us {t : Nat → Int32} {b e : Nat} (h : b ≤ e) : sQ t b e (cdV 117 115 101 115 0) 0 ↔ wE t b e zUs := sQ_l zUs h (by decide) (by decide) (by decide) (by decide)
theorem q_Pr {t : Nat → Int32} {b e : Nat} (h : b ≤ e) : sQ t b e (cdV 112 114 111 118 105) (cdV 100 101 115 0 0) ↔ wE t b e zPr := sQ_l zPr h (by decide) (by decide) (by decide) (by decide)
theorem q_Tr {t : Nat → Int32} {b e : Nat} (h : b ≤ e) : sQ t b e (cdV 116 114 97 110 115) (cdV 105 116 105 118 101) ↔ wE t b e zTr := sQ_l zTr h (by decide) (by decide) (by decide) (by decide)
theorem q_St {t : Nat → Int32} {b e : Nat} (h : b ≤ e) : sQ t b e (cdV 115 116 97 116 105) (cdV 99 0 0 0 0) ↔ wE t b e zSt := sQ_l zSt h (by decide) (by decide) (by decide) (by decide)
theorem q_To {t : Nat → Int32} {b e : Nat} (h : b ≤ e) : sQ t b e (cdV 116 111 0 0 0) 0 ↔ wE t b e zTo := sQ_l zTo h (by decide) (by decide) (by decide) (by decide)
abbrev gT : Type := Nat → Nat → Int32
noncomputable def fF (t : Nat → Int32) (wl : List (Nat × Nat)) : Int32 := cif (wS t wl 1 [48]) 0 1
def okD (t : Nat → Int32) (wl : List (Nat × Nat)) (nd : Nat) (g : gT) : Prop := wl.length = 3 ∧ (wS t wl 1 [48] ∨ wS t wl 1 [49]) ∧ ¬ wN t wl 2 = 0 ∧ (∀ j, j < nd → ¬ (g 3 j = fF t wl ∧ g 4 j = wN t wl 2)) ∧ nd < 12
noncomputable def lD (t : Nat → Int32) (wl : List (Nat × Nat)) (nd : Nat) (g : gT) : Nat × gT := cif (okD t wl nd g) (nd + 1, va_up (va_up g 3 (upd (g 3) nd (fF t wl))) 4 (upd (g 4) nd (wN t wl 2))) (nd, g)
def okP (t : Nat → Int32) (wl : List (Nat × Nat)) (nd : Nat) (g : gT) : Prop := wl.length = 2 ∧ ¬ wN t wl 1 = 0 ∧ 0 < nd ∧ (∀ j, 6 * (nd - 1) ≤ j → j < 6 * (nd - 1) + iN (g 5 (nd - 1)) → ¬ g 6 j = wN t wl 1) ∧ g 11 (nd - 1) = 0 ∧ iN (g 5 (nd - 1)) < 6
noncomputable def lP (t : Nat → Int32) (wl : List (Nat × Nat)) (nd : Nat) (g : gT) : gT := cif (okP t wl nd g) (va_up (va_up g 5 (upd (g 5) (nd - 1) (nI (iN (g 5 (nd - 1)) + 1)))) 6 (upd (g 6) (6 * (nd - 1) + iN (g 5 (nd - 1))) (wN t wl 1))) g
noncomputable def bI (C : Prop) : Int32 := cif C 1 0
theorem bI_nar {C : Prop} : vp_nar .boolean (bI C) = bI C := by
  by_cases h : C
  · unfold bI; rw [cif_pos h]; rfl
  · unfold bI; rw [cif_neg h]; rfl
def rqT (t : Nat → Int32) (wl : List (Nat × Nat)) : Prop := 2 < wl.length ∧ wS t wl 1 zTr
noncomputable def rqA (t : Nat → Int32) (wl : List (Nat × Nat)) : Nat := cif (rqT t wl) 2 1
def rqO (t : Nat → Int32) (wl : List (Nat × Nat)) : Prop := rqA t wl + 1 < wl.length ∧ wS t wl (rqA t wl) zSt
noncomputable def rqB (t : Nat → Int32) (wl : List (Nat × Nat)) : Nat := cif (rqO t wl) (rqA t wl + 1) (rqA t wl)
def okR (t : Nat → Int32) (wl : List (Nat × Nat)) (nd : Nat) (g : gT) : Prop := wl.length = rqB t wl + 1 ∧ ¬ wN t wl (rqB t wl) = 0 ∧ 0 < nd ∧ ¬ g 4 (nd - 1) = wN t wl (rqB t wl) ∧ (∀ j, 5 * (nd - 1) ≤ j → j < 5 * (nd - 1) + iN (g 12 (nd - 1)) → ¬ g 13 j = wN t wl (rqB t wl)) ∧ g 11 (nd - 1) = 0 ∧ iN (g 12 (nd - 1)) < 5
noncomputable def lR (t : Nat → Int32) (wl : List (Nat × Nat)) (nd : Nat) (g : gT) : gT := cif (okR t wl nd g) (va_up (va_up (va_up (va_up g 12 (upd (g 12) (nd - 1) (nI (iN (g 12 (nd - 1)) + 1)))) 13 (upd (g 13) (5 * (nd - 1) + iN (g 12 (nd - 1))) (wN t wl (rqB t wl)))) 16 (upd (g 16) (5 * (nd - 1) + iN (g 12 (nd - 1))) (bI (rqT t wl)))) 17 (upd (g 17) (5 * (nd - 1) + iN (g 12 (nd - 1))) (bI (rqO t wl)))) g
noncomputable def svF (f : Nat → Int32) (d : Nat) : Option Nat := ff (fun k => f (3 * d + k) = 0) 3
def okS (a : Nat) (t : Nat → Int32) (wl : List (Nat × Nat)) (nd : Nat) (g : gT) : Prop := wl.length = 2 ∧ ¬ wN t wl 1 = 0 ∧ 0 < nd ∧ (∀ k, k < 3 → ¬ g a (3 * (nd - 1) + k) = wN t wl 1) ∧ g 11 (nd - 1) = 0
noncomputable def lS (a : Nat) (t : Nat → Int32) (wl : List (Nat × Nat)) (nd : Nat) (g : gT) : gT := match svF (g a) (nd - 1) with
  | none => g
  | some k => cif (okS a t wl nd g) (va_up g a (upd (g a) (3 * (nd - 1) + k) (wN t wl 1))) g
noncomputable def pI (g : gT) (d : Nat) (n : Int32) : Option Nat := ff (fun i => g 6 (6 * d + i) = n) (iN (g 5 d))
noncomputable def gS (g : gT) (a b : Nat) (to : Int32) : gT := match ff (fun k => g a (b + k) = to ∨ g a (b + k) = 0) 3 with
  | none => g
  | some k => cif (¬ g a (b + k) = to) (va_up g a (upd (g a) (b + k) to)) g
def okG (t : Nat → Int32) (wl : List (Nat × Nat)) (nd : Nat) (g : gT) : Prop := (wl.length = 2 ∨ (wl.length = 4 ∧ wS t wl 2 zTo ∧ ¬ wN t wl 3 = 0)) ∧ ¬ wN t wl 1 = 0 ∧ 0 < nd ∧ g 11 (nd - 1) = 0
noncomputable def lG (a a2 : Nat) (t : Nat → Int32) (wl : List (Nat × Nat)) (nd : Nat) (g : gT) : gT := match pI g (nd - 1) (wN t wl 1) with
  | none => g
  | some i => cif (okG t wl nd g) (cif (wl.length = 2) (va_up g a2 (upd (g a2) (6 * (nd - 1) + i) 1)) (gS g a (3 * (6 * (nd - 1) + i)) (wN t wl 3))) g
noncomputable def lnF (t : Nat → Int32) (wl : List (Nat × Nat)) (nd : Nat) (g : gT) : Nat × gT := cif (wS t wl 0 zMo) (lD t wl nd g) (cif (wS t wl 0 zPa) (nd, lP t wl nd g) (cif (wS t wl 0 zEx) (nd, lG 7 9 t wl nd g) (cif (wS t wl 0 zOp) (nd, lG 8 10 t wl nd g) (cif (wS t wl 0 zRe) (nd, lR t wl nd g) (cif (wS t wl 0 zUs) (nd, lS 14 t wl nd g) (cif (wS t wl 0 zPr) (nd, lS 15 t wl nd g) (nd, g)))))))
theorem w1_at {t : Nat → Int32} {wl : List (Nat × Nat)} {i c : Nat} : wS t wl i [c] ↔ (i < wl.length ∧ we wl i - wb wl i = 1 ∧ t (wb wl i) = nI c) := by
  constructor
  · intro ⟨h1, h2, h3⟩
    exact ⟨h1, h2, h3 0 (Nat.zero_lt_one)⟩
  · intro ⟨h1, h2, h3⟩
    refine ⟨h1, h2, fun p hp => ?_⟩
    have e : p = 0 := by simp only [List.length_cons, List.length_nil] at hp; omega
    subst e; exact h3
theorem wd_iff {t : Nat → Int32} {wl : List (Nat × Nat)} (h1 : 1 < wl.length) (hw : wb wl 1 < we wl 1) : (wS t wl 1 [48] ∨ wS t wl 1 [49]) ↔ (we wl 1 = wb wl 1 + 1 ∧ ¬ sL t (wb wl 1) (we wl 1) 0 < 48 ∧ ¬ 49 < sL t (wb wl 1) (we wl 1) 0) := by
  have e : sL t (wb wl 1) (we wl 1) 0 = t (wb wl 1) := by unfold sL; rw [if_pos (by omega)]; rfl
  rw [w1_at, w1_at, e]
  constructor
  · rintro (⟨_, h2, h3⟩ | ⟨_, h2, h3⟩)
    · rw [h3]; exact ⟨by omega, by decide, by decide⟩
    · rw [h3]; exact ⟨by omega, by decide, by decide⟩
  · intro ⟨h2, h3, h4⟩
    have h0 : ¬ t (wb wl 1) < 0 := fun q => h3 (Int32.lt_trans q (by decide))
    obtain ⟨j, hj, ej⟩ := nI_of h0
    rw [ej, show (48 : Int32) = nI 48 from rfl, nI_ltI hj (by decide)] at h3
    rw [ej, show (49 : Int32) = nI 49 from rfl, nI_ltI (by decide) hj] at h4
    rcases (show j = 48 ∨ j = 49 by omega) with q | q
    · exact Or.inl ⟨h1, by omega, by rw [ej, q]⟩
    · exact Or.inr ⟨h1, by omega, by rw [ej, q]⟩
theorem wd_f {t : Nat → Int32} {wl : List (Nat × Nat)} (hw : wb wl 1 < we wl 1) (h : wS t wl 1 [48] ∨ wS t wl 1 [49]) : fF t wl = sL t (wb wl 1) (we wl 1) 0 - 48 := by
  have e : sL t (wb wl 1) (we wl 1) 0 = t (wb wl 1) := by unfold sL; rw [if_pos (by omega)]; rfl
  rw [e]
  by_cases q : wS t wl 1 [48]
  · unfold fF; rw [cif_pos q, (w1_at.mp q).2.2]; decide
  · unfold fF; rw [cif_neg q, (w1_at.mp (h.resolve_left q)).2.2]; decide
theorem lD_no {t : Nat → Int32} {wl : List (Nat × Nat)} {nd : Nat} {g : gT} {v : Nat → Int32} (hv : v 4 = nI nd) (h : ¬ okD t wl nd g) : (v, g) = (va_up v 4 (nI (lD t wl nd g).1), (lD t wl nd g).2) := by
  unfold lD; rw [cif_neg h]; rw [up_self hv]
theorem lD_ok {t : Nat → Int32} {wl : List (Nat × Nat)} {nd : Nat} {g : gT} {v : Nat → Int32} {x y : Int32} (h : okD t wl nd g) (hx : x = fF t wl) (hy : y = wN t wl 2) : (va_up v 4 (nI (nd + 1)), va_up (va_up g 3 (upd (g 3) nd x)) 4 (upd (g 4) nd y)) = (va_up v 4 (nI (lD t wl nd g).1), (lD t wl nd g).2) := by
  unfold lD; rw [cif_pos h, hx, hy]
theorem lP_no {t : Nat → Int32} {wl : List (Nat × Nat)} {nd : Nat} {g : gT} (h : ¬ okP t wl nd g) : g = lP t wl nd g := by unfold lP; rw [cif_neg h]
theorem lP_ok {t : Nat → Int32} {wl : List (Nat × Nat)} {nd pk : Nat} {g : gT} {y : Int32} (hpk : g 5 (nd - 1) = nI pk) (hk : pk < 2147483648) (h : okP t wl nd g) (hy : y = wN t wl 1) : va_up (va_up g 5 (upd (g 5) (nd - 1) (nI (pk + 1)))) 6 (upd (g 6) (6 * (nd - 1) + pk) y) = lP t wl nd g := by
  have e : iN (g 5 (nd - 1)) = pk := by rw [hpk, iN_nI hk]
  unfold lP; rw [cif_pos h, hy, e]
theorem lR_no {t : Nat → Int32} {wl : List (Nat × Nat)} {nd : Nat} {g : gT} (h : ¬ okR t wl nd g) : g = lR t wl nd g := by unfold lR; rw [cif_neg h]
theorem lR_ok {t : Nat → Int32} {wl : List (Nat × Nat)} {nd rq : Nat} {g : gT} {y th qt : Int32} (hrq : g 12 (nd - 1) = nI rq) (hk : rq < 2147483648) (h : okR t wl nd g) (hy : y = wN t wl (rqB t wl)) (ht : th = bI (rqT t wl)) (hq : qt = bI (rqO t wl)) : va_up (va_up (va_up (va_up g 12 (upd (g 12) (nd - 1) (nI (rq + 1)))) 13 (upd (g 13) (5 * (nd - 1) + rq) y)) 16 (upd (g 16) (5 * (nd - 1) + rq) (vp_nar .boolean th))) 17 (upd (g 17) (5 * (nd - 1) + rq) (vp_nar .boolean qt)) = lR t wl nd g := by
  have e : iN (g 12 (nd - 1)) = rq := by rw [hrq, iN_nI hk]
  unfold lR; rw [cif_pos h, hy, ht, hq, bI_nar, bI_nar, e]
theorem bI_1 {C : Prop} (h : C) : (1 : Int32) = bI C := (cif_pos h).symm
theorem bI_0 {C : Prop} (h : ¬ C) : (0 : Int32) = bI C := (cif_neg h).symm
theorem lG_no1 {a a2 : Nat} {t : Nat → Int32} {wl : List (Nat × Nat)} {nd : Nat} {g : gT} (h : ¬ okG t wl nd g) : g = lG a a2 t wl nd g := by
  unfold lG
  split
  · rfl
  · rw [cif_neg h]
theorem lG_no2 {a a2 : Nat} {t : Nat → Int32} {wl : List (Nat × Nat)} {nd : Nat} {g : gT} (h : pI g (nd - 1) (wN t wl 1) = none) : g = lG a a2 t wl nd g := by
  unfold lG; rw [h]
theorem lG_all {a a2 : Nat} {t : Nat → Int32} {wl : List (Nat × Nat)} {nd i k : Nat} {g : gT} {x : Int32} (hp : pI g (nd - 1) (wN t wl 1) = some i) (h : okG t wl nd g) (h2 : wl.length = 2) (hk : k = 6 * (nd - 1) + i) (hx : x = 1) : va_up g a2 (upd (g a2) k x) = lG a a2 t wl nd g := by
  unfold lG; rw [hp]; simp only; rw [cif_pos h, cif_pos h2, hk, hx]
theorem lG_to {a a2 : Nat} {t : Nat → Int32} {wl : List (Nat × Nat)} {nd i k : Nat} {g : gT} (hp : pI g (nd - 1) (wN t wl 1) = some i) (h : okG t wl nd g) (h4 : wl.length = 4) (hk : k = 6 * (nd - 1) + i) : gS g a (3 * k) (wN t wl 3) = lG a a2 t wl nd g := by
  unfold lG; rw [hp]; simp only; rw [cif_pos h, cif_neg (by omega), hk]
theorem gS_same {g : gT} {a b k : Nat} {to : Int32} (hk : k < 3) (h : g a (b + k) = to) (hn : ∀ j, j < k → ¬ g a (b + j) = to ∧ ¬ g a (b + j) = 0) : g = gS g a b to := by
  have e := ff_some (P := fun k => g a (b + k) = to ∨ g a (b + k) = 0) hk (Or.inl h) (fun j hj q => q.elim (hn j hj).1 (hn j hj).2)
  unfold gS; rw [e]; simp only; rw [cif_neg (fun q => q h)]
theorem gS_set {g : gT} {a b k : Nat} {to : Int32} (hk : k < 3) (h0 : g a (b + k) = 0) (h : ¬ g a (b + k) = to) (hn : ∀ j, j < k → ¬ g a (b + j) = to ∧ ¬ g a (b + j) = 0) : va_up g a (upd (g a) (b + k) to) = gS g a b to := by
  have e := ff_some (P := fun k => g a (b + k) = to ∨ g a (b + k) = 0) hk (Or.inr h0) (fun j hj q => q.elim (hn j hj).1 (hn j hj).2)
  unfold gS; rw [e]; simp only; rw [cif_pos h]
theorem gS_full {g : gT} {a b : Nat} {to : Int32} (hn : ∀ j, j < 3 → ¬ g a (b + j) = to ∧ ¬ g a (b + j) = 0) : g = gS g a b to := by
  have e := ff_none (P := fun k => g a (b + k) = to ∨ g a (b + k) = 0) (n := 3) (fun j hj q => q.elim (hn j hj).1 (hn j hj).2)
  unfold gS; rw [e]
theorem pI_some {g : gT} {d pk k : Nat} {n : Int32} (hpk : g 5 d = nI pk) (hk6 : pk < 2147483648) (h0 : 6 * d ≤ k) (h1 : k < 6 * d + pk) (h2 : g 6 k = n) (h3 : ∀ j, 6 * d ≤ j → j < k → ¬ g 6 j = n) : pI g d n = some (k - 6 * d) := by
  unfold pI
  rw [hpk, iN_nI hk6]
  refine ff_some (by omega) ?_ (fun j hj q => h3 (6 * d + j) (by omega) (by omega) q)
  show g 6 (6 * d + (k - 6 * d)) = n
  rw [show 6 * d + (k - 6 * d) = k by omega]; exact h2
theorem pI_none {g : gT} {d pk : Nat} {n : Int32} (hpk : g 5 d = nI pk) (hk6 : pk < 2147483648) (h3 : ∀ j, 6 * d ≤ j → j < 6 * d + pk → ¬ g 6 j = n) : pI g d n = none := by
  unfold pI
  rw [hpk, iN_nI hk6]
  exact ff_none (fun j hj q => h3 (6 * d + j) (by omega) (by omega) q)
theorem lS_no1 {a : Nat} {t : Nat → Int32} {wl : List (Nat × Nat)} {nd : Nat} {g : gT} (h : ¬ okS a t wl nd g) : g = lS a t wl nd g := by
  unfold lS
  split
  · rfl
  · rw [cif_neg h]
theorem lS_no2 {a : Nat} {t : Nat → Int32} {wl : List (Nat × Nat)} {nd : Nat} {g : gT} (h : svF (g a) (nd - 1) = none) : g = lS a t wl nd g := by
  unfold lS; rw [h]
theorem lS_ok {a : Nat} {t : Nat → Int32} {wl : List (Nat × Nat)} {nd k : Nat} {g : gT} {y : Int32} (hp : svF (g a) (nd - 1) = some k) (h : okS a t wl nd g) (hy : y = wN t wl 1) : va_up g a (upd (g a) (3 * (nd - 1) + k) y) = lS a t wl nd g := by
  unfold lS; rw [hp]; simp only; rw [cif_pos h, hy]
theorem k4b_0 : (Cond.fieldLink "LayerDeskModel" 94 "LayerDeskModel" "words" "I") ∈ wT := wT_t (List.mem_append_right _ (List.mem_append_right _ (List.mem_append_right _ (List.mem_append_left _ (List.mem_of_getElem? (i := 88) rfl))))) rfl
theorem k4b_1 : (Cond.fieldLink "LayerDeskModel" 17 "LayerDeskModel" "end" "[I") ∈ wT := wT_t (List.mem_append_right _ (List.mem_append_right _ (List.mem_append_right _ (List.mem_append_left _ (List.mem_of_getElem? (i := 90) rfl))))) rfl
theorem k4b_2 : (Cond.fieldLink "LayerDeskModel" 13 "LayerDeskModel" "begin" "[I") ∈ wT := wT_t (List.mem_append_right _ (List.mem_append_right _ (List.mem_append_right _ (List.mem_append_left _ (List.mem_of_getElem? (i := 89) rfl))))) rfl
theorem k4b_3 : (Cond.code xy_Mo_letter xb_Mo_letter 3 (some .char)) ∈ wT := wT_t (List.mem_append_right _ (List.mem_append_right _ (List.mem_append_right _ (List.mem_append_left _ (List.mem_of_getElem? (i := 204) rfl))))) rfl
theorem k4b_4 : (Cond.methodLink "LayerDeskModel" 97 xy_Mo_letter) ∈ wT := wT_t (List.mem_append_right _ (List.mem_append_right _ (List.mem_append_right _ (List.mem_append_left _ (List.mem_of_getElem? (i := 201) rfl))))) rfl
theorem k4b_5 : (Cond.instanceMethod xy_Mo_letter) ∈ wT := wT_t (List.mem_append_right _ (List.mem_append_right _ (List.mem_append_right _ (List.mem_append_left _ (List.mem_of_getElem? (i := 203) rfl))))) rfl
theorem k4b_6 : (Cond.selects "LayerDeskModel" xy_Mo_letter xy_Mo_letter) ∈ wT := wT_s (q := (xy_Mo_letter, 31)) (by decide +kernel) rfl
theorem k4b_7 : (Cond.initialized "LayerDeskModel") ∈ wT := wT_t (List.mem_append_left _ (List.mem_of_getElem? (i := 5) rfl)) rfl
theorem k4b_8 : (Cond.code xy_Mo_nameOf xb_Mo_nameOf 4 (some .int)) ∈ wT := wT_t (List.mem_append_right _ (List.mem_append_right _ (List.mem_append_right _ (List.mem_append_left _ (List.mem_of_getElem? (i := 212) rfl))))) rfl
theorem k4b_9 : (Cond.methodLink "LayerDeskModel" 133 xy_Mo_nameOf) ∈ wT := wT_t (List.mem_append_right _ (List.mem_append_right _ (List.mem_append_right _ (List.mem_append_left _ (List.mem_of_getElem? (i := 209) rfl))))) rfl
theorem k4b_10 : (Cond.instanceMethod xy_Mo_nameOf) ∈ wT := wT_t (List.mem_append_right _ (List.mem_append_right _ (List.mem_append_right _ (List.mem_append_left _ (List.mem_of_getElem? (i := 211) rfl))))) rfl
theorem k4b_11 : (Cond.selects "LayerDeskModel" xy_Mo_nameOf xy_Mo_nameOf) ∈ wT := wT_s (q := (xy_Mo_nameOf, 31)) (by decide +kernel) rfl
theorem k4b_12 : (Cond.code xy_Mo_descriptorOf xb_Mo_descriptorOf 4 (some .int)) ∈ wT := wT_t (List.mem_append_right _ (List.mem_append_right _ (List.mem_append_right _ (List.mem_append_left _ (List.mem_of_getElem? (i := 216) rfl))))) rfl
theorem k4b_13 : (Cond.methodLink "LayerDeskModel" 136 xy_Mo_descriptorOf) ∈ wT := wT_t (List.mem_append_right _ (List.mem_append_right _ (List.mem_append_right _ (List.mem_append_left _ (List.mem_of_getElem? (i := 213) rfl))))) rfl
theorem k4b_14 : (Cond.instanceMethod xy_Mo_descriptorOf) ∈ wT := wT_t (List.mem_append_right _ (List.mem_append_right _ (List.mem_append_right _ (List.mem_append_left _ (List.mem_of_getElem? (i := 215) rfl))))) rfl
theorem k4b_15 : (Cond.selects "LayerDeskModel" xy_Mo_descriptorOf xy_Mo_descriptorOf) ∈ wT := wT_s (q := (xy_Mo_descriptorOf, 31)) (by decide +kernel) rfl
theorem k4b_16 : (Cond.fieldLink "LayerDeskModel" 140 "LayerDeskModel" "descriptors" "I") ∈ wT := wT_t (List.mem_append_right _ (List.mem_append_right _ (List.mem_append_right _ (List.mem_append_left _ (List.mem_of_getElem? (i := 91) rfl))))) rfl
theorem k4b_17 : (Cond.fieldLink "LayerDeskModel" 20 "LayerDeskModel" "finder" "[I") ∈ wT := wT_t (List.mem_append_right _ (List.mem_append_right _ (List.mem_append_right _ (List.mem_append_left _ (List.mem_of_getElem? (i := 92) rfl))))) rfl
theorem k4b_18 : (Cond.fieldLink "LayerDeskModel" 23 "LayerDeskModel" "name" "[I") ∈ wT := wT_t (List.mem_append_right _ (List.mem_append_right _ (List.mem_append_right _ (List.mem_append_left _ (List.mem_of_getElem? (i := 93) rfl))))) rfl
set_option maxHeartbeats 4000000 in
set_option maxRecDepth 100000 in
theorem xc_Mo_newDescriptorX (l : Launch) (D : va_G) (kA : Nat → ClassId) (sz h : Nat) (mm : Nat → Nat) (v : Nat → Int32) (g : Nat → Nat → Int32) (wl : List (Nat × Nat)) (nd : Nat) (hMI : MI v g) (hWX : WX v g wl) (hnd : v 4 = nI nd) (hnd12 : nd ≤ 12) : Met l xy_Mo_newDescriptor (.code xy_Mo_newDescriptor xb_Mo_newDescriptor 3 (some .int) :: wT) { frames := 1, cells := 0, slots := 0, locals := 23 } (va_Pc [.ref h] (xPre D kA sz (moW h mm kA v g))) (va_Qi (fun (r : Int32) (u : (Nat → Int32) × (Nat → Nat → Int32)) => MI u.1 u.2 ∧ u.1 2 = v 2 ∧ (r = -1 ∨ r = -2 ∨ r = 1 ∨ r = 2) ∧ u = (va_up v 4 (nI (lD (g 0) wl nd g).1), (lD (g 0) wl nd g).2)) (fun (u : (Nat → Int32) × (Nat → Nat → Int32)) t => va_P D xcl (moW h mm kA u.1 u.2) t.heap ∧ va_D (va_A (moW h mm kA v g) sz) (moW h mm kA u.1 u.2)) (va_A (moW h mm kA v g) sz)) 0 0 (va_A (moW h mm kA v g) sz) := by
  refine Met.ofW (cc := xb_Mo_newDescriptor) (maxL := 3) (ret := (some .int)) (by decide) rfl ?_
  intro p e s m args below meth c s₁ B hml hv
  obtain ⟨rfl, hsz, hP, hK, hD0⟩ := hv
  have hx := B.exec
  have hb := B.bytes
  have hr := B.returns
  have hT := x_hT B.pre
  have hown : s.vm.findClass xR_Mo = some m.cls := findClass_of_methodNamed B.named
  have hlocks := B.notSynchronized
  subst hsz
  have hD := hD0.self (sz := s.heap.size)
  generalize hAe : va_A (moW h mm kA v g) s.heap.size = A at hD ⊢
  have hA : ∀ q : Nat, s.heap.size ≤ q → A q := fun q h => by rw [← hAe]; exact Or.inr h
  have hS : va_S A s.heap s.heap [] := va_S.rf
  have hl := lv_entry ([.ref h]) (n := 3) (Nat.le_of_ble_eq_true rfl)
  rw [lg_entry_eq]
  generalize (lg_sl ([.ref h]) ++ List.replicate (3 - (lg_sl ([.ref h])).length) Slot.unset).toArray = ls at hl ⊢
  have hl : lv_has ls 3 [(0, .ref h)] := hl
  have hP : va_P D xcl (moW h mm kA v g) s.heap := hP
  obtain ⟨-, ⟨nl, hnl5, hnl, hpar⟩, hch, hpk, hrq, hmd, huq⟩ := id hMI
  obtain ⟨hwn, ⟨hwn20, hwlr⟩, hws⟩ := id hWX
  refine lv_aload_n hx hb xd_Mo_newDescriptor_0 rfl (lv_at hl 0 rfl) ?_
  refine va_get (D := D) (ci := 4) (v := .int (v 3)) (C := xR_Mo) (T := xT_Mo) (N := 31) hx hb hT xi_Mo hown hK.1 hP 0 rfl rfl 4 (by decide) (hT _ k4b_0) (fun _ h9 => h9) rfl xd_Mo_newDescriptor_1 ?_
  refine xn_top (x := (v 3)) (y := nI wl.length) hwn ?_
  refine lv_iconst (v := 3) hx hb xd_Mo_newDescriptor_4 (by decide) ?_
  refine xn_ne (a := wl.length) (b := 3) (tgt := 55) hx hb xd_Mo_newDescriptor_5 (by decide) (by omega) (by omega) (fun hc1 => ?_) (fun hc1 => ?_)
  · refine lv_iconst (v := (-1)) hx hb xd_Mo_newDescriptor_55 (by decide) ?_
    exact W.iret (v := (-1)) hx hb hr (fun t ht hW => ⟨⟨(-1), (v, g), rfl, ⟨hMI, rfl, Or.inl rfl, lD_no hnd (fun q => absurd q.1 (by omega))⟩, by rw [ht]; exact hP, hD⟩, hS.F ht⟩) hS.2.2 xd_Mo_newDescriptor_56
  · have hbe1 := (hwlr 1 (by omega)).1
    have he1 := (hwlr 1 (by omega)).2
    have eb1 := (hws 1 (by omega)).1
    have ee1 := (hws 1 (by omega)).2
    have hbe2 := (hwlr 2 (by omega)).1
    have he2 := (hwlr 2 (by omega)).2
    have eb2 := (hws 2 (by omega)).1
    have ee2 := (hws 2 (by omega)).2
    refine lv_aload_n hx hb xd_Mo_newDescriptor_8 rfl (lv_at hl 0 rfl) ?_
    refine va_get (D := D) (ci := 4) (v := .ref (mm 2)) (C := xR_Mo) (T := xT_Mo) (N := 31) hx hb hT xi_Mo hown hK.1 hP 0 rfl rfl 6 (by decide) (hT _ k4b_1) (fun _ h9 => h9) rfl xd_Mo_newDescriptor_9 ?_
    refine lv_iconst (v := 1) hx hb xd_Mo_newDescriptor_12 (by decide) ?_
    refine xn_iald (i := 1) hx hb hK.1 hP 3 0 rfl rfl (by omega) (by decide) xd_Mo_newDescriptor_13 ?_
    refine xn_top (x := (g 2 1)) (y := nI (we wl 1)) ee1 ?_
    refine lv_aload_n hx hb xd_Mo_newDescriptor_14 rfl (lv_at hl 0 rfl) ?_
    refine va_get (D := D) (ci := 4) (v := .ref (mm 1)) (C := xR_Mo) (T := xT_Mo) (N := 31) hx hb hT xi_Mo hown hK.1 hP 0 rfl rfl 5 (by decide) (hT _ k4b_2) (fun _ h9 => h9) rfl xd_Mo_newDescriptor_15 ?_
    refine lv_iconst (v := 1) hx hb xd_Mo_newDescriptor_18 (by decide) ?_
    refine xn_iald (i := 1) hx hb hK.1 hP 2 0 rfl rfl (by omega) (by decide) xd_Mo_newDescriptor_19 ?_
    refine xn_top (x := (g 1 1)) (y := nI (wb wl 1)) eb1 ?_
    refine lv_iconst (v := 1) hx hb xd_Mo_newDescriptor_20 (by decide) ?_
    refine lv_iadd hx hb xd_Mo_newDescriptor_21 ?_
    refine xn_top (y := nI ((wb wl 1) + 1)) (nI_add (wb wl 1) 1) ?_
    refine xn_ne (a := (we wl 1)) (b := (wb wl 1) + 1) (tgt := 55) hx hb xd_Mo_newDescriptor_22 (by decide) (by omega) (by omega) (fun hc2 => ?_) (fun hc2 => ?_)
    · refine lv_iconst (v := (-1)) hx hb xd_Mo_newDescriptor_55 (by decide) ?_
      exact W.iret (v := (-1)) hx hb hr (fun t ht hW => ⟨⟨(-1), (v, g), rfl, ⟨hMI, rfl, Or.inl rfl, lD_no hnd (fun q => absurd ((wd_iff (by omega) hbe1).mp q.2.1).1 (by omega))⟩, by rw [ht]; exact hP, hD⟩, hS.F ht⟩) hS.2.2 xd_Mo_newDescriptor_56
    · refine lv_aload_n hx hb xd_Mo_newDescriptor_25 rfl (lv_at hl 0 rfl) ?_
      refine lv_iconst (v := 1) hx hb xd_Mo_newDescriptor_26 (by decide) ?_
      refine lv_iconst (v := 0) hx hb xd_Mo_newDescriptor_27 (by decide) ?_
      have hFc := va_free (wc := (moW h mm kA v g)) hD hS hA [0, 1, 2, 3, 4, 5, 6, 7, 8, 9, 10, 11, 12, 13, 14, 15, 16, 17, 18, 19, 20, 21, 22, 23, 24, 25] rfl
      refine va_calli (va_runV (As := [.int 1, .int 0]) (rest := []) ⟨hx, hb, hml, hown, hT⟩ (xc_Mo_letterX l D kA s.heap.size h mm v g 1 (wb wl 1) (we wl 1) 0 (by first | assumption | omega) (by first | assumption | omega) (by first | assumption | omega) (by first | assumption | omega) (by first | assumption | omega) (by first | assumption | omega) (by first | assumption | omega)) (cwV 2 hT (wT_V k4b_4 k4b_5 k4b_6 k4b_7 k4b_3) rfl rfl rfl (by decide +kernel) ⟨Nat.le_of_ble_eq_true rfl, Nat.le_of_ble_eq_true rfl⟩) (x_preV hK hP hD 0 rfl rfl) rfl rfl hl.1 rfl (lv_room (Nat.le_of_ble_eq_true rfl)) xd_Mo_newDescriptor_28 ⟨Nat.le_of_ble_eq_true rfl, Nat.le_of_ble_eq_true rfl⟩) hS (fun q _ h => hFc q h) hFc (fun r3 u4 t H1 locs ht hvm hp5 hB hz1 hk1 hS => ?_)
      obtain ⟨hP1, hD1⟩ := hB
      rw [ht] at hP1
      have hD1 := hD1.weaken (fun _ _ _ h => hFc _ h)
      generalize H1 = H at hP1 hS ⊢
      have hP := hP1
      have hD := hD1
      have hP : va_P D xcl (moW h mm kA v g) H := hP
      have hD : va_D A (moW h mm kA v g) := hD
      have hp5 : r3 = sL (g 0) (wb wl 1) (we wl 1) 0 := hp5
      subst hp5
      have hP : va_P D xcl (moW h mm kA v g) H := hP
      have hD : va_D A (moW h mm kA v g) := hD
      refine lv_bipush (v := 48) hx hb xd_Mo_newDescriptor_31 (by decide) ?_
      refine lv_icmp_lt (tgt := 55) hx hb xd_Mo_newDescriptor_33 (by decide) (fun hc6 => ?_) (fun hc6 => ?_)
      · refine lv_iconst (v := (-1)) hx hb xd_Mo_newDescriptor_55 (by decide) ?_
        exact W.iret (v := (-1)) hx hb hr (fun t ht hW => ⟨⟨(-1), (v, g), rfl, ⟨hMI, rfl, Or.inl rfl, lD_no hnd (fun q => ((wd_iff (by omega) hbe1).mp q.2.1).2.1 hc6)⟩, by rw [ht]; exact hP, hD⟩, hS.F ht⟩) hS.2.2 xd_Mo_newDescriptor_56
      · refine lv_aload_n hx hb xd_Mo_newDescriptor_36 rfl (lv_at hl 0 rfl) ?_
        refine lv_iconst (v := 1) hx hb xd_Mo_newDescriptor_37 (by decide) ?_
        refine lv_iconst (v := 0) hx hb xd_Mo_newDescriptor_38 (by decide) ?_
        have hFc := va_free (wc := (moW h mm kA v g)) hD hS hA [0, 1, 2, 3, 4, 5, 6, 7, 8, 9, 10, 11, 12, 13, 14, 15, 16, 17, 18, 19, 20, 21, 22, 23, 24, 25] rfl
        refine va_calli (va_runV (As := [.int 1, .int 0]) (rest := []) ⟨hx, hb, hml, hown, hT⟩ (xc_Mo_letterX l D kA H.size h mm v g 1 (wb wl 1) (we wl 1) 0 (by first | assumption | omega) (by first | assumption | omega) (by first | assumption | omega) (by first | assumption | omega) (by first | assumption | omega) (by first | assumption | omega) (by first | assumption | omega)) (cwV 2 hT (wT_V k4b_4 k4b_5 k4b_6 k4b_7 k4b_3) rfl rfl rfl (by decide +kernel) ⟨Nat.le_of_ble_eq_true rfl, Nat.le_of_ble_eq_true rfl⟩) (x_preV hK hP hD 0 rfl rfl) rfl rfl hl.1 rfl (lv_room (Nat.le_of_ble_eq_true rfl)) xd_Mo_newDescriptor_39 ⟨Nat.le_of_ble_eq_true rfl, Nat.le_of_ble_eq_true rfl⟩) hS (fun q _ h => hFc q h) hFc (fun r7 u8 t H1 locs ht hvm hp9 hB hz1 hk1 hS => ?_)
        obtain ⟨hP1, hD1⟩ := hB
        rw [ht] at hP1
        have hD1 := hD1.weaken (fun _ _ _ h => hFc _ h)
        generalize H1 = H at hP1 hS ⊢
        have hP := hP1
        have hD := hD1
        have hP : va_P D xcl (moW h mm kA v g) H := hP
        have hD : va_D A (moW h mm kA v g) := hD
        have hp9 : r7 = sL (g 0) (wb wl 1) (we wl 1) 0 := hp9
        subst hp9
        have hP : va_P D xcl (moW h mm kA v g) H := hP
        have hD : va_D A (moW h mm kA v g) := hD
        refine lv_bipush (v := 49) hx hb xd_Mo_newDescriptor_42 (by decide) ?_
        refine lv_icmp_gt (tgt := 55) hx hb xd_Mo_newDescriptor_44 (by decide) (fun hc10 => ?_) (fun hc10 => ?_)
        · refine lv_iconst (v := (-1)) hx hb xd_Mo_newDescriptor_55 (by decide) ?_
          exact W.iret (v := (-1)) hx hb hr (fun t ht hW => ⟨⟨(-1), (v, g), rfl, ⟨hMI, rfl, Or.inl rfl, lD_no hnd (fun q => ((wd_iff (by omega) hbe1).mp q.2.1).2.2 hc10)⟩, by rw [ht]; exact hP, hD⟩, hS.F ht⟩) hS.2.2 xd_Mo_newDescriptor_56
        · refine lv_aload_n hx hb xd_Mo_newDescriptor_47 rfl (lv_at hl 0 rfl) ?_
          refine lv_iconst (v := 2) hx hb xd_Mo_newDescriptor_48 (by decide) ?_
          have hFc := va_free (wc := (moW h mm kA v g)) hD hS hA [0, 1, 2, 3, 4, 5, 6, 7, 8, 9, 10, 11, 12, 13, 14, 15, 16, 17, 18, 19, 20, 21, 22, 23, 24, 25] rfl
          refine va_calli (va_runV (As := [.int 2]) (rest := []) ⟨hx, hb, hml, hown, hT⟩ (xc_Mo_nameOfX l D kA H.size h mm v g 2 (wb wl 2) (we wl 2) (by first | assumption | omega) (by first | assumption | omega) (by first | assumption | omega) (by first | assumption | omega) (by first | assumption | omega)) (cwV 1 hT (wT_V k4b_9 k4b_10 k4b_11 k4b_7 k4b_8) rfl rfl rfl (by decide +kernel) ⟨Nat.le_of_ble_eq_true rfl, Nat.le_of_ble_eq_true rfl⟩) (x_preV hK hP hD 0 rfl rfl) rfl rfl hl.1 rfl (lv_room (Nat.le_of_ble_eq_true rfl)) xd_Mo_newDescriptor_49 ⟨Nat.le_of_ble_eq_true rfl, Nat.le_of_ble_eq_true rfl⟩) hS (fun q _ h => hFc q h) hFc (fun r11 u12 t H1 locs ht hvm hp13 hB hz1 hk1 hS => ?_)
          obtain ⟨hP1, hD1⟩ := hB
          rw [ht] at hP1
          have hD1 := hD1.weaken (fun _ _ _ h => hFc _ h)
          generalize H1 = H at hP1 hS ⊢
          have hP := hP1
          have hD := hD1
          have hP : va_P D xcl (moW h mm kA v g) H := hP
          have hD : va_D A (moW h mm kA v g) := hD
          have hp13 : r11 = nV (g 0) (wb wl 2) (we wl 2) := hp13
          subst hp13
          have hP : va_P D xcl (moW h mm kA v g) H := hP
          have hD : va_D A (moW h mm kA v g) := hD
          refine lv_if_ne (tgt := 57) hx hb xd_Mo_newDescriptor_52 (by decide) (fun hc14 => ?_) (fun hc14 => ?_)
          · have hwd : wS (g 0) wl 1 [48] ∨ wS (g 0) wl 1 [49] := (wd_iff (by omega) hbe1).mpr ⟨by omega, hc6, hc10⟩
            have hfF : fF (g 0) wl = sL (g 0) (wb wl 1) (we wl 1) 0 - 48 := wd_f hbe1 hwd
            have hn2 : wN (g 0) wl 2 = nV (g 0) (wb wl 2) (we wl 2) := wN_in (by omega)
            refine lv_aload_n hx hb xd_Mo_newDescriptor_57 rfl (lv_at hl 0 rfl) ?_
            refine lv_iconst (v := 1) hx hb xd_Mo_newDescriptor_58 (by decide) ?_
            refine lv_iconst (v := 0) hx hb xd_Mo_newDescriptor_59 (by decide) ?_
            have hFc := va_free (wc := (moW h mm kA v g)) hD hS hA [0, 1, 2, 3, 4, 5, 6, 7, 8, 9, 10, 11, 12, 13, 14, 15, 16, 17, 18, 19, 20, 21, 22, 23, 24, 25] rfl
            refine va_calli (va_runV (As := [.int 1, .int 0]) (rest := []) ⟨hx, hb, hml, hown, hT⟩ (xc_Mo_letterX l D kA H.size h mm v g 1 (wb wl 1) (we wl 1) 0 (by first | assumption | omega) (by first | assumption | omega) (by first | assumption | omega) (by first | assumption | omega) (by first | assumption | omega) (by first | assumption | omega) (by first | assumption | omega)) (cwV 2 hT (wT_V k4b_4 k4b_5 k4b_6 k4b_7 k4b_3) rfl rfl rfl (by decide +kernel) ⟨Nat.le_of_ble_eq_true rfl, Nat.le_of_ble_eq_true rfl⟩) (x_preV hK hP hD 0 rfl rfl) rfl rfl hl.1 rfl (lv_room (Nat.le_of_ble_eq_true rfl)) xd_Mo_newDescriptor_60 ⟨Nat.le_of_ble_eq_true rfl, Nat.le_of_ble_eq_true rfl⟩) hS (fun q _ h => hFc q h) hFc (fun r15 u16 t H1 locs ht hvm hp17 hB hz1 hk1 hS => ?_)
            obtain ⟨hP1, hD1⟩ := hB
            rw [ht] at hP1
            have hD1 := hD1.weaken (fun _ _ _ h => hFc _ h)
            generalize H1 = H at hP1 hS ⊢
            have hP := hP1
            have hD := hD1
            have hP : va_P D xcl (moW h mm kA v g) H := hP
            have hD : va_D A (moW h mm kA v g) := hD
            have hp17 : r15 = sL (g 0) (wb wl 1) (we wl 1) 0 := hp17
            subst hp17
            have hP : va_P D xcl (moW h mm kA v g) H := hP
            have hD : va_D A (moW h mm kA v g) := hD
            refine lv_bipush (v := 48) hx hb xd_Mo_newDescriptor_63 (by decide) ?_
            refine lv_isub hx hb xd_Mo_newDescriptor_65 ?_
            refine lv_istore_n hx hb xd_Mo_newDescriptor_66 rfl hl (Nat.le_of_ble_eq_true rfl) rfl (fun ls hl => ?_)
            have hl : lv_has ls 3 [(1, .int ((sL (g 0) (wb wl 1) (we wl 1) 0) - 48)), (0, .ref h)] := hl
            refine lv_aload_n hx hb xd_Mo_newDescriptor_67 rfl (lv_at hl 1 rfl) ?_
            refine lv_iconst (v := 2) hx hb xd_Mo_newDescriptor_68 (by decide) ?_
            have hFc := va_free (wc := (moW h mm kA v g)) hD hS hA [0, 1, 2, 3, 4, 5, 6, 7, 8, 9, 10, 11, 12, 13, 14, 15, 16, 17, 18, 19, 20, 21, 22, 23, 24, 25] rfl
            refine va_calli (va_runV (As := [.int 2]) (rest := []) ⟨hx, hb, hml, hown, hT⟩ (xc_Mo_nameOfX l D kA H.size h mm v g 2 (wb wl 2) (we wl 2) (by first | assumption | omega) (by first | assumption | omega) (by first | assumption | omega) (by first | assumption | omega) (by first | assumption | omega)) (cwV 1 hT (wT_V k4b_9 k4b_10 k4b_11 k4b_7 k4b_8) rfl rfl rfl (by decide +kernel) ⟨Nat.le_of_ble_eq_true rfl, Nat.le_of_ble_eq_true rfl⟩) (x_preV hK hP hD 0 rfl rfl) rfl rfl hl.1 rfl (lv_room (Nat.le_of_ble_eq_true rfl)) xd_Mo_newDescriptor_69 ⟨Nat.le_of_ble_eq_true rfl, Nat.le_of_ble_eq_true rfl⟩) hS (fun q _ h => hFc q h) hFc (fun r18 u19 t H1 locs ht hvm hp20 hB hz1 hk1 hS => ?_)
            obtain ⟨hP1, hD1⟩ := hB
            rw [ht] at hP1
            have hD1 := hD1.weaken (fun _ _ _ h => hFc _ h)
            generalize H1 = H at hP1 hS ⊢
            have hP := hP1
            have hD := hD1
            have hP : va_P D xcl (moW h mm kA v g) H := hP
            have hD : va_D A (moW h mm kA v g) := hD
            have hp20 : r18 = nV (g 0) (wb wl 2) (we wl 2) := hp20
            subst hp20
            have hP : va_P D xcl (moW h mm kA v g) H := hP
            have hD : va_D A (moW h mm kA v g) := hD
            refine lv_istore_n hx hb xd_Mo_newDescriptor_72 rfl hl (Nat.le_of_ble_eq_true rfl) rfl (fun ls hl => ?_)
            have hl : lv_has ls 3 [(2, .int (nV (g 0) (wb wl 2) (we wl 2))), (1, .int ((sL (g 0) (wb wl 1) (we wl 1) 0) - 48)), (0, .ref h)] := hl
            refine lv_aload_n hx hb xd_Mo_newDescriptor_73 rfl (lv_at hl 2 rfl) ?_
            refine lv_iload_n hx hb xd_Mo_newDescriptor_74 rfl (lv_at hl 1 rfl) ?_
            refine lv_iload_n hx hb xd_Mo_newDescriptor_75 rfl (lv_at hl 0 rfl) ?_
            have hFc := va_free (wc := (moW h mm kA v g)) hD hS hA [0, 1, 2, 3, 4, 5, 6, 7, 8, 9, 10, 11, 12, 13, 14, 15, 16, 17, 18, 19, 20, 21, 22, 23, 24, 25] rfl
            refine va_calli (va_runV (As := [.int ((sL (g 0) (wb wl 1) (we wl 1) 0) - 48), .int (nV (g 0) (wb wl 2) (we wl 2))]) (rest := []) ⟨hx, hb, hml, hown, hT⟩ (xc_Mo_descriptorOf l D kA H.size h mm v g ((sL (g 0) (wb wl 1) (we wl 1) 0) - 48) (nV (g 0) (wb wl 2) (we wl 2)) nd (by first | assumption | omega) (by first | assumption | omega)) (cwV 2 hT (wT_V k4b_13 k4b_14 k4b_15 k4b_7 k4b_12) rfl rfl rfl (by decide +kernel) ⟨Nat.le_of_ble_eq_true rfl, Nat.le_of_ble_eq_true rfl⟩) (x_preV hK hP hD 0 rfl rfl) rfl rfl hl.1 rfl (lv_room (Nat.le_of_ble_eq_true rfl)) xd_Mo_newDescriptor_76 ⟨Nat.le_of_ble_eq_true rfl, Nat.le_of_ble_eq_true rfl⟩) hS (fun q _ h => hFc q h) hFc (fun r21 u22 t H1 locs ht hvm hp23 hB hz1 hk1 hS => ?_)
            obtain ⟨hP1, hD1⟩ := hB
            rw [ht] at hP1
            have hD1 := hD1.weaken (fun _ _ _ h => hFc _ h)
            generalize H1 = H at hP1 hS ⊢
            have hP := hP1
            have hD := hD1
            have hP : va_P D xcl (moW h mm kA v g) H := hP
            have hD : va_D A (moW h mm kA v g) := hD
            rcases hp23 with ⟨z24, z25, rfl, z26, z27, z28⟩ | ⟨rfl, z29⟩
            · refine xz_lt (a := z24) (tgt := 84) hx hb xd_Mo_newDescriptor_79 (by decide) (by omega) ?_
              refine lv_iconst (v := (-1)) hx hb xd_Mo_newDescriptor_82 (by decide) ?_
              exact W.iret (v := (-1)) hx hb hr (fun t ht hW => ⟨⟨(-1), (v, g), rfl, ⟨hMI, rfl, Or.inl rfl, lD_no hnd (fun q => q.2.2.2.1 z24 z25 ⟨z26.trans hfF.symm, z27.trans hn2.symm⟩)⟩, by rw [ht]; exact hP, hD⟩, hS.F ht⟩) hS.2.2 xd_Mo_newDescriptor_83
            · refine lv_if_lt (tgt := 84) hx hb xd_Mo_newDescriptor_79 (by decide) (fun _ => ?_) (fun hc31 => absurd hc31 (by decide))
              refine lv_aload_n hx hb xd_Mo_newDescriptor_84 rfl (lv_at hl 2 rfl) ?_
              refine va_get (D := D) (ci := 4) (v := .int (v 4)) (C := xR_Mo) (T := xT_Mo) (N := 31) hx hb hT xi_Mo hown hK.1 hP 0 rfl rfl 7 (by decide) (hT _ k4b_16) (fun _ h9 => h9) rfl xd_Mo_newDescriptor_85 ?_
              refine xn_top (x := (v 4)) (y := nI nd) hnd ?_
              refine lv_bipush (v := 12) hx hb xd_Mo_newDescriptor_88 (by decide) ?_
              refine xn_ne (a := nd) (b := 12) (tgt := 96) hx hb xd_Mo_newDescriptor_90 (by decide) (by omega) (by omega) (fun hc32 => ?_) (fun hc32 => ?_)
              · refine lv_aload_n hx hb xd_Mo_newDescriptor_96 rfl (lv_at hl 2 rfl) ?_
                refine va_get (D := D) (ci := 4) (v := .ref (mm 3)) (C := xR_Mo) (T := xT_Mo) (N := 31) hx hb hT xi_Mo hown hK.1 hP 0 rfl rfl 8 (by decide) (hT _ k4b_17) (fun _ h9 => h9) rfl xd_Mo_newDescriptor_97 ?_
                refine lv_aload_n hx hb xd_Mo_newDescriptor_100 rfl (lv_at hl 2 rfl) ?_
                refine va_get (D := D) (ci := 4) (v := .int (v 4)) (C := xR_Mo) (T := xT_Mo) (N := 31) hx hb hT xi_Mo hown hK.1 hP 0 rfl rfl 7 (by decide) (hT _ k4b_16) (fun _ h9 => h9) rfl xd_Mo_newDescriptor_101 ?_
                refine xn_top (x := (v 4)) (y := nI nd) hnd ?_
                refine lv_iload_n hx hb xd_Mo_newDescriptor_104 rfl (lv_at hl 1 rfl) ?_
                refine xn_iast (i := nd) hx hb hK.1 hP hD hS 4 0 rfl rfl (by omega) (by decide) xd_Mo_newDescriptor_105 (fun H locs hP hD hS => ?_)
                have hP : va_P D xcl (moW h mm kA v (va_up g 3 (upd (g 3) nd ((sL (g 0) (wb wl 1) (we wl 1) 0) - 48)))) H := hP
                have hD : va_D A (moW h mm kA v (va_up g 3 (upd (g 3) nd ((sL (g 0) (wb wl 1) (we wl 1) 0) - 48)))) := hD
                refine lv_aload_n hx hb xd_Mo_newDescriptor_106 rfl (lv_at hl 2 rfl) ?_
                refine va_get (D := D) (ci := 4) (v := .ref (mm 4)) (C := xR_Mo) (T := xT_Mo) (N := 31) hx hb hT xi_Mo hown hK.1 hP 0 rfl rfl 9 (by decide) (hT _ k4b_18) (fun _ h9 => h9) rfl xd_Mo_newDescriptor_107 ?_
                refine lv_aload_n hx hb xd_Mo_newDescriptor_110 rfl (lv_at hl 2 rfl) ?_
                refine va_get (D := D) (ci := 4) (v := .int (v 4)) (C := xR_Mo) (T := xT_Mo) (N := 31) hx hb hT xi_Mo hown hK.1 hP 0 rfl rfl 7 (by decide) (hT _ k4b_16) (fun _ h9 => h9) rfl xd_Mo_newDescriptor_111 ?_
                refine xn_top (x := (v 4)) (y := nI nd) hnd ?_
                refine lv_iload_n hx hb xd_Mo_newDescriptor_114 rfl (lv_at hl 0 rfl) ?_
                refine xn_iast (i := nd) hx hb hK.1 hP hD hS 5 0 rfl rfl (by omega) (by decide) xd_Mo_newDescriptor_115 (fun H locs hP hD hS => ?_)
                have hP : va_P D xcl (moW h mm kA v (va_up (va_up g 3 (upd (g 3) nd ((sL (g 0) (wb wl 1) (we wl 1) 0) - 48))) 4 (upd (g 4) nd (nV (g 0) (wb wl 2) (we wl 2))))) H := hP
                have hD : va_D A (moW h mm kA v (va_up (va_up g 3 (upd (g 3) nd ((sL (g 0) (wb wl 1) (we wl 1) 0) - 48))) 4 (upd (g 4) nd (nV (g 0) (wb wl 2) (we wl 2))))) := hD
                refine lv_aload_n hx hb xd_Mo_newDescriptor_116 rfl (lv_at hl 2 rfl) ?_
                refine lv_dup hx hb xd_Mo_newDescriptor_117 rfl ?_
                refine va_get (D := D) (ci := 4) (v := .int (v 4)) (C := xR_Mo) (T := xT_Mo) (N := 31) hx hb hT xi_Mo hown hK.1 hP 0 rfl rfl 7 (by decide) (hT _ k4b_16) (fun _ h9 => h9) rfl xd_Mo_newDescriptor_118 ?_
                refine xn_top (x := (v 4)) (y := nI nd) hnd ?_
                refine lv_iconst (v := 1) hx hb xd_Mo_newDescriptor_121 (by decide) ?_
                refine lv_iadd hx hb xd_Mo_newDescriptor_122 ?_
                refine xn_top (y := nI (nd + 1)) (nI_add nd 1) ?_
                refine va_put (D := D) (ci := 4) (v := .int (nI (nd + 1))) (ty := .int) (C := xR_Mo) (T := xT_Mo) (N := 31) hx hb hT xi_Mo xt_Mo xt_Mo_ok xn_Mo hown hK.1 hP hD hS 0 rfl rfl 7 (by decide) (hT _ k4b_16) (fun _ h9 => h9) rfl (by decide +kernel) rfl rfl (Nat.le_of_ble_eq_true rfl) xd_Mo_newDescriptor_123 (fun H locs hP hD hS => ?_)
                have hP : va_P D xcl (moW h mm kA (va_up v 4 (nI (nd + 1))) (va_up (va_up g 3 (upd (g 3) nd ((sL (g 0) (wb wl 1) (we wl 1) 0) - 48))) 4 (upd (g 4) nd (nV (g 0) (wb wl 2) (we wl 2))))) H := hP
                have hD : va_D A (moW h mm kA (va_up v 4 (nI (nd + 1))) (va_up (va_up g 3 (upd (g 3) nd ((sL (g 0) (wb wl 1) (we wl 1) 0) - 48))) 4 (upd (g 4) nd (nV (g 0) (wb wl 2) (we wl 2))))) := hD
                refine lv_iconst (v := 1) hx hb xd_Mo_newDescriptor_126 (by decide) ?_
                exact W.iret (v := 1) hx hb hr (fun t ht hW => ⟨⟨1, ((va_up v 4 (nI (nd + 1))), (va_up (va_up g 3 (upd (g 3) nd ((sL (g 0) (wb wl 1) (we wl 1) 0) - 48))) 4 (upd (g 4) nd (nV (g 0) (wb wl 2) (we wl 2))))), rfl, ⟨MI_new hnd (by omega) z29 hMI, rfl, Or.inr (Or.inr (Or.inl rfl)), lD_ok ⟨by omega, hwd, fun q => hc14 (hn2.symm.trans q), fun j hj q => z29 j hj ⟨q.1.trans hfF, q.2.trans hn2⟩, by omega⟩ hfF.symm hn2.symm⟩, by rw [ht]; exact hP, hD⟩, hS.F ht⟩) hS.2.2 xd_Mo_newDescriptor_127
              · refine lv_bipush (v := (-2)) hx hb xd_Mo_newDescriptor_93 (by decide) ?_
                exact W.iret (v := (-2)) hx hb hr (fun t ht hW => ⟨⟨(-2), (v, g), rfl, ⟨hMI, rfl, Or.inr (Or.inl rfl), lD_no hnd (fun q => absurd q.2.2.2.2 (by omega))⟩, by rw [ht]; exact hP, hD⟩, hS.F ht⟩) hS.2.2 xd_Mo_newDescriptor_95
          · refine lv_iconst (v := (-1)) hx hb xd_Mo_newDescriptor_55 (by decide) ?_
            exact W.iret (v := (-1)) hx hb hr (fun t ht hW => ⟨⟨(-1), (v, g), rfl, ⟨hMI, rfl, Or.inl rfl, lD_no hnd (fun q => q.2.2.1 ((wN_in (by omega)).trans hc14))⟩, by rw [ht]; exact hP, hD⟩, hS.F ht⟩) hS.2.2 xd_Mo_newDescriptor_56
theorem k4c_0 : (Cond.fieldLink "LayerDeskModel" 26 "LayerDeskModel" "packages" "[I") ∈ wT := wT_t (List.mem_append_right _ (List.mem_append_right _ (List.mem_append_right _ (List.mem_append_left _ (List.mem_of_getElem? (i := 94) rfl))))) rfl
theorem k4c_1 : (Cond.fieldLink "LayerDeskModel" 29 "LayerDeskModel" "pack" "[I") ∈ wT := wT_t (List.mem_append_right _ (List.mem_append_right _ (List.mem_append_right _ (List.mem_append_left _ (List.mem_of_getElem? (i := 95) rfl))))) rfl
theorem k4c_2 : (Cond.fieldLink "LayerDeskModel" 94 "LayerDeskModel" "words" "I") ∈ wT := wT_t (List.mem_append_right _ (List.mem_append_right _ (List.mem_append_right _ (List.mem_append_left _ (List.mem_of_getElem? (i := 88) rfl))))) rfl
theorem k4c_3 : (Cond.code xy_Mo_nameOf xb_Mo_nameOf 4 (some .int)) ∈ wT := wT_t (List.mem_append_right _ (List.mem_append_right _ (List.mem_append_right _ (List.mem_append_left _ (List.mem_of_getElem? (i := 212) rfl))))) rfl
theorem k4c_4 : (Cond.methodLink "LayerDeskModel" 133 xy_Mo_nameOf) ∈ wT := wT_t (List.mem_append_right _ (List.mem_append_right _ (List.mem_append_right _ (List.mem_append_left _ (List.mem_of_getElem? (i := 209) rfl))))) rfl
theorem k4c_5 : (Cond.instanceMethod xy_Mo_nameOf) ∈ wT := wT_t (List.mem_append_right _ (List.mem_append_right _ (List.mem_append_right _ (List.mem_append_left _ (List.mem_of_getElem? (i := 211) rfl))))) rfl
theorem k4c_6 : (Cond.selects "LayerDeskModel" xy_Mo_nameOf xy_Mo_nameOf) ∈ wT := wT_s (q := (xy_Mo_nameOf, 31)) (by decide +kernel) rfl
theorem k4c_7 : (Cond.initialized "LayerDeskModel") ∈ wT := wT_t (List.mem_append_left _ (List.mem_of_getElem? (i := 5) rfl)) rfl
theorem k4c_8 : (Cond.fieldLink "LayerDeskModel" 140 "LayerDeskModel" "descriptors" "I") ∈ wT := wT_t (List.mem_append_right _ (List.mem_append_right _ (List.mem_append_right _ (List.mem_append_left _ (List.mem_of_getElem? (i := 91) rfl))))) rfl
theorem k4c_9 : (Cond.code xy_Mo_isShut xb_Mo_isShut 1 (some .boolean)) ∈ wT := wT_t (List.mem_append_right _ (List.mem_append_right _ (List.mem_append_right _ (List.mem_append_left _ (List.mem_of_getElem? (i := 228) rfl))))) rfl
theorem k4c_10 : (Cond.methodLink "LayerDeskModel" 146 xy_Mo_isShut) ∈ wT := wT_t (List.mem_append_right _ (List.mem_append_right _ (List.mem_append_right _ (List.mem_append_left _ (List.mem_of_getElem? (i := 225) rfl))))) rfl
theorem k4c_11 : (Cond.instanceMethod xy_Mo_isShut) ∈ wT := wT_t (List.mem_append_right _ (List.mem_append_right _ (List.mem_append_right _ (List.mem_append_left _ (List.mem_of_getElem? (i := 227) rfl))))) rfl
theorem k4c_12 : (Cond.selects "LayerDeskModel" xy_Mo_isShut xy_Mo_isShut) ∈ wT := wT_s (q := (xy_Mo_isShut, 31)) (by decide +kernel) rfl
theorem k4c_13 : (Cond.code xy_Mo_packageOf xb_Mo_packageOf 4 (some .int)) ∈ wT := wT_t (List.mem_append_right _ (List.mem_append_right _ (List.mem_append_right _ (List.mem_append_left _ (List.mem_of_getElem? (i := 224) rfl))))) rfl
theorem k4c_14 : (Cond.methodLink "LayerDeskModel" 143 xy_Mo_packageOf) ∈ wT := wT_t (List.mem_append_right _ (List.mem_append_right _ (List.mem_append_right _ (List.mem_append_left _ (List.mem_of_getElem? (i := 221) rfl))))) rfl
theorem k4c_15 : (Cond.instanceMethod xy_Mo_packageOf) ∈ wT := wT_t (List.mem_append_right _ (List.mem_append_right _ (List.mem_append_right _ (List.mem_append_left _ (List.mem_of_getElem? (i := 223) rfl))))) rfl
theorem k4c_16 : (Cond.selects "LayerDeskModel" xy_Mo_packageOf xy_Mo_packageOf) ∈ wT := wT_s (q := (xy_Mo_packageOf, 31)) (by decide +kernel) rfl
theorem k4c_17 : (Cond.fieldLink "LayerDeskModel" 38 "LayerDeskModel" "exportAll" "[Z") ∈ wT := wT_t (List.mem_append_right _ (List.mem_append_right _ (List.mem_append_right _ (List.mem_append_left _ (List.mem_of_getElem? (i := 98) rfl))))) rfl
theorem k4c_18 : (Cond.code xy_Mo_code xb_Mo_code 6 (some .int)) ∈ wT := wT_t (List.mem_append_right _ (List.mem_append_right _ (List.mem_append_right _ (List.mem_append_left _ (List.mem_of_getElem? (i := 196) rfl))))) rfl
theorem k4c_19 : (Cond.methodLink "LayerDeskModel" 104 xy_Mo_code) ∈ wT := wT_t (List.mem_append_right _ (List.mem_append_right _ (List.mem_append_right _ (List.mem_append_left _ (List.mem_of_getElem? (i := 194) rfl))))) rfl
theorem k4c_20 : (Cond.static xy_Mo_code) ∈ wT := wT_t (List.mem_append_right _ (List.mem_append_right _ (List.mem_append_right _ (List.mem_append_left _ (List.mem_of_getElem? (i := 195) rfl))))) rfl
theorem k4c_21 : (Cond.code xy_Mo_says xb_Mo_says 8 (some .boolean)) ∈ wT := wT_t (List.mem_append_right _ (List.mem_append_right _ (List.mem_append_right _ (List.mem_append_left _ (List.mem_of_getElem? (i := 200) rfl))))) rfl
theorem k4c_22 : (Cond.methodLink "LayerDeskModel" 108 xy_Mo_says) ∈ wT := wT_t (List.mem_append_right _ (List.mem_append_right _ (List.mem_append_right _ (List.mem_append_left _ (List.mem_of_getElem? (i := 197) rfl))))) rfl
theorem k4c_23 : (Cond.instanceMethod xy_Mo_says) ∈ wT := wT_t (List.mem_append_right _ (List.mem_append_right _ (List.mem_append_right _ (List.mem_append_left _ (List.mem_of_getElem? (i := 199) rfl))))) rfl
theorem k4c_24 : (Cond.selects "LayerDeskModel" xy_Mo_says xy_Mo_says) ∈ wT := wT_s (q := (xy_Mo_says, 31)) (by decide +kernel) rfl
theorem k4c_25 : (Cond.fieldLink "LayerDeskModel" 32 "LayerDeskModel" "exportTo" "[I") ∈ wT := wT_t (List.mem_append_right _ (List.mem_append_right _ (List.mem_append_right _ (List.mem_append_left _ (List.mem_of_getElem? (i := 96) rfl))))) rfl
theorem k4c_26 : (Cond.fieldLink "LayerDeskModel" 42 "LayerDeskModel" "openAll" "[Z") ∈ wT := wT_t (List.mem_append_right _ (List.mem_append_right _ (List.mem_append_right _ (List.mem_append_left _ (List.mem_of_getElem? (i := 99) rfl))))) rfl
theorem k4c_27 : (Cond.fieldLink "LayerDeskModel" 35 "LayerDeskModel" "openTo" "[I") ∈ wT := wT_t (List.mem_append_right _ (List.mem_append_right _ (List.mem_append_right _ (List.mem_append_left _ (List.mem_of_getElem? (i := 97) rfl))))) rfl
set_option maxHeartbeats 4000000 in
set_option maxRecDepth 100000 in
theorem xc_Mo_packageOfX (l : Launch) (D : va_G) (kA : Nat → ClassId) (sz h : Nat) (mm : Nat → Nat) (v : Nat → Int32) (g : Nat → Nat → Int32) (d : Nat) (nm : Int32) (pk : Nat) (hd : d < 12) (hpk : g 5 d = nI pk) (hpk6 : pk ≤ 6) : Met l xy_Mo_packageOf (.code xy_Mo_packageOf xb_Mo_packageOf 4 (some .int) :: wT) { frames := 0, cells := 0, slots := 0, locals := 0 } (va_Pc [.ref h, .int (nI d), .int nm] (xPre D kA sz (moW h mm kA v g))) (va_Qi (fun (r : Int32) (u : Unit) => (∃ k, 6 * d ≤ k ∧ k < 6 * d + pk ∧ r = nI k ∧ g 6 k = nm ∧ ∀ j, 6 * d ≤ j → j < k → ¬ g 6 j = nm) ∨ (r = -1 ∧ ∀ j, 6 * d ≤ j → j < 6 * d + pk → ¬ g 6 j = nm)) (fun (u : Unit) t => va_P D xcl (moW h mm kA v g) t.heap ∧ va_D (va_A (moW h mm kA v g) sz) (moW h mm kA v g)) (va_A (moW h mm kA v g) sz)) 0 0 (va_A (moW h mm kA v g) sz) := by
  refine Met.ofW (cc := xb_Mo_packageOf) (maxL := 4) (ret := (some .int)) (by decide) rfl ?_
  intro p e s m args below meth c s₁ B hml hv
  obtain ⟨rfl, hsz, hP, hK, hD0⟩ := hv
  have hx := B.exec
  have hb := B.bytes
  have hr := B.returns
  have hT := x_hT B.pre
  have hown : s.vm.findClass xR_Mo = some m.cls := findClass_of_methodNamed B.named
  have hlocks := B.notSynchronized
  subst hsz
  have hD := hD0.self (sz := s.heap.size)
  generalize hAe : va_A (moW h mm kA v g) s.heap.size = A at hD ⊢
  have hA : ∀ q : Nat, s.heap.size ≤ q → A q := fun q h => by rw [← hAe]; exact Or.inr h
  have hS : va_S A s.heap s.heap [] := va_S.rf
  have hl := lv_entry ([.ref h, .int (nI d), .int nm]) (n := 4) (Nat.le_of_ble_eq_true rfl)
  rw [lg_entry_eq]
  generalize (lg_sl ([.ref h, .int (nI d), .int nm]) ++ List.replicate (4 - (lg_sl ([.ref h, .int (nI d), .int nm])).length) Slot.unset).toArray = ls at hl ⊢
  have hl : lv_has ls 4 [(0, .ref h), (1, .int (nI d)), (2, .int nm)] := hl
  have hP : va_P D xcl (moW h mm kA v g) s.heap := hP
  refine lv_bipush (v := 6) hx hb xd_Mo_packageOf_0 (by decide) ?_
  refine lv_iload_n hx hb xd_Mo_packageOf_2 rfl (lv_at hl 1 rfl) ?_
  refine lv_imul hx hb xd_Mo_packageOf_3 ?_
  refine xn_top (y := nI (6 * d)) (pk_mul 6 d) ?_
  refine lv_istore_n hx hb xd_Mo_packageOf_4 rfl hl (Nat.le_of_ble_eq_true rfl) rfl (fun ls hl => ?_)
  have hl : lv_has ls 4 [(3, .int (nI (6 * d))), (0, .ref h), (1, .int (nI d)), (2, .int nm)] := hl
  refine xlab (σ := Nat) (ml := 4) 5 (fun (i : Nat) => [(3, .int (nI i)), (0, .ref h), (1, .int (nI d)), (2, .int nm)]) (fun (i : Nat) => []) (fun (i : Nat) => moW h mm kA v g) (fun (i : Nat) => (6 * d ≤ i) ∧ (i ≤ 6 * d + pk) ∧ (∀ j, 6 * d ≤ j → j < i → ¬ g 6 j = nm)) (fun (i : Nat) => 6 * d + pk - i) ?_ (6 * d) _ _ _ (lv_sub hl [0, 1, 2, 3] rfl) hP hD hS ⟨(show 6 * d ≤ (6 * d) from by first | assumption | omega), (show (6 * d) ≤ 6 * d + pk from by first | assumption | omega), (show ∀ j, 6 * d ≤ j → j < (6 * d) → ¬ g 6 j = nm from fun j h1 h2 => absurd h2 (by omega))⟩
  intro n9 ih1 a9 ls H locs hμ hl hP hD hS hI
  subst hμ
  obtain ⟨i, rfl⟩ : ∃ z, z = a9 := ⟨_, rfl⟩
  obtain ⟨hi1, hi2, hno⟩ := hI
  have hi1 : 6 * d ≤ i := hi1
  have hi2 : i ≤ 6 * d + pk := hi2
  have hno : ∀ j, 6 * d ≤ j → j < i → ¬ g 6 j = nm := hno
  have hl : lv_has ls 4 [(3, .int (nI i)), (0, .ref h), (1, .int (nI d)), (2, .int nm)] := hl
  have hP : va_P D xcl (moW h mm kA v g) H := hP
  have hD : va_D A (moW h mm kA v g) := hD
  refine lv_iload_n hx hb xd_Mo_packageOf_5 rfl (lv_at hl 0 rfl) ?_
  refine lv_bipush (v := 6) hx hb xd_Mo_packageOf_6 (by decide) ?_
  refine lv_iload_n hx hb xd_Mo_packageOf_8 rfl (lv_at hl 2 rfl) ?_
  refine lv_imul hx hb xd_Mo_packageOf_9 ?_
  refine xn_top (y := nI (6 * d)) (pk_mul 6 d) ?_
  refine lv_aload_n hx hb xd_Mo_packageOf_10 rfl (lv_at hl 1 rfl) ?_
  refine va_get (D := D) (ci := 4) (v := .ref (mm 5)) (C := xR_Mo) (T := xT_Mo) (N := 31) hx hb hT xi_Mo hown hK.1 hP 0 rfl rfl 10 (by decide) (hT _ k4c_0) (fun _ h9 => h9) rfl xd_Mo_packageOf_11 ?_
  refine lv_iload_n hx hb xd_Mo_packageOf_14 rfl (lv_at hl 2 rfl) ?_
  refine xn_iald (i := d) hx hb hK.1 hP 6 0 rfl rfl (by omega) (by decide) xd_Mo_packageOf_15 ?_
  refine xn_top (x := (g 5 d)) (y := nI pk) hpk ?_
  refine lv_iadd hx hb xd_Mo_packageOf_16 ?_
  refine xn_top (y := nI ((6 * d) + pk)) (nI_add (6 * d) pk) ?_
  refine xn_ge (a := i) (b := (6 * d) + pk) (tgt := 38) hx hb xd_Mo_packageOf_17 (by decide) (by omega) (by omega) (fun hc2 => ?_) (fun hc2 => ?_)
  · refine lv_iconst (v := (-1)) hx hb xd_Mo_packageOf_38 (by decide) ?_
    exact W.iret (v := (-1)) hx hb hr (fun t ht hW => ⟨⟨(-1), (), rfl, Or.inr ⟨rfl, fun j h1 h2 => hno j h1 (by omega)⟩, by rw [ht]; exact hP, hD⟩, hS.F ht⟩) hS.2.2 xd_Mo_packageOf_39
  · refine lv_aload_n hx hb xd_Mo_packageOf_20 rfl (lv_at hl 1 rfl) ?_
    refine va_get (D := D) (ci := 4) (v := .ref (mm 6)) (C := xR_Mo) (T := xT_Mo) (N := 31) hx hb hT xi_Mo hown hK.1 hP 0 rfl rfl 11 (by decide) (hT _ k4c_1) (fun _ h9 => h9) rfl xd_Mo_packageOf_21 ?_
    refine lv_iload_n hx hb xd_Mo_packageOf_24 rfl (lv_at hl 0 rfl) ?_
    refine xn_iald (i := i) hx hb hK.1 hP 7 0 rfl rfl (by omega) (by decide) xd_Mo_packageOf_25 ?_
    refine lv_iload_n hx hb xd_Mo_packageOf_26 rfl (lv_at hl 3 rfl) ?_
    refine lv_icmp_ne (tgt := 32) hx hb xd_Mo_packageOf_27 (by decide) (fun hc3 => ?_) (fun hc3 => ?_)
    · refine lv_iinc (k := 0) (x := (nI i)) (v := (nI (i + 1))) hx hb xd_Mo_packageOf_32 hl rfl (xb_inc i 1) (Nat.le_of_ble_eq_true rfl) rfl (fun ls hl => ?_)
      have hl : lv_has ls 4 [(3, .int (nI (i + 1))), (0, .ref h), (1, .int (nI d)), (2, .int nm)] := hl
      refine lv_goto (tgt := 5) hx hb xd_Mo_packageOf_35 (by decide) ?_
      exact ih1 (i + 1) _ _ _ (show 6 * d + pk - (i + 1) < 6 * d + pk - i by omega) (lv_sub hl [0, 1, 2, 3] rfl) hP hD hS ⟨(show 6 * d ≤ (i + 1) from by first | assumption | omega), (show (i + 1) ≤ 6 * d + pk from by first | assumption | omega), (show ∀ j, 6 * d ≤ j → j < (i + 1) → ¬ g 6 j = nm from fun j h1 h2 => by
      rcases Nat.lt_or_ge j i with h3 | h3
      · exact hno j h1 h3
      · have h4 : j = i := by omega
        rw [h4]; exact hc3)⟩
    · refine lv_iload_n hx hb xd_Mo_packageOf_30 rfl (lv_at hl 0 rfl) ?_
      exact W.iret (v := (nI i)) hx hb hr (fun t ht hW => ⟨⟨(nI i), (), rfl, Or.inl ⟨i, by omega, by omega, rfl, hc3, hno⟩, by rw [ht]; exact hP, hD⟩, hS.F ht⟩) hS.2.2 xd_Mo_packageOf_31
set_option maxHeartbeats 4000000 in
set_option maxRecDepth 100000 in
theorem xc_Mo_newPackageX (l : Launch) (D : va_G) (kA : Nat → ClassId) (sz h : Nat) (mm : Nat → Nat) (v : Nat → Int32) (g : Nat → Nat → Int32) (wl : List (Nat × Nat)) (nd : Nat) (hMI : MI v g) (hWX : WX v g wl) (hnd : v 4 = nI nd) (hnd12 : nd ≤ 12) : Met l xy_Mo_newPackage (.code xy_Mo_newPackage xb_Mo_newPackage 3 (some .int) :: wT) { frames := 1, cells := 0, slots := 0, locals := 23 } (va_Pc [.ref h] (xPre D kA sz (moW h mm kA v g))) (va_Qi (fun (r : Int32) (u : (Nat → Int32) × (Nat → Nat → Int32)) => MI u.1 u.2 ∧ u.1 2 = v 2 ∧ (r = -1 ∨ r = -2 ∨ r = 1 ∨ r = 2) ∧ u = (v, lP (g 0) wl nd g)) (fun (u : (Nat → Int32) × (Nat → Nat → Int32)) t => va_P D xcl (moW h mm kA u.1 u.2) t.heap ∧ va_D (va_A (moW h mm kA v g) sz) (moW h mm kA u.1 u.2)) (va_A (moW h mm kA v g) sz)) 0 0 (va_A (moW h mm kA v g) sz) := by
  refine Met.ofW (cc := xb_Mo_newPackage) (maxL := 3) (ret := (some .int)) (by decide) rfl ?_
  intro p e s m args below meth c s₁ B hml hv
  obtain ⟨rfl, hsz, hP, hK, hD0⟩ := hv
  have hx := B.exec
  have hb := B.bytes
  have hr := B.returns
  have hT := x_hT B.pre
  have hown : s.vm.findClass xR_Mo = some m.cls := findClass_of_methodNamed B.named
  have hlocks := B.notSynchronized
  subst hsz
  have hD := hD0.self (sz := s.heap.size)
  generalize hAe : va_A (moW h mm kA v g) s.heap.size = A at hD ⊢
  have hA : ∀ q : Nat, s.heap.size ≤ q → A q := fun q h => by rw [← hAe]; exact Or.inr h
  have hS : va_S A s.heap s.heap [] := va_S.rf
  have hl := lv_entry ([.ref h]) (n := 3) (Nat.le_of_ble_eq_true rfl)
  rw [lg_entry_eq]
  generalize (lg_sl ([.ref h]) ++ List.replicate (3 - (lg_sl ([.ref h])).length) Slot.unset).toArray = ls at hl ⊢
  have hl : lv_has ls 3 [(0, .ref h)] := hl
  have hP : va_P D xcl (moW h mm kA v g) s.heap := hP
  obtain ⟨-, ⟨nl, hnl5, hnl, hpar⟩, hch, hpk, hrq, hmd, huq⟩ := id hMI
  obtain ⟨hwn, ⟨hwn20, hwlr⟩, hws⟩ := id hWX
  refine lv_aload_n hx hb xd_Mo_newPackage_0 rfl (lv_at hl 0 rfl) ?_
  refine va_get (D := D) (ci := 4) (v := .int (v 3)) (C := xR_Mo) (T := xT_Mo) (N := 31) hx hb hT xi_Mo hown hK.1 hP 0 rfl rfl 4 (by decide) (hT _ k4c_2) (fun _ h9 => h9) rfl xd_Mo_newPackage_1 ?_
  refine xn_top (x := (v 3)) (y := nI wl.length) hwn ?_
  refine lv_iconst (v := 2) hx hb xd_Mo_newPackage_4 (by decide) ?_
  refine xn_ne (a := wl.length) (b := 2) (tgt := 16) hx hb xd_Mo_newPackage_5 (by decide) (by omega) (by omega) (fun hc1 => ?_) (fun hc1 => ?_)
  · refine lv_iconst (v := 0) hx hb xd_Mo_newPackage_16 (by decide) ?_
    refine lv_istore_n hx hb xd_Mo_newPackage_17 rfl hl (Nat.le_of_ble_eq_true rfl) rfl (fun ls hl => ?_)
    have hl : lv_has ls 3 [(1, .int 0), (0, .ref h)] := hl
    refine lv_iload_n hx hb xd_Mo_newPackage_18 rfl (lv_at hl 0 rfl) ?_
    refine xz_ne (a := 0) (tgt := 24) hx hb xd_Mo_newPackage_19 (by decide) (by omega) (fun hc2 => absurd hc2 (by omega)) (fun _ => ?_)
    refine lv_iconst (v := (-1)) hx hb xd_Mo_newPackage_22 (by decide) ?_
    exact W.iret (v := (-1)) hx hb hr (fun t ht hW => ⟨⟨(-1), (v, g), rfl, ⟨hMI, rfl, Or.inl rfl, congrArg (Prod.mk v) (lP_no (fun q => absurd q.1 (by omega)))⟩, by rw [ht]; exact hP, hD⟩, hS.F ht⟩) hS.2.2 xd_Mo_newPackage_23
  · have hbe1 := (hwlr 1 (by omega)).1
    have he1 := (hwlr 1 (by omega)).2
    have eb1 := (hws 1 (by omega)).1
    have ee1 := (hws 1 (by omega)).2
    refine lv_aload_n hx hb xd_Mo_newPackage_8 rfl (lv_at hl 0 rfl) ?_
    refine lv_iconst (v := 1) hx hb xd_Mo_newPackage_9 (by decide) ?_
    have hFc := va_free (wc := (moW h mm kA v g)) hD hS hA [0, 1, 2, 3, 4, 5, 6, 7, 8, 9, 10, 11, 12, 13, 14, 15, 16, 17, 18, 19, 20, 21, 22, 23, 24, 25] rfl
    refine va_calli (va_runV (As := [.int 1]) (rest := []) ⟨hx, hb, hml, hown, hT⟩ (xc_Mo_nameOfX l D kA s.heap.size h mm v g 1 (wb wl 1) (we wl 1) (by first | assumption | omega) (by first | assumption | omega) (by first | assumption | omega) (by first | assumption | omega) (by first | assumption | omega)) (cwV 1 hT (wT_V k4c_4 k4c_5 k4c_6 k4c_7 k4c_3) rfl rfl rfl (by decide +kernel) ⟨Nat.le_of_ble_eq_true rfl, Nat.le_of_ble_eq_true rfl⟩) (x_preV hK hP hD 0 rfl rfl) rfl rfl hl.1 rfl (lv_room (Nat.le_of_ble_eq_true rfl)) xd_Mo_newPackage_10 ⟨Nat.le_of_ble_eq_true rfl, Nat.le_of_ble_eq_true rfl⟩) hS (fun q _ h => hFc q h) hFc (fun r3 u4 t H1 locs ht hvm hp5 hB hz1 hk1 hS => ?_)
    obtain ⟨hP1, hD1⟩ := hB
    rw [ht] at hP1
    have hD1 := hD1.weaken (fun _ _ _ h => hFc _ h)
    generalize H1 = H at hP1 hS ⊢
    have hP := hP1
    have hD := hD1
    have hP : va_P D xcl (moW h mm kA v g) H := hP
    have hD : va_D A (moW h mm kA v g) := hD
    have hp5 : r3 = nV (g 0) (wb wl 1) (we wl 1) := hp5
    subst hp5
    have hP : va_P D xcl (moW h mm kA v g) H := hP
    have hD : va_D A (moW h mm kA v g) := hD
    refine lv_goto (tgt := 17) hx hb xd_Mo_newPackage_13 (by decide) ?_
    refine lv_istore_n hx hb xd_Mo_newPackage_17 rfl hl (Nat.le_of_ble_eq_true rfl) rfl (fun ls hl => ?_)
    have hl : lv_has ls 3 [(1, .int (nV (g 0) (wb wl 1) (we wl 1))), (0, .ref h)] := hl
    refine lv_iload_n hx hb xd_Mo_newPackage_18 rfl (lv_at hl 0 rfl) ?_
    refine lv_if_ne (tgt := 24) hx hb xd_Mo_newPackage_19 (by decide) (fun hc6 => ?_) (fun hc6 => ?_)
    · rcases Nat.eq_zero_or_pos nd with hz | hz
      · have hnd0 : v 4 = nI 0 := by rw [hnd, hz]
        have hn1 : wN (g 0) wl 1 = nV (g 0) (wb wl 1) (we wl 1) := wN_in (by omega)
        refine lv_aload_n hx hb xd_Mo_newPackage_24 rfl (lv_at hl 1 rfl) ?_
        refine va_get (D := D) (ci := 4) (v := .int (v 4)) (C := xR_Mo) (T := xT_Mo) (N := 31) hx hb hT xi_Mo hown hK.1 hP 0 rfl rfl 7 (by decide) (hT _ k4c_8) (fun _ h9 => h9) rfl xd_Mo_newPackage_25 ?_
        refine xn_top (x := (v 4)) (y := nI 0) hnd0 ?_
        refine lv_iconst (v := 1) hx hb xd_Mo_newPackage_28 (by decide) ?_
        refine lv_isub hx hb xd_Mo_newPackage_29 ?_
        refine lv_istore_n hx hb xd_Mo_newPackage_30 rfl hl (Nat.le_of_ble_eq_true rfl) rfl (fun ls hl => ?_)
        have hl : lv_has ls 3 [(2, .int ((nI 0) - 1)), (1, .int (nV (g 0) (wb wl 1) (we wl 1))), (0, .ref h)] := hl
        refine lv_iload_n hx hb xd_Mo_newPackage_31 rfl (lv_at hl 0 rfl) ?_
        refine lv_if_lt (tgt := 46) hx hb xd_Mo_newPackage_32 (by decide) (fun _ => ?_) (fun hc7 => absurd hc7 (by decide))
        refine lv_aload_n hx hb xd_Mo_newPackage_46 rfl (lv_at hl 2 rfl) ?_
        have hFc := va_free (wc := (moW h mm kA v g)) hD hS hA [0, 1, 2, 3, 4, 5, 6, 7, 8, 9, 10, 11, 12, 13, 14, 15, 16, 17, 18, 19, 20, 21, 22, 23, 24, 25] rfl
        refine va_calli (va_runV (As := []) (rest := []) ⟨hx, hb, hml, hown, hT⟩ (xc_Mo_isShut l D kA H.size h mm v g nd (by first | assumption | omega) (by first | assumption | omega)) (cwV 0 hT (wT_V k4c_10 k4c_11 k4c_12 k4c_7 k4c_9) rfl rfl rfl (by decide +kernel) ⟨Nat.le_of_ble_eq_true rfl, Nat.le_of_ble_eq_true rfl⟩) (x_preV hK hP hD 0 rfl rfl) rfl rfl hl.1 rfl (lv_room (Nat.le_of_ble_eq_true rfl)) xd_Mo_newPackage_47 ⟨Nat.le_of_ble_eq_true rfl, Nat.le_of_ble_eq_true rfl⟩) hS (fun q _ h => hFc q h) hFc (fun r8 u9 t H1 locs ht hvm hp10 hB hz1 hk1 hS => ?_)
        obtain ⟨hP1, hD1⟩ := hB
        rw [ht] at hP1
        have hD1 := hD1.weaken (fun _ _ _ h => hFc _ h)
        generalize H1 = H at hP1 hS ⊢
        have hP := hP1
        have hD := hD1
        have hP : va_P D xcl (moW h mm kA v g) H := hP
        have hD : va_D A (moW h mm kA v g) := hD
        rcases hp10 with ⟨rfl, z11⟩ | ⟨rfl, z12, z13⟩
        · refine xz_ne (a := 1) (tgt := 64) hx hb xd_Mo_newPackage_50 (by decide) (by omega) (fun _ => ?_) (fun hc14 => absurd hc14 (by omega))
          refine lv_bipush (v := (-2)) hx hb xd_Mo_newPackage_64 (by decide) ?_
          exact W.iret (v := (-2)) hx hb hr (fun t ht hW => ⟨⟨(-2), (v, g), rfl, ⟨hMI, rfl, Or.inr (Or.inl rfl), congrArg (Prod.mk v) (lP_no (fun q => absurd q.2.2.1 (by omega)))⟩, by rw [ht]; exact hP, hD⟩, hS.F ht⟩) hS.2.2 xd_Mo_newPackage_66
        · exact absurd hz z12
      · have hn1 : wN (g 0) wl 1 = nV (g 0) (wb wl 1) (we wl 1) := wN_in (by omega)
        refine lv_aload_n hx hb xd_Mo_newPackage_24 rfl (lv_at hl 1 rfl) ?_
        refine va_get (D := D) (ci := 4) (v := .int (v 4)) (C := xR_Mo) (T := xT_Mo) (N := 31) hx hb hT xi_Mo hown hK.1 hP 0 rfl rfl 7 (by decide) (hT _ k4c_8) (fun _ h9 => h9) rfl xd_Mo_newPackage_25 ?_
        refine xn_top (x := (v 4)) (y := nI nd) hnd ?_
        refine lv_iconst (v := 1) hx hb xd_Mo_newPackage_28 (by decide) ?_
        refine lv_isub hx hb xd_Mo_newPackage_29 ?_
        refine xn_top (y := nI (nd - 1)) (pk_sub (a := nd) (b := 1) (by omega)) ?_
        refine lv_istore_n hx hb xd_Mo_newPackage_30 rfl hl (Nat.le_of_ble_eq_true rfl) rfl (fun ls hl => ?_)
        have hl : lv_has ls 3 [(2, .int (nI (nd - 1))), (1, .int (nV (g 0) (wb wl 1) (we wl 1))), (0, .ref h)] := hl
        refine lv_iload_n hx hb xd_Mo_newPackage_31 rfl (lv_at hl 0 rfl) ?_
        refine xz_lt (a := nd - 1) (tgt := 46) hx hb xd_Mo_newPackage_32 (by decide) (by omega) ?_
        obtain ⟨pk1, hpk1, epk1⟩ := hpk (nd - 1) (by omega)
        have hik : iN (g 5 (nd - 1)) = pk1 := by rw [epk1, iN_nI (by omega)]
        refine lv_aload_n hx hb xd_Mo_newPackage_35 rfl (lv_at hl 2 rfl) ?_
        refine lv_iload_n hx hb xd_Mo_newPackage_36 rfl (lv_at hl 0 rfl) ?_
        refine lv_iload_n hx hb xd_Mo_newPackage_37 rfl (lv_at hl 1 rfl) ?_
        have hFc := va_free (wc := (moW h mm kA v g)) hD hS hA [0, 1, 2, 3, 4, 5, 6, 7, 8, 9, 10, 11, 12, 13, 14, 15, 16, 17, 18, 19, 20, 21, 22, 23, 24, 25] rfl
        refine va_calli (va_runV (As := [.int (nI (nd - 1)), .int (nV (g 0) (wb wl 1) (we wl 1))]) (rest := []) ⟨hx, hb, hml, hown, hT⟩ (xc_Mo_packageOfX l D kA H.size h mm v g (nd - 1) (nV (g 0) (wb wl 1) (we wl 1)) pk1 (by first | assumption | omega) (by first | assumption | omega) (by first | assumption | omega)) (cwV 2 hT (wT_V k4c_14 k4c_15 k4c_16 k4c_7 k4c_13) rfl rfl rfl (by decide +kernel) ⟨Nat.le_of_ble_eq_true rfl, Nat.le_of_ble_eq_true rfl⟩) (x_preV hK hP hD 0 rfl rfl) rfl rfl hl.1 rfl (lv_room (Nat.le_of_ble_eq_true rfl)) xd_Mo_newPackage_38 ⟨Nat.le_of_ble_eq_true rfl, Nat.le_of_ble_eq_true rfl⟩) hS (fun q _ h => hFc q h) hFc (fun r16 u17 t H1 locs ht hvm hp18 hB hz1 hk1 hS => ?_)
        obtain ⟨hP1, hD1⟩ := hB
        rw [ht] at hP1
        have hD1 := hD1.weaken (fun _ _ _ h => hFc _ h)
        generalize H1 = H at hP1 hS ⊢
        have hP := hP1
        have hD := hD1
        have hP : va_P D xcl (moW h mm kA v g) H := hP
        have hD : va_D A (moW h mm kA v g) := hD
        rcases hp18 with ⟨z19, z20, z21, rfl, z22, z23⟩ | ⟨rfl, z24⟩
        · refine xz_lt (a := z19) (tgt := 46) hx hb xd_Mo_newPackage_41 (by decide) (by omega) ?_
          refine lv_iconst (v := (-1)) hx hb xd_Mo_newPackage_44 (by decide) ?_
          exact W.iret (v := (-1)) hx hb hr (fun t ht hW => ⟨⟨(-1), (v, g), rfl, ⟨hMI, rfl, Or.inl rfl, congrArg (Prod.mk v) (lP_no (fun q => q.2.2.2.1 z19 z20 (by rw [hik]; exact z21) (z22.trans hn1.symm)))⟩, by rw [ht]; exact hP, hD⟩, hS.F ht⟩) hS.2.2 xd_Mo_newPackage_45
        · refine lv_if_lt (tgt := 46) hx hb xd_Mo_newPackage_41 (by decide) (fun _ => ?_) (fun hc26 => absurd hc26 (by decide))
          refine lv_aload_n hx hb xd_Mo_newPackage_46 rfl (lv_at hl 2 rfl) ?_
          have hFc := va_free (wc := (moW h mm kA v g)) hD hS hA [0, 1, 2, 3, 4, 5, 6, 7, 8, 9, 10, 11, 12, 13, 14, 15, 16, 17, 18, 19, 20, 21, 22, 23, 24, 25] rfl
          refine va_calli (va_runV (As := []) (rest := []) ⟨hx, hb, hml, hown, hT⟩ (xc_Mo_isShut l D kA H.size h mm v g nd (by first | assumption | omega) (by first | assumption | omega)) (cwV 0 hT (wT_V k4c_10 k4c_11 k4c_12 k4c_7 k4c_9) rfl rfl rfl (by decide +kernel) ⟨Nat.le_of_ble_eq_true rfl, Nat.le_of_ble_eq_true rfl⟩) (x_preV hK hP hD 0 rfl rfl) rfl rfl hl.1 rfl (lv_room (Nat.le_of_ble_eq_true rfl)) xd_Mo_newPackage_47 ⟨Nat.le_of_ble_eq_true rfl, Nat.le_of_ble_eq_true rfl⟩) hS (fun q _ h => hFc q h) hFc (fun r27 u28 t H1 locs ht hvm hp29 hB hz1 hk1 hS => ?_)
          obtain ⟨hP1, hD1⟩ := hB
          rw [ht] at hP1
          have hD1 := hD1.weaken (fun _ _ _ h => hFc _ h)
          generalize H1 = H at hP1 hS ⊢
          have hP := hP1
          have hD := hD1
          have hP : va_P D xcl (moW h mm kA v g) H := hP
          have hD : va_D A (moW h mm kA v g) := hD
          rcases hp29 with ⟨rfl, z30⟩ | ⟨rfl, z31, z32⟩
          · refine xz_ne (a := 1) (tgt := 64) hx hb xd_Mo_newPackage_50 (by decide) (by omega) (fun _ => ?_) (fun hc33 => absurd hc33 (by omega))
            refine lv_bipush (v := (-2)) hx hb xd_Mo_newPackage_64 (by decide) ?_
            exact W.iret (v := (-2)) hx hb hr (fun t ht hW => ⟨⟨(-2), (v, g), rfl, ⟨hMI, rfl, Or.inr (Or.inl rfl), congrArg (Prod.mk v) (lP_no (fun q => z30.elim (fun z => absurd q.2.2.1 (by omega)) (fun z => z q.2.2.2.2.1)))⟩, by rw [ht]; exact hP, hD⟩, hS.F ht⟩) hS.2.2 xd_Mo_newPackage_66
          · refine xz_ne (a := 0) (tgt := 64) hx hb xd_Mo_newPackage_50 (by decide) (by omega) (fun hc34 => absurd hc34 (by omega)) (fun _ => ?_)
            refine lv_aload_n hx hb xd_Mo_newPackage_53 rfl (lv_at hl 2 rfl) ?_
            refine va_get (D := D) (ci := 4) (v := .ref (mm 5)) (C := xR_Mo) (T := xT_Mo) (N := 31) hx hb hT xi_Mo hown hK.1 hP 0 rfl rfl 10 (by decide) (hT _ k4c_0) (fun _ h9 => h9) rfl xd_Mo_newPackage_54 ?_
            refine lv_iload_n hx hb xd_Mo_newPackage_57 rfl (lv_at hl 0 rfl) ?_
            refine xn_iald (i := nd - 1) hx hb hK.1 hP 6 0 rfl rfl (by omega) (by decide) xd_Mo_newPackage_58 ?_
            refine xn_top (x := (g 5 (nd - 1))) (y := nI pk1) epk1 ?_
            refine lv_bipush (v := 6) hx hb xd_Mo_newPackage_59 (by decide) ?_
            refine xn_ne (a := pk1) (b := 6) (tgt := 67) hx hb xd_Mo_newPackage_61 (by decide) (by omega) (by omega) (fun hc35 => ?_) (fun hc35 => ?_)
            · refine lv_aload_n hx hb xd_Mo_newPackage_67 rfl (lv_at hl 2 rfl) ?_
              refine va_get (D := D) (ci := 4) (v := .ref (mm 6)) (C := xR_Mo) (T := xT_Mo) (N := 31) hx hb hT xi_Mo hown hK.1 hP 0 rfl rfl 11 (by decide) (hT _ k4c_1) (fun _ h9 => h9) rfl xd_Mo_newPackage_68 ?_
              refine lv_bipush (v := 6) hx hb xd_Mo_newPackage_71 (by decide) ?_
              refine lv_iload_n hx hb xd_Mo_newPackage_73 rfl (lv_at hl 0 rfl) ?_
              refine lv_imul hx hb xd_Mo_newPackage_74 ?_
              refine xn_top (y := nI (6 * (nd - 1))) (pk_mul 6 (nd - 1)) ?_
              refine lv_aload_n hx hb xd_Mo_newPackage_75 rfl (lv_at hl 2 rfl) ?_
              refine va_get (D := D) (ci := 4) (v := .ref (mm 5)) (C := xR_Mo) (T := xT_Mo) (N := 31) hx hb hT xi_Mo hown hK.1 hP 0 rfl rfl 10 (by decide) (hT _ k4c_0) (fun _ h9 => h9) rfl xd_Mo_newPackage_76 ?_
              refine lv_iload_n hx hb xd_Mo_newPackage_79 rfl (lv_at hl 0 rfl) ?_
              refine xn_iald (i := nd - 1) hx hb hK.1 hP 6 0 rfl rfl (by omega) (by decide) xd_Mo_newPackage_80 ?_
              refine xn_top (x := (g 5 (nd - 1))) (y := nI pk1) epk1 ?_
              refine lv_iadd hx hb xd_Mo_newPackage_81 ?_
              refine xn_top (y := nI ((6 * (nd - 1)) + pk1)) (nI_add (6 * (nd - 1)) pk1) ?_
              refine lv_iload_n hx hb xd_Mo_newPackage_82 rfl (lv_at hl 1 rfl) ?_
              refine xn_iast (i := (6 * (nd - 1)) + pk1) hx hb hK.1 hP hD hS 7 0 rfl rfl (by omega) (by decide) xd_Mo_newPackage_83 (fun H locs hP hD hS => ?_)
              have hP : va_P D xcl (moW h mm kA v (va_up g 6 (upd (g 6) ((6 * (nd - 1)) + pk1) (nV (g 0) (wb wl 1) (we wl 1))))) H := hP
              have hD : va_D A (moW h mm kA v (va_up g 6 (upd (g 6) ((6 * (nd - 1)) + pk1) (nV (g 0) (wb wl 1) (we wl 1))))) := hD
              refine lv_aload_n hx hb xd_Mo_newPackage_84 rfl (lv_at hl 2 rfl) ?_
              refine va_get (D := D) (ci := 4) (v := .ref (mm 5)) (C := xR_Mo) (T := xT_Mo) (N := 31) hx hb hT xi_Mo hown hK.1 hP 0 rfl rfl 10 (by decide) (hT _ k4c_0) (fun _ h9 => h9) rfl xd_Mo_newPackage_85 ?_
              refine lv_iload_n hx hb xd_Mo_newPackage_88 rfl (lv_at hl 0 rfl) ?_
              refine lv_dup2_11 hx hb xd_Mo_newPackage_89 rfl rfl ?_
              refine xn_iald (i := nd - 1) hx hb hK.1 hP 6 0 rfl rfl (by omega) (by decide) xd_Mo_newPackage_90 ?_
              refine xn_top (x := (g 5 (nd - 1))) (y := nI pk1) epk1 ?_
              refine lv_iconst (v := 1) hx hb xd_Mo_newPackage_91 (by decide) ?_
              refine lv_iadd hx hb xd_Mo_newPackage_92 ?_
              refine xn_top (y := nI (pk1 + 1)) (nI_add pk1 1) ?_
              refine xn_iast (i := nd - 1) hx hb hK.1 hP hD hS 6 0 rfl rfl (by omega) (by decide) xd_Mo_newPackage_93 (fun H locs hP hD hS => ?_)
              have hP : va_P D xcl (moW h mm kA v (va_up (va_up g 5 (upd (g 5) (nd - 1) (nI (pk1 + 1)))) 6 (upd (g 6) ((6 * (nd - 1)) + pk1) (nV (g 0) (wb wl 1) (we wl 1))))) H := hP
              have hD : va_D A (moW h mm kA v (va_up (va_up g 5 (upd (g 5) (nd - 1) (nI (pk1 + 1)))) 6 (upd (g 6) ((6 * (nd - 1)) + pk1) (nV (g 0) (wb wl 1) (we wl 1))))) := hD
              refine lv_iconst (v := 2) hx hb xd_Mo_newPackage_94 (by decide) ?_
              exact W.iret (v := 2) hx hb hr (fun t ht hW => ⟨⟨2, (v, (va_up (va_up g 5 (upd (g 5) (nd - 1) (nI (pk1 + 1)))) 6 (upd (g 6) ((6 * (nd - 1)) + pk1) (nV (g 0) (wb wl 1) (we wl 1))))), rfl, ⟨MI_g (g := va_up g 5 (upd (g 5) (nd - 1) (nI (pk1 + 1)))) rfl rfl rfl rfl rfl rfl rfl rfl (MI_pk (by omega) hMI), rfl, Or.inr (Or.inr (Or.inr rfl)), congrArg (Prod.mk v) (lP_ok epk1 (by omega) ⟨by omega, fun q => hc6 (hn1.symm.trans q), by omega, fun j a9 b9 q => z24 j a9 (by rw [hik] at b9; exact b9) (q.trans hn1), z32, by rw [hik]; omega⟩ hn1.symm)⟩, by rw [ht]; exact hP, hD⟩, hS.F ht⟩) hS.2.2 xd_Mo_newPackage_95
            · refine lv_bipush (v := (-2)) hx hb xd_Mo_newPackage_64 (by decide) ?_
              exact W.iret (v := (-2)) hx hb hr (fun t ht hW => ⟨⟨(-2), (v, g), rfl, ⟨hMI, rfl, Or.inr (Or.inl rfl), congrArg (Prod.mk v) (lP_no (fun q => absurd q.2.2.2.2.2 (by rw [hik]; omega)))⟩, by rw [ht]; exact hP, hD⟩, hS.F ht⟩) hS.2.2 xd_Mo_newPackage_66
    · refine lv_iconst (v := (-1)) hx hb xd_Mo_newPackage_22 (by decide) ?_
      exact W.iret (v := (-1)) hx hb hr (fun t ht hW => ⟨⟨(-1), (v, g), rfl, ⟨hMI, rfl, Or.inl rfl, congrArg (Prod.mk v) (lP_no (fun q => q.2.1 ((wN_in (by omega)).trans hc6)))⟩, by rw [ht]; exact hP, hD⟩, hS.F ht⟩) hS.2.2 xd_Mo_newPackage_23
set_option maxHeartbeats 4000000 in
set_option maxRecDepth 100000 in
theorem xc_Mo_shown0X (l : Launch) (D : va_G) (kA : Nat → ClassId) (sz h : Nat) (mm : Nat → Nat) (v : Nat → Int32) (g : Nat → Nat → Int32) (wl : List (Nat × Nat)) (nd : Nat) (hMI : MI v g) (hWX : WX v g wl) (hnd : v 4 = nI nd) (hnd12 : nd ≤ 12) : Met l xy_Mo_shown (.code xy_Mo_shown xb_Mo_shown 8 (some .int) :: wT) { frames := 2, cells := 0, slots := 0, locals := 49 } (va_Pc [.ref h, .int 0] (xPre D kA sz (moW h mm kA v g))) (va_Qi (fun (r : Int32) (u : (Nat → Int32) × (Nat → Nat → Int32)) => MI u.1 u.2 ∧ u.1 2 = v 2 ∧ (r = -1 ∨ r = -2 ∨ r = 1 ∨ r = 2) ∧ u = (v, lG 7 9 (g 0) wl nd g)) (fun (u : (Nat → Int32) × (Nat → Nat → Int32)) t => va_P D xcl (moW h mm kA u.1 u.2) t.heap ∧ va_D (va_A (moW h mm kA v g) sz) (moW h mm kA u.1 u.2)) (va_A (moW h mm kA v g) sz)) 0 0 (va_A (moW h mm kA v g) sz) := by
  refine Met.ofW (cc := xb_Mo_shown) (maxL := 8) (ret := (some .int)) (by decide) rfl ?_
  intro p e s m args below meth c s₁ B hml hv
  obtain ⟨rfl, hsz, hP, hK, hD0⟩ := hv
  have hx := B.exec
  have hb := B.bytes
  have hr := B.returns
  have hT := x_hT B.pre
  have hown : s.vm.findClass xR_Mo = some m.cls := findClass_of_methodNamed B.named
  have hlocks := B.notSynchronized
  subst hsz
  have hD := hD0.self (sz := s.heap.size)
  generalize hAe : va_A (moW h mm kA v g) s.heap.size = A at hD ⊢
  have hA : ∀ q : Nat, s.heap.size ≤ q → A q := fun q h => by rw [← hAe]; exact Or.inr h
  have hS : va_S A s.heap s.heap [] := va_S.rf
  have hl := lv_entry ([.ref h, .int 0]) (n := 8) (Nat.le_of_ble_eq_true rfl)
  rw [lg_entry_eq]
  generalize (lg_sl ([.ref h, .int 0]) ++ List.replicate (8 - (lg_sl ([.ref h, .int 0])).length) Slot.unset).toArray = ls at hl ⊢
  have hl : lv_has ls 8 [(0, .ref h), (1, .int 0)] := hl
  have hP : va_P D xcl (moW h mm kA v g) s.heap := hP
  obtain ⟨-, ⟨nl, hnl5, hnl, hpar⟩, hch, hpk, hrq, hmd, huq⟩ := id hMI
  obtain ⟨hwn, ⟨hwn20, hwlr⟩, hws⟩ := id hWX
  refine lv_aload_n hx hb xd_Mo_shown_0 rfl (lv_at hl 0 rfl) ?_
  refine va_get (D := D) (ci := 4) (v := .int (v 3)) (C := xR_Mo) (T := xT_Mo) (N := 31) hx hb hT xi_Mo hown hK.1 hP 0 rfl rfl 4 (by decide) (hT _ k4c_2) (fun _ h9 => h9) rfl xd_Mo_shown_1 ?_
  refine xn_top (x := (v 3)) (y := nI wl.length) hwn ?_
  refine lv_iconst (v := 2) hx hb xd_Mo_shown_4 (by decide) ?_
  refine xn_eq (a := wl.length) (b := 2) (tgt := 16) hx hb xd_Mo_shown_5 (by decide) (by omega) (by omega) (fun hc1 => ?_) (fun hc1 => ?_)
  · have hbe1 := (hwlr 1 (by omega)).1
    have he1 := (hwlr 1 (by omega)).2
    have eb1 := (hws 1 (by omega)).1
    have ee1 := (hws 1 (by omega)).2
    refine lv_aload_n hx hb xd_Mo_shown_16 rfl (lv_at hl 0 rfl) ?_
    refine lv_iconst (v := 1) hx hb xd_Mo_shown_17 (by decide) ?_
    have hFc := va_free (wc := (moW h mm kA v g)) hD hS hA [0, 1, 2, 3, 4, 5, 6, 7, 8, 9, 10, 11, 12, 13, 14, 15, 16, 17, 18, 19, 20, 21, 22, 23, 24, 25] rfl
    refine va_calli (va_runV (As := [.int 1]) (rest := []) ⟨hx, hb, hml, hown, hT⟩ (xc_Mo_nameOfX l D kA s.heap.size h mm v g 1 (wb wl 1) (we wl 1) (by first | assumption | omega) (by first | assumption | omega) (by first | assumption | omega) (by first | assumption | omega) (by first | assumption | omega)) (cwV 1 hT (wT_V k4c_4 k4c_5 k4c_6 k4c_7 k4c_3) rfl rfl rfl (by decide +kernel) ⟨Nat.le_of_ble_eq_true rfl, Nat.le_of_ble_eq_true rfl⟩) (x_preV hK hP hD 0 rfl rfl) rfl rfl hl.1 rfl (lv_room (Nat.le_of_ble_eq_true rfl)) xd_Mo_shown_18 ⟨Nat.le_of_ble_eq_true rfl, Nat.le_of_ble_eq_true rfl⟩) hS (fun q _ h => hFc q h) hFc (fun r2 u3 t H1 locs ht hvm hp4 hB hz1 hk1 hS => ?_)
    obtain ⟨hP1, hD1⟩ := hB
    rw [ht] at hP1
    have hD1 := hD1.weaken (fun _ _ _ h => hFc _ h)
    generalize H1 = H at hP1 hS ⊢
    have hP := hP1
    have hD := hD1
    have hP : va_P D xcl (moW h mm kA v g) H := hP
    have hD : va_D A (moW h mm kA v g) := hD
    have hp4 : r2 = nV (g 0) (wb wl 1) (we wl 1) := hp4
    subst hp4
    have hP : va_P D xcl (moW h mm kA v g) H := hP
    have hD : va_D A (moW h mm kA v g) := hD
    refine lv_goto (tgt := 25) hx hb xd_Mo_shown_21 (by decide) ?_
    refine lv_istore_n hx hb xd_Mo_shown_25 rfl hl (Nat.le_of_ble_eq_true rfl) rfl (fun ls hl => ?_)
    have hl : lv_has ls 8 [(2, .int (nV (g 0) (wb wl 1) (we wl 1))), (0, .ref h), (1, .int 0)] := hl
    refine lv_aload_n hx hb xd_Mo_shown_26 rfl (lv_at hl 1 rfl) ?_
    refine va_get (D := D) (ci := 4) (v := .int (v 3)) (C := xR_Mo) (T := xT_Mo) (N := 31) hx hb hT xi_Mo hown hK.1 hP 0 rfl rfl 4 (by decide) (hT _ k4c_2) (fun _ h9 => h9) rfl xd_Mo_shown_27 ?_
    refine xn_top (x := (v 3)) (y := nI wl.length) hwn ?_
    refine lv_iconst (v := 4) hx hb xd_Mo_shown_30 (by decide) ?_
    refine xn_ne (a := wl.length) (b := 4) (tgt := 61) hx hb xd_Mo_shown_31 (by decide) (by omega) (by omega) (fun _ => ?_) (fun hc5 => absurd hc5 (by omega))
    refine lv_iconst (v := 0) hx hb xd_Mo_shown_61 (by decide) ?_
    refine lv_istore_n hx hb xd_Mo_shown_62 rfl hl (Nat.le_of_ble_eq_true rfl) rfl (fun ls hl => ?_)
    have hl : lv_has ls 8 [(3, .int 0), (2, .int (nV (g 0) (wb wl 1) (we wl 1))), (0, .ref h), (1, .int 0)] := hl
    refine lv_iload_n hx hb xd_Mo_shown_63 rfl (lv_at hl 1 rfl) ?_
    refine lv_if_eq (tgt := 79) hx hb xd_Mo_shown_64 (by decide) (fun hc6 => ?_) (fun hc6 => ?_)
    · refine lv_iconst (v := (-1)) hx hb xd_Mo_shown_79 (by decide) ?_
      exact W.iret (v := (-1)) hx hb hr (fun t ht hW => ⟨⟨(-1), (v, g), rfl, ⟨hMI, rfl, Or.inl rfl, congrArg (Prod.mk v) (lG_no1 (fun q => q.2.1 ((wN_in (by omega)).trans hc6)))⟩, by rw [ht]; exact hP, hD⟩, hS.F ht⟩) hS.2.2 xd_Mo_shown_80
    · refine lv_aload_n hx hb xd_Mo_shown_67 rfl (lv_at hl 2 rfl) ?_
      refine va_get (D := D) (ci := 4) (v := .int (v 3)) (C := xR_Mo) (T := xT_Mo) (N := 31) hx hb hT xi_Mo hown hK.1 hP 0 rfl rfl 4 (by decide) (hT _ k4c_2) (fun _ h9 => h9) rfl xd_Mo_shown_68 ?_
      refine xn_top (x := (v 3)) (y := nI wl.length) hwn ?_
      refine lv_iconst (v := 4) hx hb xd_Mo_shown_71 (by decide) ?_
      refine xn_ne (a := wl.length) (b := 4) (tgt := 81) hx hb xd_Mo_shown_72 (by decide) (by omega) (by omega) (fun _ => ?_) (fun hc7 => absurd hc7 (by omega))
      rcases Nat.eq_zero_or_pos nd with hz | hz
      · have hnd0 : v 4 = nI 0 := by rw [hnd, hz]
        have hn1 : wN (g 0) wl 1 = nV (g 0) (wb wl 1) (we wl 1) := wN_in (by omega)
        refine lv_aload_n hx hb xd_Mo_shown_81 rfl (lv_at hl 2 rfl) ?_
        refine va_get (D := D) (ci := 4) (v := .int (v 4)) (C := xR_Mo) (T := xT_Mo) (N := 31) hx hb hT xi_Mo hown hK.1 hP 0 rfl rfl 7 (by decide) (hT _ k4c_8) (fun _ h9 => h9) rfl xd_Mo_shown_82 ?_
        refine xn_top (x := (v 4)) (y := nI 0) hnd0 ?_
        refine lv_iconst (v := 1) hx hb xd_Mo_shown_85 (by decide) ?_
        refine lv_isub hx hb xd_Mo_shown_86 ?_
        refine lv_istore hx hb xd_Mo_shown_87 hl (Nat.le_of_ble_eq_true rfl) rfl (fun ls hl => ?_)
        have hl : lv_has ls 8 [(4, .int ((nI 0) - 1)), (3, .int 0), (2, .int (nV (g 0) (wb wl 1) (we wl 1))), (0, .ref h), (1, .int 0)] := hl
        refine lv_iload hx hb xd_Mo_shown_89 (lv_at hl 0 rfl) ?_
        refine lv_if_lt (tgt := 104) hx hb xd_Mo_shown_91 (by decide) (fun _ => ?_) (fun hc8 => absurd hc8 (by decide))
        refine lv_iconst (v := 0) hx hb xd_Mo_shown_104 (by decide) ?_
        refine lv_istore hx hb xd_Mo_shown_105 hl (Nat.le_of_ble_eq_true rfl) rfl (fun ls hl => ?_)
        have hl : lv_has ls 8 [(5, .int 0), (4, .int ((nI 0) - 1)), (3, .int 0), (2, .int (nV (g 0) (wb wl 1) (we wl 1))), (0, .ref h), (1, .int 0)] := hl
        refine lv_iload hx hb xd_Mo_shown_107 (lv_at hl 0 rfl) ?_
        refine xz_ge (a := 0) (tgt := 114) hx hb xd_Mo_shown_109 (by decide) (by omega) ?_
        refine lv_aload_n hx hb xd_Mo_shown_114 rfl (lv_at hl 4 rfl) ?_
        have hFc := va_free (wc := (moW h mm kA v g)) hD hS hA [0, 1, 2, 3, 4, 5, 6, 7, 8, 9, 10, 11, 12, 13, 14, 15, 16, 17, 18, 19, 20, 21, 22, 23, 24, 25] rfl
        refine va_calli (va_runV (As := []) (rest := []) ⟨hx, hb, hml, hown, hT⟩ (xc_Mo_isShut l D kA H.size h mm v g nd (by first | assumption | omega) (by first | assumption | omega)) (cwV 0 hT (wT_V k4c_10 k4c_11 k4c_12 k4c_7 k4c_9) rfl rfl rfl (by decide +kernel) ⟨Nat.le_of_ble_eq_true rfl, Nat.le_of_ble_eq_true rfl⟩) (x_preV hK hP hD 0 rfl rfl) rfl rfl hl.1 rfl (lv_room (Nat.le_of_ble_eq_true rfl)) xd_Mo_shown_115 ⟨Nat.le_of_ble_eq_true rfl, Nat.le_of_ble_eq_true rfl⟩) hS (fun q _ h => hFc q h) hFc (fun r10 u11 t H1 locs ht hvm hp12 hB hz1 hk1 hS => ?_)
        obtain ⟨hP1, hD1⟩ := hB
        rw [ht] at hP1
        have hD1 := hD1.weaken (fun _ _ _ h => hFc _ h)
        generalize H1 = H at hP1 hS ⊢
        have hP := hP1
        have hD := hD1
        have hP : va_P D xcl (moW h mm kA v g) H := hP
        have hD : va_D A (moW h mm kA v g) := hD
        rcases hp12 with ⟨rfl, z13⟩ | ⟨rfl, z14, z15⟩
        · refine xz_eq (a := 1) (tgt := 124) hx hb xd_Mo_shown_118 (by decide) (by omega) (fun hc16 => absurd hc16 (by omega)) (fun _ => ?_)
          refine lv_bipush (v := (-2)) hx hb xd_Mo_shown_121 (by decide) ?_
          exact W.iret (v := (-2)) hx hb hr (fun t ht hW => ⟨⟨(-2), (v, g), rfl, ⟨hMI, rfl, Or.inr (Or.inl rfl), congrArg (Prod.mk v) (lG_no1 (fun q => absurd q.2.2.1 (by omega)))⟩, by rw [ht]; exact hP, hD⟩, hS.F ht⟩) hS.2.2 xd_Mo_shown_123
        · exact absurd hz z14
      · have hn1 : wN (g 0) wl 1 = nV (g 0) (wb wl 1) (we wl 1) := wN_in (by omega)
        refine lv_aload_n hx hb xd_Mo_shown_81 rfl (lv_at hl 2 rfl) ?_
        refine va_get (D := D) (ci := 4) (v := .int (v 4)) (C := xR_Mo) (T := xT_Mo) (N := 31) hx hb hT xi_Mo hown hK.1 hP 0 rfl rfl 7 (by decide) (hT _ k4c_8) (fun _ h9 => h9) rfl xd_Mo_shown_82 ?_
        refine xn_top (x := (v 4)) (y := nI nd) hnd ?_
        refine lv_iconst (v := 1) hx hb xd_Mo_shown_85 (by decide) ?_
        refine lv_isub hx hb xd_Mo_shown_86 ?_
        refine xn_top (y := nI (nd - 1)) (pk_sub (a := nd) (b := 1) (by omega)) ?_
        refine lv_istore hx hb xd_Mo_shown_87 hl (Nat.le_of_ble_eq_true rfl) rfl (fun ls hl => ?_)
        have hl : lv_has ls 8 [(4, .int (nI (nd - 1))), (3, .int 0), (2, .int (nV (g 0) (wb wl 1) (we wl 1))), (0, .ref h), (1, .int 0)] := hl
        refine lv_iload hx hb xd_Mo_shown_89 (lv_at hl 0 rfl) ?_
        refine xz_lt (a := nd - 1) (tgt := 104) hx hb xd_Mo_shown_91 (by decide) (by omega) ?_
        obtain ⟨pk1, hpk1, epk1⟩ := hpk (nd - 1) (by omega)
        have hik : iN (g 5 (nd - 1)) = pk1 := by rw [epk1, iN_nI (by omega)]
        refine lv_aload_n hx hb xd_Mo_shown_94 rfl (lv_at hl 3 rfl) ?_
        refine lv_iload hx hb xd_Mo_shown_95 (lv_at hl 0 rfl) ?_
        refine lv_iload_n hx hb xd_Mo_shown_97 rfl (lv_at hl 2 rfl) ?_
        have hFc := va_free (wc := (moW h mm kA v g)) hD hS hA [0, 1, 2, 3, 4, 5, 6, 7, 8, 9, 10, 11, 12, 13, 14, 15, 16, 17, 18, 19, 20, 21, 22, 23, 24, 25] rfl
        refine va_calli (va_runV (As := [.int (nI (nd - 1)), .int (nV (g 0) (wb wl 1) (we wl 1))]) (rest := []) ⟨hx, hb, hml, hown, hT⟩ (xc_Mo_packageOfX l D kA H.size h mm v g (nd - 1) (nV (g 0) (wb wl 1) (we wl 1)) pk1 (by first | assumption | omega) (by first | assumption | omega) (by first | assumption | omega)) (cwV 2 hT (wT_V k4c_14 k4c_15 k4c_16 k4c_7 k4c_13) rfl rfl rfl (by decide +kernel) ⟨Nat.le_of_ble_eq_true rfl, Nat.le_of_ble_eq_true rfl⟩) (x_preV hK hP hD 0 rfl rfl) rfl rfl hl.1 rfl (lv_room (Nat.le_of_ble_eq_true rfl)) xd_Mo_shown_98 ⟨Nat.le_of_ble_eq_true rfl, Nat.le_of_ble_eq_true rfl⟩) hS (fun q _ h => hFc q h) hFc (fun r18 u19 t H1 locs ht hvm hp20 hB hz1 hk1 hS => ?_)
        obtain ⟨hP1, hD1⟩ := hB
        rw [ht] at hP1
        have hD1 := hD1.weaken (fun _ _ _ h => hFc _ h)
        generalize H1 = H at hP1 hS ⊢
        have hP := hP1
        have hD := hD1
        have hP : va_P D xcl (moW h mm kA v g) H := hP
        have hD : va_D A (moW h mm kA v g) := hD
        rcases hp20 with ⟨z21, z22, z23, rfl, z24, z25⟩ | ⟨rfl, z26⟩
        · refine lv_goto (tgt := 105) hx hb xd_Mo_shown_101 (by decide) ?_
          refine lv_istore hx hb xd_Mo_shown_105 hl (Nat.le_of_ble_eq_true rfl) rfl (fun ls hl => ?_)
          have hl : lv_has ls 8 [(5, .int (nI z21)), (4, .int (nI (nd - 1))), (3, .int 0), (2, .int (nV (g 0) (wb wl 1) (we wl 1))), (0, .ref h), (1, .int 0)] := hl
          refine lv_iload hx hb xd_Mo_shown_107 (lv_at hl 0 rfl) ?_
          refine xz_ge (a := z21) (tgt := 114) hx hb xd_Mo_shown_109 (by decide) (by omega) ?_
          refine lv_aload_n hx hb xd_Mo_shown_114 rfl (lv_at hl 4 rfl) ?_
          have hFc := va_free (wc := (moW h mm kA v g)) hD hS hA [0, 1, 2, 3, 4, 5, 6, 7, 8, 9, 10, 11, 12, 13, 14, 15, 16, 17, 18, 19, 20, 21, 22, 23, 24, 25] rfl
          refine va_calli (va_runV (As := []) (rest := []) ⟨hx, hb, hml, hown, hT⟩ (xc_Mo_isShut l D kA H.size h mm v g nd (by first | assumption | omega) (by first | assumption | omega)) (cwV 0 hT (wT_V k4c_10 k4c_11 k4c_12 k4c_7 k4c_9) rfl rfl rfl (by decide +kernel) ⟨Nat.le_of_ble_eq_true rfl, Nat.le_of_ble_eq_true rfl⟩) (x_preV hK hP hD 0 rfl rfl) rfl rfl hl.1 rfl (lv_room (Nat.le_of_ble_eq_true rfl)) xd_Mo_shown_115 ⟨Nat.le_of_ble_eq_true rfl, Nat.le_of_ble_eq_true rfl⟩) hS (fun q _ h => hFc q h) hFc (fun r28 u29 t H1 locs ht hvm hp30 hB hz1 hk1 hS => ?_)
          obtain ⟨hP1, hD1⟩ := hB
          rw [ht] at hP1
          have hD1 := hD1.weaken (fun _ _ _ h => hFc _ h)
          generalize H1 = H at hP1 hS ⊢
          have hP := hP1
          have hD := hD1
          have hP : va_P D xcl (moW h mm kA v g) H := hP
          have hD : va_D A (moW h mm kA v g) := hD
          rcases hp30 with ⟨rfl, z31⟩ | ⟨rfl, z32, z33⟩
          · refine xz_eq (a := 1) (tgt := 124) hx hb xd_Mo_shown_118 (by decide) (by omega) (fun hc34 => absurd hc34 (by omega)) (fun _ => ?_)
            refine lv_bipush (v := (-2)) hx hb xd_Mo_shown_121 (by decide) ?_
            exact W.iret (v := (-2)) hx hb hr (fun t ht hW => ⟨⟨(-2), (v, g), rfl, ⟨hMI, rfl, Or.inr (Or.inl rfl), congrArg (Prod.mk v) (lG_no1 (fun q => z31.elim (fun z => absurd q.2.2.1 (by omega)) (fun z => z q.2.2.2)))⟩, by rw [ht]; exact hP, hD⟩, hS.F ht⟩) hS.2.2 xd_Mo_shown_123
          · refine xz_eq (a := 0) (tgt := 124) hx hb xd_Mo_shown_118 (by decide) (by omega) (fun _ => ?_) (fun hc35 => absurd hc35 (by omega))
            refine lv_aload_n hx hb xd_Mo_shown_124 rfl (lv_at hl 4 rfl) ?_
            refine va_get (D := D) (ci := 4) (v := .int (v 3)) (C := xR_Mo) (T := xT_Mo) (N := 31) hx hb hT xi_Mo hown hK.1 hP 0 rfl rfl 4 (by decide) (hT _ k4c_2) (fun _ h9 => h9) rfl xd_Mo_shown_125 ?_
            refine xn_top (x := (v 3)) (y := nI wl.length) hwn ?_
            refine lv_iconst (v := 2) hx hb xd_Mo_shown_128 (by decide) ?_
            refine xn_ne (a := wl.length) (b := 2) (tgt := 157) hx hb xd_Mo_shown_129 (by decide) (by omega) (by omega) (fun hc36 => absurd hc36 (by omega)) (fun _ => ?_)
            refine lv_iload_n hx hb xd_Mo_shown_132 rfl (lv_at hl 5 rfl) ?_
            refine xz_eq (a := 0) (tgt := 147) hx hb xd_Mo_shown_133 (by decide) (by omega) (fun _ => ?_) (fun hc37 => absurd hc37 (by omega))
            refine lv_aload_n hx hb xd_Mo_shown_147 rfl (lv_at hl 4 rfl) ?_
            refine va_get (D := D) (ci := 4) (v := .ref (mm 9)) (C := xR_Mo) (T := xT_Mo) (N := 31) hx hb hT xi_Mo hown hK.1 hP 0 rfl rfl 14 (by decide) (hT _ k4c_17) (fun _ h9 => h9) rfl xd_Mo_shown_148 ?_
            refine lv_iload hx hb xd_Mo_shown_151 (lv_at hl 0 rfl) ?_
            refine lv_iconst (v := 1) hx hb xd_Mo_shown_153 (by decide) ?_
            refine xn_zast (i := z21) hx hb hK.1 hP hD hS 10 2 rfl rfl (by omega) (by decide) xd_Mo_shown_154 (fun H locs hP hD hS => ?_)
            have hP : va_P D xcl (moW h mm kA v (va_up g 9 (upd (g 9) z21 (vp_nar .boolean 1)))) H := hP
            have hD : va_D A (moW h mm kA v (va_up g 9 (upd (g 9) z21 (vp_nar .boolean 1)))) := hD
            refine lv_iconst (v := 2) hx hb xd_Mo_shown_155 (by decide) ?_
            exact W.iret (v := 2) hx hb hr (fun t ht hW => ⟨⟨2, (v, (va_up g 9 (upd (g 9) z21 (vp_nar .boolean 1)))), rfl, ⟨MI_g rfl rfl rfl rfl rfl rfl rfl rfl hMI, rfl, Or.inr (Or.inr (Or.inr rfl)), congrArg (Prod.mk v) (lG_all (pI_some epk1 (by omega) z22 z23 (z24.trans hn1.symm) (fun j a9 b9 q => z25 j a9 b9 (q.trans hn1))) ⟨Or.inl (by omega), fun q => hc6 (hn1.symm.trans q), by omega, z33⟩ (by omega) (by omega) rfl)⟩, by rw [ht]; exact hP, hD⟩, hS.F ht⟩) hS.2.2 xd_Mo_shown_156
        · refine lv_goto (tgt := 105) hx hb xd_Mo_shown_101 (by decide) ?_
          refine lv_istore hx hb xd_Mo_shown_105 hl (Nat.le_of_ble_eq_true rfl) rfl (fun ls hl => ?_)
          have hl : lv_has ls 8 [(5, .int (-1)), (4, .int (nI (nd - 1))), (3, .int 0), (2, .int (nV (g 0) (wb wl 1) (we wl 1))), (0, .ref h), (1, .int 0)] := hl
          refine lv_iload hx hb xd_Mo_shown_107 (lv_at hl 0 rfl) ?_
          refine lv_if_ge (tgt := 114) hx hb xd_Mo_shown_109 (by decide) (fun hc38 => absurd hc38 (by decide)) (fun _ => ?_)
          refine lv_iconst (v := (-1)) hx hb xd_Mo_shown_112 (by decide) ?_
          exact W.iret (v := (-1)) hx hb hr (fun t ht hW => ⟨⟨(-1), (v, g), rfl, ⟨hMI, rfl, Or.inl rfl, congrArg (Prod.mk v) (lG_no2 (pI_none epk1 (by omega) (fun j a9 b9 q => z26 j a9 b9 (q.trans hn1))))⟩, by rw [ht]; exact hP, hD⟩, hS.F ht⟩) hS.2.2 xd_Mo_shown_113
  · refine lv_aload_n hx hb xd_Mo_shown_8 rfl (lv_at hl 0 rfl) ?_
    refine va_get (D := D) (ci := 4) (v := .int (v 3)) (C := xR_Mo) (T := xT_Mo) (N := 31) hx hb hT xi_Mo hown hK.1 hP 0 rfl rfl 4 (by decide) (hT _ k4c_2) (fun _ h9 => h9) rfl xd_Mo_shown_9 ?_
    refine xn_top (x := (v 3)) (y := nI wl.length) hwn ?_
    refine lv_iconst (v := 4) hx hb xd_Mo_shown_12 (by decide) ?_
    refine xn_ne (a := wl.length) (b := 4) (tgt := 24) hx hb xd_Mo_shown_13 (by decide) (by omega) (by omega) (fun hc39 => ?_) (fun hc39 => ?_)
    · refine lv_iconst (v := 0) hx hb xd_Mo_shown_24 (by decide) ?_
      refine lv_istore_n hx hb xd_Mo_shown_25 rfl hl (Nat.le_of_ble_eq_true rfl) rfl (fun ls hl => ?_)
      have hl : lv_has ls 8 [(2, .int 0), (0, .ref h), (1, .int 0)] := hl
      refine lv_aload_n hx hb xd_Mo_shown_26 rfl (lv_at hl 1 rfl) ?_
      refine va_get (D := D) (ci := 4) (v := .int (v 3)) (C := xR_Mo) (T := xT_Mo) (N := 31) hx hb hT xi_Mo hown hK.1 hP 0 rfl rfl 4 (by decide) (hT _ k4c_2) (fun _ h9 => h9) rfl xd_Mo_shown_27 ?_
      refine xn_top (x := (v 3)) (y := nI wl.length) hwn ?_
      refine lv_iconst (v := 4) hx hb xd_Mo_shown_30 (by decide) ?_
      refine xn_ne (a := wl.length) (b := 4) (tgt := 61) hx hb xd_Mo_shown_31 (by decide) (by omega) (by omega) (fun _ => ?_) (fun hc40 => absurd hc40 (by omega))
      refine lv_iconst (v := 0) hx hb xd_Mo_shown_61 (by decide) ?_
      refine lv_istore_n hx hb xd_Mo_shown_62 rfl hl (Nat.le_of_ble_eq_true rfl) rfl (fun ls hl => ?_)
      have hl : lv_has ls 8 [(3, .int 0), (2, .int 0), (0, .ref h), (1, .int 0)] := hl
      refine lv_iload_n hx hb xd_Mo_shown_63 rfl (lv_at hl 1 rfl) ?_
      refine xz_eq (a := 0) (tgt := 79) hx hb xd_Mo_shown_64 (by decide) (by omega) (fun _ => ?_) (fun hc41 => absurd hc41 (by omega))
      refine lv_iconst (v := (-1)) hx hb xd_Mo_shown_79 (by decide) ?_
      exact W.iret (v := (-1)) hx hb hr (fun t ht hW => ⟨⟨(-1), (v, g), rfl, ⟨hMI, rfl, Or.inl rfl, congrArg (Prod.mk v) (lG_no1 (fun q => q.1.elim (fun z => absurd z (by omega)) (fun z => absurd z.1 (by omega))))⟩, by rw [ht]; exact hP, hD⟩, hS.F ht⟩) hS.2.2 xd_Mo_shown_80
    · have hbe1 := (hwlr 1 (by omega)).1
      have he1 := (hwlr 1 (by omega)).2
      have eb1 := (hws 1 (by omega)).1
      have ee1 := (hws 1 (by omega)).2
      refine lv_aload_n hx hb xd_Mo_shown_16 rfl (lv_at hl 0 rfl) ?_
      refine lv_iconst (v := 1) hx hb xd_Mo_shown_17 (by decide) ?_
      have hFc := va_free (wc := (moW h mm kA v g)) hD hS hA [0, 1, 2, 3, 4, 5, 6, 7, 8, 9, 10, 11, 12, 13, 14, 15, 16, 17, 18, 19, 20, 21, 22, 23, 24, 25] rfl
      refine va_calli (va_runV (As := [.int 1]) (rest := []) ⟨hx, hb, hml, hown, hT⟩ (xc_Mo_nameOfX l D kA s.heap.size h mm v g 1 (wb wl 1) (we wl 1) (by first | assumption | omega) (by first | assumption | omega) (by first | assumption | omega) (by first | assumption | omega) (by first | assumption | omega)) (cwV 1 hT (wT_V k4c_4 k4c_5 k4c_6 k4c_7 k4c_3) rfl rfl rfl (by decide +kernel) ⟨Nat.le_of_ble_eq_true rfl, Nat.le_of_ble_eq_true rfl⟩) (x_preV hK hP hD 0 rfl rfl) rfl rfl hl.1 rfl (lv_room (Nat.le_of_ble_eq_true rfl)) xd_Mo_shown_18 ⟨Nat.le_of_ble_eq_true rfl, Nat.le_of_ble_eq_true rfl⟩) hS (fun q _ h => hFc q h) hFc (fun r42 u43 t H1 locs ht hvm hp44 hB hz1 hk1 hS => ?_)
      obtain ⟨hP1, hD1⟩ := hB
      rw [ht] at hP1
      have hD1 := hD1.weaken (fun _ _ _ h => hFc _ h)
      generalize H1 = H at hP1 hS ⊢
      have hP := hP1
      have hD := hD1
      have hP : va_P D xcl (moW h mm kA v g) H := hP
      have hD : va_D A (moW h mm kA v g) := hD
      have hp44 : r42 = nV (g 0) (wb wl 1) (we wl 1) := hp44
      subst hp44
      have hP : va_P D xcl (moW h mm kA v g) H := hP
      have hD : va_D A (moW h mm kA v g) := hD
      refine lv_goto (tgt := 25) hx hb xd_Mo_shown_21 (by decide) ?_
      refine lv_istore_n hx hb xd_Mo_shown_25 rfl hl (Nat.le_of_ble_eq_true rfl) rfl (fun ls hl => ?_)
      have hl : lv_has ls 8 [(2, .int (nV (g 0) (wb wl 1) (we wl 1))), (0, .ref h), (1, .int 0)] := hl
      refine lv_aload_n hx hb xd_Mo_shown_26 rfl (lv_at hl 1 rfl) ?_
      refine va_get (D := D) (ci := 4) (v := .int (v 3)) (C := xR_Mo) (T := xT_Mo) (N := 31) hx hb hT xi_Mo hown hK.1 hP 0 rfl rfl 4 (by decide) (hT _ k4c_2) (fun _ h9 => h9) rfl xd_Mo_shown_27 ?_
      refine xn_top (x := (v 3)) (y := nI wl.length) hwn ?_
      refine lv_iconst (v := 4) hx hb xd_Mo_shown_30 (by decide) ?_
      refine xn_ne (a := wl.length) (b := 4) (tgt := 61) hx hb xd_Mo_shown_31 (by decide) (by omega) (by omega) (fun hc45 => absurd hc45 (by omega)) (fun _ => ?_)
      have hbe2 := (hwlr 2 (by omega)).1
      have he2 := (hwlr 2 (by omega)).2
      have eb2 := (hws 2 (by omega)).1
      have ee2 := (hws 2 (by omega)).2
      have hbe3 := (hwlr 3 (by omega)).1
      have he3 := (hwlr 3 (by omega)).2
      have eb3 := (hws 3 (by omega)).1
      have ee3 := (hws 3 (by omega)).2
      refine lv_aload_n hx hb xd_Mo_shown_34 rfl (lv_at hl 1 rfl) ?_
      refine lv_iconst (v := 2) hx hb xd_Mo_shown_35 (by decide) ?_
      refine lv_bipush (v := 116) hx hb xd_Mo_shown_36 (by decide) ?_
      refine lv_bipush (v := 111) hx hb xd_Mo_shown_38 (by decide) ?_
      refine lv_iconst (v := 0) hx hb xd_Mo_shown_40 (by decide) ?_
      refine lv_iconst (v := 0) hx hb xd_Mo_shown_41 (by decide) ?_
      refine lv_iconst (v := 0) hx hb xd_Mo_shown_42 (by decide) ?_
      have hFc := va_free (wc := (moW h mm kA v g)) hD hS hA [0, 1, 2, 3, 4, 5, 6, 7, 8, 9, 10, 11, 12, 13, 14, 15, 16, 17, 18, 19, 20, 21, 22, 23, 24, 25] rfl
      refine va_calli (va_runS (As := [.int 116, .int 111, .int 0, .int 0, .int 0]) (rest := [.int 2, .ref h]) ⟨hx, hb, hml, hown, hT⟩ (xc_Mo_codeX l D kA H.size h mm v g 116 111 0 0 0) (cwS 5 hT (wT_S0 k4c_19 k4c_20 k4c_7 k4c_18) rfl rfl rfl (by decide +kernel) ⟨Nat.le_of_ble_eq_true rfl, Nat.le_of_ble_eq_true rfl⟩) (x_preS hK hP hD) rfl rfl hl.1 rfl (lv_room (Nat.le_of_ble_eq_true rfl)) xd_Mo_shown_43 ⟨Nat.le_of_ble_eq_true rfl, Nat.le_of_ble_eq_true rfl⟩) hS (fun q _ h => hFc q h) hFc (fun r46 u47 t H1 locs ht hvm hp48 hB hz1 hk1 hS => ?_)
      obtain ⟨hP1, hD1⟩ := hB
      rw [ht] at hP1
      have hD1 := hD1.weaken (fun _ _ _ h => hFc _ h)
      generalize H1 = H at hP1 hS ⊢
      have hP := hP1
      have hD := hD1
      have hP : va_P D xcl (moW h mm kA v g) H := hP
      have hD : va_D A (moW h mm kA v g) := hD
      have hp48 : r46 = cdV 116 111 0 0 0 := hp48
      subst hp48
      have hP : va_P D xcl (moW h mm kA v g) H := hP
      have hD : va_D A (moW h mm kA v g) := hD
      refine lv_iconst (v := 0) hx hb xd_Mo_shown_46 (by decide) ?_
      have hFc := va_free (wc := (moW h mm kA v g)) hD hS hA [0, 1, 2, 3, 4, 5, 6, 7, 8, 9, 10, 11, 12, 13, 14, 15, 16, 17, 18, 19, 20, 21, 22, 23, 24, 25] rfl
      refine va_calli (va_runV (As := [.int 2, .int (cdV 116 111 0 0 0), .int 0]) (rest := []) ⟨hx, hb, hml, hown, hT⟩ (xc_Mo_saysX l D kA H.size h mm v g 2 (wb wl 2) (we wl 2) (cdV 116 111 0 0 0) 0 (by first | assumption | omega) (by first | assumption | omega) (by first | assumption | omega) (by first | assumption | omega) (by first | assumption | omega) (by first | assumption | omega)) (cwV 3 hT (wT_V k4c_22 k4c_23 k4c_24 k4c_7 k4c_21) rfl rfl rfl (by decide +kernel) ⟨Nat.le_of_ble_eq_true rfl, Nat.le_of_ble_eq_true rfl⟩) (x_preV hK hP hD 0 rfl rfl) rfl rfl hl.1 rfl (lv_room (Nat.le_of_ble_eq_true rfl)) xd_Mo_shown_47 ⟨Nat.le_of_ble_eq_true rfl, Nat.le_of_ble_eq_true rfl⟩) hS (fun q _ h => hFc q h) hFc (fun r49 u50 t H1 locs ht hvm hp51 hB hz1 hk1 hS => ?_)
      obtain ⟨hP1, hD1⟩ := hB
      rw [ht] at hP1
      have hD1 := hD1.weaken (fun _ _ _ h => hFc _ h)
      generalize H1 = H at hP1 hS ⊢
      have hP := hP1
      have hD := hD1
      have hP : va_P D xcl (moW h mm kA v g) H := hP
      have hD : va_D A (moW h mm kA v g) := hD
      rcases hp51 with ⟨rfl, z52⟩ | ⟨rfl, z53⟩
      · refine xz_eq (a := 1) (tgt := 61) hx hb xd_Mo_shown_50 (by decide) (by omega) (fun hc54 => absurd hc54 (by omega)) (fun _ => ?_)
        refine lv_aload_n hx hb xd_Mo_shown_53 rfl (lv_at hl 1 rfl) ?_
        refine lv_iconst (v := 3) hx hb xd_Mo_shown_54 (by decide) ?_
        have hFc := va_free (wc := (moW h mm kA v g)) hD hS hA [0, 1, 2, 3, 4, 5, 6, 7, 8, 9, 10, 11, 12, 13, 14, 15, 16, 17, 18, 19, 20, 21, 22, 23, 24, 25] rfl
        refine va_calli (va_runV (As := [.int 3]) (rest := []) ⟨hx, hb, hml, hown, hT⟩ (xc_Mo_nameOfX l D kA H.size h mm v g 3 (wb wl 3) (we wl 3) (by first | assumption | omega) (by first | assumption | omega) (by first | assumption | omega) (by first | assumption | omega) (by first | assumption | omega)) (cwV 1 hT (wT_V k4c_4 k4c_5 k4c_6 k4c_7 k4c_3) rfl rfl rfl (by decide +kernel) ⟨Nat.le_of_ble_eq_true rfl, Nat.le_of_ble_eq_true rfl⟩) (x_preV hK hP hD 0 rfl rfl) rfl rfl hl.1 rfl (lv_room (Nat.le_of_ble_eq_true rfl)) xd_Mo_shown_55 ⟨Nat.le_of_ble_eq_true rfl, Nat.le_of_ble_eq_true rfl⟩) hS (fun q _ h => hFc q h) hFc (fun r55 u56 t H1 locs ht hvm hp57 hB hz1 hk1 hS => ?_)
        obtain ⟨hP1, hD1⟩ := hB
        rw [ht] at hP1
        have hD1 := hD1.weaken (fun _ _ _ h => hFc _ h)
        generalize H1 = H at hP1 hS ⊢
        have hP := hP1
        have hD := hD1
        have hP : va_P D xcl (moW h mm kA v g) H := hP
        have hD : va_D A (moW h mm kA v g) := hD
        have hp57 : r55 = nV (g 0) (wb wl 3) (we wl 3) := hp57
        subst hp57
        have hP : va_P D xcl (moW h mm kA v g) H := hP
        have hD : va_D A (moW h mm kA v g) := hD
        have hn3 : wN (g 0) wl 3 = nV (g 0) (wb wl 3) (we wl 3) := wN_in (by omega)
        refine lv_goto (tgt := 62) hx hb xd_Mo_shown_58 (by decide) ?_
        refine lv_istore_n hx hb xd_Mo_shown_62 rfl hl (Nat.le_of_ble_eq_true rfl) rfl (fun ls hl => ?_)
        have hl : lv_has ls 8 [(3, .int (nV (g 0) (wb wl 3) (we wl 3))), (2, .int (nV (g 0) (wb wl 1) (we wl 1))), (0, .ref h), (1, .int 0)] := hl
        refine lv_iload_n hx hb xd_Mo_shown_63 rfl (lv_at hl 1 rfl) ?_
        refine lv_if_eq (tgt := 79) hx hb xd_Mo_shown_64 (by decide) (fun hc58 => ?_) (fun hc58 => ?_)
        · refine lv_iconst (v := (-1)) hx hb xd_Mo_shown_79 (by decide) ?_
          exact W.iret (v := (-1)) hx hb hr (fun t ht hW => ⟨⟨(-1), (v, g), rfl, ⟨hMI, rfl, Or.inl rfl, congrArg (Prod.mk v) (lG_no1 (fun q => q.2.1 ((wN_in (by omega)).trans hc58)))⟩, by rw [ht]; exact hP, hD⟩, hS.F ht⟩) hS.2.2 xd_Mo_shown_80
        · refine lv_aload_n hx hb xd_Mo_shown_67 rfl (lv_at hl 2 rfl) ?_
          refine va_get (D := D) (ci := 4) (v := .int (v 3)) (C := xR_Mo) (T := xT_Mo) (N := 31) hx hb hT xi_Mo hown hK.1 hP 0 rfl rfl 4 (by decide) (hT _ k4c_2) (fun _ h9 => h9) rfl xd_Mo_shown_68 ?_
          refine xn_top (x := (v 3)) (y := nI wl.length) hwn ?_
          refine lv_iconst (v := 4) hx hb xd_Mo_shown_71 (by decide) ?_
          refine xn_ne (a := wl.length) (b := 4) (tgt := 81) hx hb xd_Mo_shown_72 (by decide) (by omega) (by omega) (fun hc59 => absurd hc59 (by omega)) (fun _ => ?_)
          refine lv_iload_n hx hb xd_Mo_shown_75 rfl (lv_at hl 0 rfl) ?_
          refine lv_if_ne (tgt := 81) hx hb xd_Mo_shown_76 (by decide) (fun hc60 => ?_) (fun hc60 => ?_)
          · rcases Nat.eq_zero_or_pos nd with hz | hz
            · have hnd0 : v 4 = nI 0 := by rw [hnd, hz]
              have hn1 : wN (g 0) wl 1 = nV (g 0) (wb wl 1) (we wl 1) := wN_in (by omega)
              refine lv_aload_n hx hb xd_Mo_shown_81 rfl (lv_at hl 2 rfl) ?_
              refine va_get (D := D) (ci := 4) (v := .int (v 4)) (C := xR_Mo) (T := xT_Mo) (N := 31) hx hb hT xi_Mo hown hK.1 hP 0 rfl rfl 7 (by decide) (hT _ k4c_8) (fun _ h9 => h9) rfl xd_Mo_shown_82 ?_
              refine xn_top (x := (v 4)) (y := nI 0) hnd0 ?_
              refine lv_iconst (v := 1) hx hb xd_Mo_shown_85 (by decide) ?_
              refine lv_isub hx hb xd_Mo_shown_86 ?_
              refine lv_istore hx hb xd_Mo_shown_87 hl (Nat.le_of_ble_eq_true rfl) rfl (fun ls hl => ?_)
              have hl : lv_has ls 8 [(4, .int ((nI 0) - 1)), (3, .int (nV (g 0) (wb wl 3) (we wl 3))), (2, .int (nV (g 0) (wb wl 1) (we wl 1))), (0, .ref h), (1, .int 0)] := hl
              refine lv_iload hx hb xd_Mo_shown_89 (lv_at hl 0 rfl) ?_
              refine lv_if_lt (tgt := 104) hx hb xd_Mo_shown_91 (by decide) (fun _ => ?_) (fun hc61 => absurd hc61 (by decide))
              refine lv_iconst (v := 0) hx hb xd_Mo_shown_104 (by decide) ?_
              refine lv_istore hx hb xd_Mo_shown_105 hl (Nat.le_of_ble_eq_true rfl) rfl (fun ls hl => ?_)
              have hl : lv_has ls 8 [(5, .int 0), (4, .int ((nI 0) - 1)), (3, .int (nV (g 0) (wb wl 3) (we wl 3))), (2, .int (nV (g 0) (wb wl 1) (we wl 1))), (0, .ref h), (1, .int 0)] := hl
              refine lv_iload hx hb xd_Mo_shown_107 (lv_at hl 0 rfl) ?_
              refine xz_ge (a := 0) (tgt := 114) hx hb xd_Mo_shown_109 (by decide) (by omega) ?_
              refine lv_aload_n hx hb xd_Mo_shown_114 rfl (lv_at hl 4 rfl) ?_
              have hFc := va_free (wc := (moW h mm kA v g)) hD hS hA [0, 1, 2, 3, 4, 5, 6, 7, 8, 9, 10, 11, 12, 13, 14, 15, 16, 17, 18, 19, 20, 21, 22, 23, 24, 25] rfl
              refine va_calli (va_runV (As := []) (rest := []) ⟨hx, hb, hml, hown, hT⟩ (xc_Mo_isShut l D kA H.size h mm v g nd (by first | assumption | omega) (by first | assumption | omega)) (cwV 0 hT (wT_V k4c_10 k4c_11 k4c_12 k4c_7 k4c_9) rfl rfl rfl (by decide +kernel) ⟨Nat.le_of_ble_eq_true rfl, Nat.le_of_ble_eq_true rfl⟩) (x_preV hK hP hD 0 rfl rfl) rfl rfl hl.1 rfl (lv_room (Nat.le_of_ble_eq_true rfl)) xd_Mo_shown_115 ⟨Nat.le_of_ble_eq_true rfl, Nat.le_of_ble_eq_true rfl⟩) hS (fun q _ h => hFc q h) hFc (fun r63 u64 t H1 locs ht hvm hp65 hB hz1 hk1 hS => ?_)
              obtain ⟨hP1, hD1⟩ := hB
              rw [ht] at hP1
              have hD1 := hD1.weaken (fun _ _ _ h => hFc _ h)
              generalize H1 = H at hP1 hS ⊢
              have hP := hP1
              have hD := hD1
              have hP : va_P D xcl (moW h mm kA v g) H := hP
              have hD : va_D A (moW h mm kA v g) := hD
              rcases hp65 with ⟨rfl, z66⟩ | ⟨rfl, z67, z68⟩
              · refine xz_eq (a := 1) (tgt := 124) hx hb xd_Mo_shown_118 (by decide) (by omega) (fun hc69 => absurd hc69 (by omega)) (fun _ => ?_)
                refine lv_bipush (v := (-2)) hx hb xd_Mo_shown_121 (by decide) ?_
                exact W.iret (v := (-2)) hx hb hr (fun t ht hW => ⟨⟨(-2), (v, g), rfl, ⟨hMI, rfl, Or.inr (Or.inl rfl), congrArg (Prod.mk v) (lG_no1 (fun q => absurd q.2.2.1 (by omega)))⟩, by rw [ht]; exact hP, hD⟩, hS.F ht⟩) hS.2.2 xd_Mo_shown_123
              · exact absurd hz z67
            · have hn1 : wN (g 0) wl 1 = nV (g 0) (wb wl 1) (we wl 1) := wN_in (by omega)
              refine lv_aload_n hx hb xd_Mo_shown_81 rfl (lv_at hl 2 rfl) ?_
              refine va_get (D := D) (ci := 4) (v := .int (v 4)) (C := xR_Mo) (T := xT_Mo) (N := 31) hx hb hT xi_Mo hown hK.1 hP 0 rfl rfl 7 (by decide) (hT _ k4c_8) (fun _ h9 => h9) rfl xd_Mo_shown_82 ?_
              refine xn_top (x := (v 4)) (y := nI nd) hnd ?_
              refine lv_iconst (v := 1) hx hb xd_Mo_shown_85 (by decide) ?_
              refine lv_isub hx hb xd_Mo_shown_86 ?_
              refine xn_top (y := nI (nd - 1)) (pk_sub (a := nd) (b := 1) (by omega)) ?_
              refine lv_istore hx hb xd_Mo_shown_87 hl (Nat.le_of_ble_eq_true rfl) rfl (fun ls hl => ?_)
              have hl : lv_has ls 8 [(4, .int (nI (nd - 1))), (3, .int (nV (g 0) (wb wl 3) (we wl 3))), (2, .int (nV (g 0) (wb wl 1) (we wl 1))), (0, .ref h), (1, .int 0)] := hl
              refine lv_iload hx hb xd_Mo_shown_89 (lv_at hl 0 rfl) ?_
              refine xz_lt (a := nd - 1) (tgt := 104) hx hb xd_Mo_shown_91 (by decide) (by omega) ?_
              obtain ⟨pk1, hpk1, epk1⟩ := hpk (nd - 1) (by omega)
              have hik : iN (g 5 (nd - 1)) = pk1 := by rw [epk1, iN_nI (by omega)]
              refine lv_aload_n hx hb xd_Mo_shown_94 rfl (lv_at hl 3 rfl) ?_
              refine lv_iload hx hb xd_Mo_shown_95 (lv_at hl 0 rfl) ?_
              refine lv_iload_n hx hb xd_Mo_shown_97 rfl (lv_at hl 2 rfl) ?_
              have hFc := va_free (wc := (moW h mm kA v g)) hD hS hA [0, 1, 2, 3, 4, 5, 6, 7, 8, 9, 10, 11, 12, 13, 14, 15, 16, 17, 18, 19, 20, 21, 22, 23, 24, 25] rfl
              refine va_calli (va_runV (As := [.int (nI (nd - 1)), .int (nV (g 0) (wb wl 1) (we wl 1))]) (rest := []) ⟨hx, hb, hml, hown, hT⟩ (xc_Mo_packageOfX l D kA H.size h mm v g (nd - 1) (nV (g 0) (wb wl 1) (we wl 1)) pk1 (by first | assumption | omega) (by first | assumption | omega) (by first | assumption | omega)) (cwV 2 hT (wT_V k4c_14 k4c_15 k4c_16 k4c_7 k4c_13) rfl rfl rfl (by decide +kernel) ⟨Nat.le_of_ble_eq_true rfl, Nat.le_of_ble_eq_true rfl⟩) (x_preV hK hP hD 0 rfl rfl) rfl rfl hl.1 rfl (lv_room (Nat.le_of_ble_eq_true rfl)) xd_Mo_shown_98 ⟨Nat.le_of_ble_eq_true rfl, Nat.le_of_ble_eq_true rfl⟩) hS (fun q _ h => hFc q h) hFc (fun r71 u72 t H1 locs ht hvm hp73 hB hz1 hk1 hS => ?_)
              obtain ⟨hP1, hD1⟩ := hB
              rw [ht] at hP1
              have hD1 := hD1.weaken (fun _ _ _ h => hFc _ h)
              generalize H1 = H at hP1 hS ⊢
              have hP := hP1
              have hD := hD1
              have hP : va_P D xcl (moW h mm kA v g) H := hP
              have hD : va_D A (moW h mm kA v g) := hD
              rcases hp73 with ⟨z74, z75, z76, rfl, z77, z78⟩ | ⟨rfl, z79⟩
              · refine lv_goto (tgt := 105) hx hb xd_Mo_shown_101 (by decide) ?_
                refine lv_istore hx hb xd_Mo_shown_105 hl (Nat.le_of_ble_eq_true rfl) rfl (fun ls hl => ?_)
                have hl : lv_has ls 8 [(5, .int (nI z74)), (4, .int (nI (nd - 1))), (3, .int (nV (g 0) (wb wl 3) (we wl 3))), (2, .int (nV (g 0) (wb wl 1) (we wl 1))), (0, .ref h), (1, .int 0)] := hl
                refine lv_iload hx hb xd_Mo_shown_107 (lv_at hl 0 rfl) ?_
                refine xz_ge (a := z74) (tgt := 114) hx hb xd_Mo_shown_109 (by decide) (by omega) ?_
                refine lv_aload_n hx hb xd_Mo_shown_114 rfl (lv_at hl 4 rfl) ?_
                have hFc := va_free (wc := (moW h mm kA v g)) hD hS hA [0, 1, 2, 3, 4, 5, 6, 7, 8, 9, 10, 11, 12, 13, 14, 15, 16, 17, 18, 19, 20, 21, 22, 23, 24, 25] rfl
                refine va_calli (va_runV (As := []) (rest := []) ⟨hx, hb, hml, hown, hT⟩ (xc_Mo_isShut l D kA H.size h mm v g nd (by first | assumption | omega) (by first | assumption | omega)) (cwV 0 hT (wT_V k4c_10 k4c_11 k4c_12 k4c_7 k4c_9) rfl rfl rfl (by decide +kernel) ⟨Nat.le_of_ble_eq_true rfl, Nat.le_of_ble_eq_true rfl⟩) (x_preV hK hP hD 0 rfl rfl) rfl rfl hl.1 rfl (lv_room (Nat.le_of_ble_eq_true rfl)) xd_Mo_shown_115 ⟨Nat.le_of_ble_eq_true rfl, Nat.le_of_ble_eq_true rfl⟩) hS (fun q _ h => hFc q h) hFc (fun r81 u82 t H1 locs ht hvm hp83 hB hz1 hk1 hS => ?_)
                obtain ⟨hP1, hD1⟩ := hB
                rw [ht] at hP1
                have hD1 := hD1.weaken (fun _ _ _ h => hFc _ h)
                generalize H1 = H at hP1 hS ⊢
                have hP := hP1
                have hD := hD1
                have hP : va_P D xcl (moW h mm kA v g) H := hP
                have hD : va_D A (moW h mm kA v g) := hD
                rcases hp83 with ⟨rfl, z84⟩ | ⟨rfl, z85, z86⟩
                · refine xz_eq (a := 1) (tgt := 124) hx hb xd_Mo_shown_118 (by decide) (by omega) (fun hc87 => absurd hc87 (by omega)) (fun _ => ?_)
                  refine lv_bipush (v := (-2)) hx hb xd_Mo_shown_121 (by decide) ?_
                  exact W.iret (v := (-2)) hx hb hr (fun t ht hW => ⟨⟨(-2), (v, g), rfl, ⟨hMI, rfl, Or.inr (Or.inl rfl), congrArg (Prod.mk v) (lG_no1 (fun q => z84.elim (fun z => absurd q.2.2.1 (by omega)) (fun z => z q.2.2.2)))⟩, by rw [ht]; exact hP, hD⟩, hS.F ht⟩) hS.2.2 xd_Mo_shown_123
                · refine xz_eq (a := 0) (tgt := 124) hx hb xd_Mo_shown_118 (by decide) (by omega) (fun _ => ?_) (fun hc88 => absurd hc88 (by omega))
                  refine lv_aload_n hx hb xd_Mo_shown_124 rfl (lv_at hl 4 rfl) ?_
                  refine va_get (D := D) (ci := 4) (v := .int (v 3)) (C := xR_Mo) (T := xT_Mo) (N := 31) hx hb hT xi_Mo hown hK.1 hP 0 rfl rfl 4 (by decide) (hT _ k4c_2) (fun _ h9 => h9) rfl xd_Mo_shown_125 ?_
                  refine xn_top (x := (v 3)) (y := nI wl.length) hwn ?_
                  refine lv_iconst (v := 2) hx hb xd_Mo_shown_128 (by decide) ?_
                  refine xn_ne (a := wl.length) (b := 2) (tgt := 157) hx hb xd_Mo_shown_129 (by decide) (by omega) (by omega) (fun _ => ?_) (fun hc89 => absurd hc89 (by omega))
                  refine lv_iconst (v := 3) hx hb xd_Mo_shown_157 (by decide) ?_
                  refine lv_iload hx hb xd_Mo_shown_158 (lv_at hl 0 rfl) ?_
                  refine lv_imul hx hb xd_Mo_shown_160 ?_
                  refine xn_top (y := nI (3 * z74)) (pk_mul 3 z74) ?_
                  refine lv_istore hx hb xd_Mo_shown_161 hl (Nat.le_of_ble_eq_true rfl) rfl (fun ls hl => ?_)
                  have hl : lv_has ls 8 [(6, .int (nI (3 * z74))), (5, .int (nI z74)), (4, .int (nI (nd - 1))), (3, .int (nV (g 0) (wb wl 3) (we wl 3))), (2, .int (nV (g 0) (wb wl 1) (we wl 1))), (0, .ref h), (1, .int 0)] := hl
                  refine xlab (σ := Nat) (ml := 8) 163 (fun (i : Nat) => [(6, .int (nI i)), (0, .ref h), (1, .int 0), (3, .int (nV (g 0) (wb wl 3) (we wl 3))), (5, .int (nI z74))]) (fun (i : Nat) => []) (fun (i : Nat) => moW h mm kA v g) (fun (i : Nat) => (3 * z74 ≤ i) ∧ (i ≤ 3 * z74 + 3) ∧ (∀ j, 3 * z74 ≤ j → j < i → ¬ g 7 j = (nV (g 0) (wb wl 3) (we wl 3)) ∧ ¬ g 7 j = 0)) (fun (i : Nat) => 3 * z74 + 3 - i) ?_ (3 * z74) _ _ _ (lv_sub hl [0, 5, 6, 3, 1] rfl) hP hD hS ⟨(show 3 * z74 ≤ (3 * z74) from by first | assumption | omega), (show (3 * z74) ≤ 3 * z74 + 3 from by first | assumption | omega), (show ∀ j, 3 * z74 ≤ j → j < (3 * z74) → ¬ g 7 j = (nV (g 0) (wb wl 3) (we wl 3)) ∧ ¬ g 7 j = 0 from fun j a9 b9 => absurd b9 (by omega))⟩
                  intro n9 ih90 a9 ls H locs hμ hl hP hD hS hI
                  subst hμ
                  obtain ⟨i, rfl⟩ : ∃ z, z = a9 := ⟨_, rfl⟩
                  obtain ⟨hi1, hi2, hno⟩ := hI
                  have hi1 : 3 * z74 ≤ i := hi1
                  have hi2 : i ≤ 3 * z74 + 3 := hi2
                  have hno : ∀ j, 3 * z74 ≤ j → j < i → ¬ g 7 j = (nV (g 0) (wb wl 3) (we wl 3)) ∧ ¬ g 7 j = 0 := hno
                  have hl : lv_has ls 8 [(6, .int (nI i)), (0, .ref h), (1, .int 0), (3, .int (nV (g 0) (wb wl 3) (we wl 3))), (5, .int (nI z74))] := hl
                  have hP : va_P D xcl (moW h mm kA v g) H := hP
                  have hD : va_D A (moW h mm kA v g) := hD
                  refine lv_iload hx hb xd_Mo_shown_163 (lv_at hl 0 rfl) ?_
                  refine lv_iconst (v := 3) hx hb xd_Mo_shown_165 (by decide) ?_
                  refine lv_iload hx hb xd_Mo_shown_166 (lv_at hl 4 rfl) ?_
                  refine lv_imul hx hb xd_Mo_shown_168 ?_
                  refine xn_top (y := nI (3 * z74)) (pk_mul 3 z74) ?_
                  refine lv_iconst (v := 3) hx hb xd_Mo_shown_169 (by decide) ?_
                  refine lv_iadd hx hb xd_Mo_shown_170 ?_
                  refine xn_top (y := nI ((3 * z74) + 3)) (nI_add (3 * z74) 3) ?_
                  refine xn_ge (a := i) (b := (3 * z74) + 3) (tgt := 241) hx hb xd_Mo_shown_171 (by decide) (by omega) (by omega) (fun hc91 => ?_) (fun hc91 => ?_)
                  · refine lv_bipush (v := (-2)) hx hb xd_Mo_shown_241 (by decide) ?_
                    exact W.iret (v := (-2)) hx hb hr (fun t ht hW => ⟨⟨(-2), (v, g), rfl, ⟨hMI, rfl, Or.inr (Or.inl rfl), congrArg (Prod.mk v) ((gS_full (fun j hj => by rw [hn3]; exact hno (3 * z74 + j) (by omega) (by omega))).trans (lG_to (pI_some epk1 (by omega) z75 z76 (z77.trans hn1.symm) (fun j a9 b9 q => z78 j a9 b9 (q.trans hn1))) ⟨Or.inr ⟨by omega, ⟨by omega, (q_To (by omega)).mp z52⟩, fun q => hc60 (hn3.symm.trans q)⟩, fun q => hc58 (hn1.symm.trans q), by omega, z86⟩ (by omega) (by omega)))⟩, by rw [ht]; exact hP, hD⟩, hS.F ht⟩) hS.2.2 xd_Mo_shown_243
                  · refine lv_iload_n hx hb xd_Mo_shown_174 rfl (lv_at hl 2 rfl) ?_
                    refine xz_eq (a := 0) (tgt := 188) hx hb xd_Mo_shown_175 (by decide) (by omega) (fun _ => ?_) (fun hc92 => absurd hc92 (by omega))
                    refine lv_aload_n hx hb xd_Mo_shown_188 rfl (lv_at hl 1 rfl) ?_
                    refine va_get (D := D) (ci := 4) (v := .ref (mm 7)) (C := xR_Mo) (T := xT_Mo) (N := 31) hx hb hT xi_Mo hown hK.1 hP 0 rfl rfl 12 (by decide) (hT _ k4c_25) (fun _ h9 => h9) rfl xd_Mo_shown_189 ?_
                    refine lv_iload hx hb xd_Mo_shown_192 (lv_at hl 0 rfl) ?_
                    refine xn_iald (i := i) hx hb hK.1 hP 8 0 rfl rfl (by omega) (by decide) xd_Mo_shown_194 ?_
                    refine lv_istore hx hb xd_Mo_shown_195 hl (Nat.le_of_ble_eq_true rfl) rfl (fun ls hl => ?_)
                    have hl : lv_has ls 8 [(7, .int (g 7 i)), (6, .int (nI i)), (0, .ref h), (1, .int 0), (3, .int (nV (g 0) (wb wl 3) (we wl 3))), (5, .int (nI z74))] := hl
                    refine lv_iload hx hb xd_Mo_shown_197 (lv_at hl 0 rfl) ?_
                    refine lv_iload_n hx hb xd_Mo_shown_199 rfl (lv_at hl 4 rfl) ?_
                    refine lv_icmp_ne (tgt := 205) hx hb xd_Mo_shown_200 (by decide) (fun hc93 => ?_) (fun hc93 => ?_)
                    · refine lv_iload hx hb xd_Mo_shown_205 (lv_at hl 0 rfl) ?_
                      refine lv_if_ne (tgt := 235) hx hb xd_Mo_shown_207 (by decide) (fun hc94 => ?_) (fun hc94 => ?_)
                      · refine lv_iinc (k := 1) (x := (nI i)) (v := (nI (i + 1))) hx hb xd_Mo_shown_235 hl rfl (xb_inc i 1) (Nat.le_of_ble_eq_true rfl) rfl (fun ls hl => ?_)
                        have hl : lv_has ls 8 [(6, .int (nI (i + 1))), (7, .int (g 7 i)), (0, .ref h), (1, .int 0), (3, .int (nV (g 0) (wb wl 3) (we wl 3))), (5, .int (nI z74))] := hl
                        refine lv_goto (tgt := 163) hx hb xd_Mo_shown_238 (by decide) ?_
                        exact ih90 (i + 1) _ _ _ (show 3 * z74 + 3 - (i + 1) < 3 * z74 + 3 - i by omega) (lv_sub hl [0, 2, 3, 4, 5] rfl) hP hD hS ⟨(show 3 * z74 ≤ (i + 1) from by first | assumption | omega), (show (i + 1) ≤ 3 * z74 + 3 from by first | assumption | omega), (show ∀ j, 3 * z74 ≤ j → j < (i + 1) → ¬ g 7 j = (nV (g 0) (wb wl 3) (we wl 3)) ∧ ¬ g 7 j = 0 from fun j a9 b9 => by
        rcases Nat.lt_or_ge j i with q | q
        · exact hno j a9 q
        · rw [show j = i by omega]; exact ⟨hc93, hc94⟩)⟩
                      · refine lv_iload_n hx hb xd_Mo_shown_210 rfl (lv_at hl 3 rfl) ?_
                        refine xz_eq (a := 0) (tgt := 225) hx hb xd_Mo_shown_211 (by decide) (by omega) (fun _ => ?_) (fun hc95 => absurd hc95 (by omega))
                        refine lv_aload_n hx hb xd_Mo_shown_225 rfl (lv_at hl 2 rfl) ?_
                        refine va_get (D := D) (ci := 4) (v := .ref (mm 7)) (C := xR_Mo) (T := xT_Mo) (N := 31) hx hb hT xi_Mo hown hK.1 hP 0 rfl rfl 12 (by decide) (hT _ k4c_25) (fun _ h9 => h9) rfl xd_Mo_shown_226 ?_
                        refine lv_iload hx hb xd_Mo_shown_229 (lv_at hl 1 rfl) ?_
                        refine lv_iload_n hx hb xd_Mo_shown_231 rfl (lv_at hl 4 rfl) ?_
                        refine xn_iast (i := i) hx hb hK.1 hP hD hS 8 0 rfl rfl (by omega) (by decide) xd_Mo_shown_232 (fun H locs hP hD hS => ?_)
                        have hP : va_P D xcl (moW h mm kA v (va_up g 7 (upd (g 7) i (nV (g 0) (wb wl 3) (we wl 3))))) H := hP
                        have hD : va_D A (moW h mm kA v (va_up g 7 (upd (g 7) i (nV (g 0) (wb wl 3) (we wl 3))))) := hD
                        refine lv_iconst (v := 2) hx hb xd_Mo_shown_233 (by decide) ?_
                        exact W.iret (v := 2) hx hb hr (fun t ht hW => ⟨⟨2, (v, (va_up g 7 (upd (g 7) i (nV (g 0) (wb wl 3) (we wl 3))))), rfl, ⟨MI_g rfl rfl rfl rfl rfl rfl rfl rfl hMI, rfl, Or.inr (Or.inr (Or.inr rfl)), congrArg (Prod.mk v) ((show va_up g 7 (upd (g 7) i (nV (g 0) (wb wl 3) (we wl 3))) = gS g 7 (3 * z74) (wN (g 0) wl 3) from by have q := gS_set (g := g) (a := 7) (b := 3 * z74) (k := i - 3 * z74) (to := wN (g 0) wl 3) (by omega) (by rw [show 3 * z74 + (i - 3 * z74) = i by omega]; exact hc94) (by rw [show 3 * z74 + (i - 3 * z74) = i by omega, hn3]; exact hc93) (fun j hj => by rw [hn3]; exact hno (3 * z74 + j) (by omega) (by omega)); rw [show 3 * z74 + (i - 3 * z74) = i by omega, hn3] at q; rw [hn3]; exact q).trans (lG_to (pI_some epk1 (by omega) z75 z76 (z77.trans hn1.symm) (fun j a9 b9 q => z78 j a9 b9 (q.trans hn1))) ⟨Or.inr ⟨by omega, ⟨by omega, (q_To (by omega)).mp z52⟩, fun q => hc60 (hn3.symm.trans q)⟩, fun q => hc58 (hn1.symm.trans q), by omega, z86⟩ (by omega) (by omega)))⟩, by rw [ht]; exact hP, hD⟩, hS.F ht⟩) hS.2.2 xd_Mo_shown_234
                    · refine lv_iconst (v := 2) hx hb xd_Mo_shown_203 (by decide) ?_
                      exact W.iret (v := 2) hx hb hr (fun t ht hW => ⟨⟨2, (v, g), rfl, ⟨hMI, rfl, Or.inr (Or.inr (Or.inr rfl)), congrArg (Prod.mk v) ((gS_same (k := i - 3 * z74) (by omega) (by rw [show 3 * z74 + (i - 3 * z74) = i by omega, hn3]; exact hc93) (fun j hj => by rw [hn3]; exact hno (3 * z74 + j) (by omega) (by omega))).trans (lG_to (pI_some epk1 (by omega) z75 z76 (z77.trans hn1.symm) (fun j a9 b9 q => z78 j a9 b9 (q.trans hn1))) ⟨Or.inr ⟨by omega, ⟨by omega, (q_To (by omega)).mp z52⟩, fun q => hc60 (hn3.symm.trans q)⟩, fun q => hc58 (hn1.symm.trans q), by omega, z86⟩ (by omega) (by omega)))⟩, by rw [ht]; exact hP, hD⟩, hS.F ht⟩) hS.2.2 xd_Mo_shown_204
              · refine lv_goto (tgt := 105) hx hb xd_Mo_shown_101 (by decide) ?_
                refine lv_istore hx hb xd_Mo_shown_105 hl (Nat.le_of_ble_eq_true rfl) rfl (fun ls hl => ?_)
                have hl : lv_has ls 8 [(5, .int (-1)), (4, .int (nI (nd - 1))), (3, .int (nV (g 0) (wb wl 3) (we wl 3))), (2, .int (nV (g 0) (wb wl 1) (we wl 1))), (0, .ref h), (1, .int 0)] := hl
                refine lv_iload hx hb xd_Mo_shown_107 (lv_at hl 0 rfl) ?_
                refine lv_if_ge (tgt := 114) hx hb xd_Mo_shown_109 (by decide) (fun hc96 => absurd hc96 (by decide)) (fun _ => ?_)
                refine lv_iconst (v := (-1)) hx hb xd_Mo_shown_112 (by decide) ?_
                exact W.iret (v := (-1)) hx hb hr (fun t ht hW => ⟨⟨(-1), (v, g), rfl, ⟨hMI, rfl, Or.inl rfl, congrArg (Prod.mk v) (lG_no2 (pI_none epk1 (by omega) (fun j a9 b9 q => z79 j a9 b9 (q.trans hn1))))⟩, by rw [ht]; exact hP, hD⟩, hS.F ht⟩) hS.2.2 xd_Mo_shown_113
          · refine lv_iconst (v := (-1)) hx hb xd_Mo_shown_79 (by decide) ?_
            exact W.iret (v := (-1)) hx hb hr (fun t ht hW => ⟨⟨(-1), (v, g), rfl, ⟨hMI, rfl, Or.inl rfl, congrArg (Prod.mk v) (lG_no1 (fun q => q.1.elim (fun z => absurd z (by omega)) (fun z => z.2.2 ((wN_in (by omega)).trans hc60))))⟩, by rw [ht]; exact hP, hD⟩, hS.F ht⟩) hS.2.2 xd_Mo_shown_80
      · refine xz_eq (a := 0) (tgt := 61) hx hb xd_Mo_shown_50 (by decide) (by omega) (fun _ => ?_) (fun hc97 => absurd hc97 (by omega))
        refine lv_iconst (v := 0) hx hb xd_Mo_shown_61 (by decide) ?_
        refine lv_istore_n hx hb xd_Mo_shown_62 rfl hl (Nat.le_of_ble_eq_true rfl) rfl (fun ls hl => ?_)
        have hl : lv_has ls 8 [(3, .int 0), (2, .int (nV (g 0) (wb wl 1) (we wl 1))), (0, .ref h), (1, .int 0)] := hl
        refine lv_iload_n hx hb xd_Mo_shown_63 rfl (lv_at hl 1 rfl) ?_
        refine lv_if_eq (tgt := 79) hx hb xd_Mo_shown_64 (by decide) (fun hc98 => ?_) (fun hc98 => ?_)
        · refine lv_iconst (v := (-1)) hx hb xd_Mo_shown_79 (by decide) ?_
          exact W.iret (v := (-1)) hx hb hr (fun t ht hW => ⟨⟨(-1), (v, g), rfl, ⟨hMI, rfl, Or.inl rfl, congrArg (Prod.mk v) (lG_no1 (fun q => q.2.1 ((wN_in (by omega)).trans hc98)))⟩, by rw [ht]; exact hP, hD⟩, hS.F ht⟩) hS.2.2 xd_Mo_shown_80
        · refine lv_aload_n hx hb xd_Mo_shown_67 rfl (lv_at hl 2 rfl) ?_
          refine va_get (D := D) (ci := 4) (v := .int (v 3)) (C := xR_Mo) (T := xT_Mo) (N := 31) hx hb hT xi_Mo hown hK.1 hP 0 rfl rfl 4 (by decide) (hT _ k4c_2) (fun _ h9 => h9) rfl xd_Mo_shown_68 ?_
          refine xn_top (x := (v 3)) (y := nI wl.length) hwn ?_
          refine lv_iconst (v := 4) hx hb xd_Mo_shown_71 (by decide) ?_
          refine xn_ne (a := wl.length) (b := 4) (tgt := 81) hx hb xd_Mo_shown_72 (by decide) (by omega) (by omega) (fun hc99 => absurd hc99 (by omega)) (fun _ => ?_)
          refine lv_iload_n hx hb xd_Mo_shown_75 rfl (lv_at hl 0 rfl) ?_
          refine xz_ne (a := 0) (tgt := 81) hx hb xd_Mo_shown_76 (by decide) (by omega) (fun hc100 => absurd hc100 (by omega)) (fun _ => ?_)
          refine lv_iconst (v := (-1)) hx hb xd_Mo_shown_79 (by decide) ?_
          exact W.iret (v := (-1)) hx hb hr (fun t ht hW => ⟨⟨(-1), (v, g), rfl, ⟨hMI, rfl, Or.inl rfl, congrArg (Prod.mk v) (lG_no1 (fun q => q.1.elim (fun z => absurd z (by omega)) (fun z => z53 ((q_To (by omega)).mpr z.2.1.2))))⟩, by rw [ht]; exact hP, hD⟩, hS.F ht⟩) hS.2.2 xd_Mo_shown_80
set_option maxHeartbeats 4000000 in
set_option maxRecDepth 100000 in
theorem xc_Mo_shown1X (l : Launch) (D : va_G) (kA : Nat → ClassId) (sz h : Nat) (mm : Nat → Nat) (v : Nat → Int32) (g : Nat → Nat → Int32) (wl : List (Nat × Nat)) (nd : Nat) (hMI : MI v g) (hWX : WX v g wl) (hnd : v 4 = nI nd) (hnd12 : nd ≤ 12) : Met l xy_Mo_shown (.code xy_Mo_shown xb_Mo_shown 8 (some .int) :: wT) { frames := 2, cells := 0, slots := 0, locals := 49 } (va_Pc [.ref h, .int 1] (xPre D kA sz (moW h mm kA v g))) (va_Qi (fun (r : Int32) (u : (Nat → Int32) × (Nat → Nat → Int32)) => MI u.1 u.2 ∧ u.1 2 = v 2 ∧ (r = -1 ∨ r = -2 ∨ r = 1 ∨ r = 2) ∧ u = (v, lG 8 10 (g 0) wl nd g)) (fun (u : (Nat → Int32) × (Nat → Nat → Int32)) t => va_P D xcl (moW h mm kA u.1 u.2) t.heap ∧ va_D (va_A (moW h mm kA v g) sz) (moW h mm kA u.1 u.2)) (va_A (moW h mm kA v g) sz)) 0 0 (va_A (moW h mm kA v g) sz) := by
  refine Met.ofW (cc := xb_Mo_shown) (maxL := 8) (ret := (some .int)) (by decide) rfl ?_
  intro p e s m args below meth c s₁ B hml hv
  obtain ⟨rfl, hsz, hP, hK, hD0⟩ := hv
  have hx := B.exec
  have hb := B.bytes
  have hr := B.returns
  have hT := x_hT B.pre
  have hown : s.vm.findClass xR_Mo = some m.cls := findClass_of_methodNamed B.named
  have hlocks := B.notSynchronized
  subst hsz
  have hD := hD0.self (sz := s.heap.size)
  generalize hAe : va_A (moW h mm kA v g) s.heap.size = A at hD ⊢
  have hA : ∀ q : Nat, s.heap.size ≤ q → A q := fun q h => by rw [← hAe]; exact Or.inr h
  have hS : va_S A s.heap s.heap [] := va_S.rf
  have hl := lv_entry ([.ref h, .int 1]) (n := 8) (Nat.le_of_ble_eq_true rfl)
  rw [lg_entry_eq]
  generalize (lg_sl ([.ref h, .int 1]) ++ List.replicate (8 - (lg_sl ([.ref h, .int 1])).length) Slot.unset).toArray = ls at hl ⊢
  have hl : lv_has ls 8 [(0, .ref h), (1, .int 1)] := hl
  have hP : va_P D xcl (moW h mm kA v g) s.heap := hP
  obtain ⟨-, ⟨nl, hnl5, hnl, hpar⟩, hch, hpk, hrq, hmd, huq⟩ := id hMI
  obtain ⟨hwn, ⟨hwn20, hwlr⟩, hws⟩ := id hWX
  refine lv_aload_n hx hb xd_Mo_shown_0 rfl (lv_at hl 0 rfl) ?_
  refine va_get (D := D) (ci := 4) (v := .int (v 3)) (C := xR_Mo) (T := xT_Mo) (N := 31) hx hb hT xi_Mo hown hK.1 hP 0 rfl rfl 4 (by decide) (hT _ k4c_2) (fun _ h9 => h9) rfl xd_Mo_shown_1 ?_
  refine xn_top (x := (v 3)) (y := nI wl.length) hwn ?_
  refine lv_iconst (v := 2) hx hb xd_Mo_shown_4 (by decide) ?_
  refine xn_eq (a := wl.length) (b := 2) (tgt := 16) hx hb xd_Mo_shown_5 (by decide) (by omega) (by omega) (fun hc1 => ?_) (fun hc1 => ?_)
  · have hbe1 := (hwlr 1 (by omega)).1
    have he1 := (hwlr 1 (by omega)).2
    have eb1 := (hws 1 (by omega)).1
    have ee1 := (hws 1 (by omega)).2
    refine lv_aload_n hx hb xd_Mo_shown_16 rfl (lv_at hl 0 rfl) ?_
    refine lv_iconst (v := 1) hx hb xd_Mo_shown_17 (by decide) ?_
    have hFc := va_free (wc := (moW h mm kA v g)) hD hS hA [0, 1, 2, 3, 4, 5, 6, 7, 8, 9, 10, 11, 12, 13, 14, 15, 16, 17, 18, 19, 20, 21, 22, 23, 24, 25] rfl
    refine va_calli (va_runV (As := [.int 1]) (rest := []) ⟨hx, hb, hml, hown, hT⟩ (xc_Mo_nameOfX l D kA s.heap.size h mm v g 1 (wb wl 1) (we wl 1) (by first | assumption | omega) (by first | assumption | omega) (by first | assumption | omega) (by first | assumption | omega) (by first | assumption | omega)) (cwV 1 hT (wT_V k4c_4 k4c_5 k4c_6 k4c_7 k4c_3) rfl rfl rfl (by decide +kernel) ⟨Nat.le_of_ble_eq_true rfl, Nat.le_of_ble_eq_true rfl⟩) (x_preV hK hP hD 0 rfl rfl) rfl rfl hl.1 rfl (lv_room (Nat.le_of_ble_eq_true rfl)) xd_Mo_shown_18 ⟨Nat.le_of_ble_eq_true rfl, Nat.le_of_ble_eq_true rfl⟩) hS (fun q _ h => hFc q h) hFc (fun r2 u3 t H1 locs ht hvm hp4 hB hz1 hk1 hS => ?_)
    obtain ⟨hP1, hD1⟩ := hB
    rw [ht] at hP1
    have hD1 := hD1.weaken (fun _ _ _ h => hFc _ h)
    generalize H1 = H at hP1 hS ⊢
    have hP := hP1
    have hD := hD1
    have hP : va_P D xcl (moW h mm kA v g) H := hP
    have hD : va_D A (moW h mm kA v g) := hD
    have hp4 : r2 = nV (g 0) (wb wl 1) (we wl 1) := hp4
    subst hp4
    have hP : va_P D xcl (moW h mm kA v g) H := hP
    have hD : va_D A (moW h mm kA v g) := hD
    refine lv_goto (tgt := 25) hx hb xd_Mo_shown_21 (by decide) ?_
    refine lv_istore_n hx hb xd_Mo_shown_25 rfl hl (Nat.le_of_ble_eq_true rfl) rfl (fun ls hl => ?_)
    have hl : lv_has ls 8 [(2, .int (nV (g 0) (wb wl 1) (we wl 1))), (0, .ref h), (1, .int 1)] := hl
    refine lv_aload_n hx hb xd_Mo_shown_26 rfl (lv_at hl 1 rfl) ?_
    refine va_get (D := D) (ci := 4) (v := .int (v 3)) (C := xR_Mo) (T := xT_Mo) (N := 31) hx hb hT xi_Mo hown hK.1 hP 0 rfl rfl 4 (by decide) (hT _ k4c_2) (fun _ h9 => h9) rfl xd_Mo_shown_27 ?_
    refine xn_top (x := (v 3)) (y := nI wl.length) hwn ?_
    refine lv_iconst (v := 4) hx hb xd_Mo_shown_30 (by decide) ?_
    refine xn_ne (a := wl.length) (b := 4) (tgt := 61) hx hb xd_Mo_shown_31 (by decide) (by omega) (by omega) (fun _ => ?_) (fun hc5 => absurd hc5 (by omega))
    refine lv_iconst (v := 0) hx hb xd_Mo_shown_61 (by decide) ?_
    refine lv_istore_n hx hb xd_Mo_shown_62 rfl hl (Nat.le_of_ble_eq_true rfl) rfl (fun ls hl => ?_)
    have hl : lv_has ls 8 [(3, .int 0), (2, .int (nV (g 0) (wb wl 1) (we wl 1))), (0, .ref h), (1, .int 1)] := hl
    refine lv_iload_n hx hb xd_Mo_shown_63 rfl (lv_at hl 1 rfl) ?_
    refine lv_if_eq (tgt := 79) hx hb xd_Mo_shown_64 (by decide) (fun hc6 => ?_) (fun hc6 => ?_)
    · refine lv_iconst (v := (-1)) hx hb xd_Mo_shown_79 (by decide) ?_
      exact W.iret (v := (-1)) hx hb hr (fun t ht hW => ⟨⟨(-1), (v, g), rfl, ⟨hMI, rfl, Or.inl rfl, congrArg (Prod.mk v) (lG_no1 (fun q => q.2.1 ((wN_in (by omega)).trans hc6)))⟩, by rw [ht]; exact hP, hD⟩, hS.F ht⟩) hS.2.2 xd_Mo_shown_80
    · refine lv_aload_n hx hb xd_Mo_shown_67 rfl (lv_at hl 2 rfl) ?_
      refine va_get (D := D) (ci := 4) (v := .int (v 3)) (C := xR_Mo) (T := xT_Mo) (N := 31) hx hb hT xi_Mo hown hK.1 hP 0 rfl rfl 4 (by decide) (hT _ k4c_2) (fun _ h9 => h9) rfl xd_Mo_shown_68 ?_
      refine xn_top (x := (v 3)) (y := nI wl.length) hwn ?_
      refine lv_iconst (v := 4) hx hb xd_Mo_shown_71 (by decide) ?_
      refine xn_ne (a := wl.length) (b := 4) (tgt := 81) hx hb xd_Mo_shown_72 (by decide) (by omega) (by omega) (fun _ => ?_) (fun hc7 => absurd hc7 (by omega))
      rcases Nat.eq_zero_or_pos nd with hz | hz
      · have hnd0 : v 4 = nI 0 := by rw [hnd, hz]
        have hn1 : wN (g 0) wl 1 = nV (g 0) (wb wl 1) (we wl 1) := wN_in (by omega)
        refine lv_aload_n hx hb xd_Mo_shown_81 rfl (lv_at hl 2 rfl) ?_
        refine va_get (D := D) (ci := 4) (v := .int (v 4)) (C := xR_Mo) (T := xT_Mo) (N := 31) hx hb hT xi_Mo hown hK.1 hP 0 rfl rfl 7 (by decide) (hT _ k4c_8) (fun _ h9 => h9) rfl xd_Mo_shown_82 ?_
        refine xn_top (x := (v 4)) (y := nI 0) hnd0 ?_
        refine lv_iconst (v := 1) hx hb xd_Mo_shown_85 (by decide) ?_
        refine lv_isub hx hb xd_Mo_shown_86 ?_
        refine lv_istore hx hb xd_Mo_shown_87 hl (Nat.le_of_ble_eq_true rfl) rfl (fun ls hl => ?_)
        have hl : lv_has ls 8 [(4, .int ((nI 0) - 1)), (3, .int 0), (2, .int (nV (g 0) (wb wl 1) (we wl 1))), (0, .ref h), (1, .int 1)] := hl
        refine lv_iload hx hb xd_Mo_shown_89 (lv_at hl 0 rfl) ?_
        refine lv_if_lt (tgt := 104) hx hb xd_Mo_shown_91 (by decide) (fun _ => ?_) (fun hc8 => absurd hc8 (by decide))
        refine lv_iconst (v := 0) hx hb xd_Mo_shown_104 (by decide) ?_
        refine lv_istore hx hb xd_Mo_shown_105 hl (Nat.le_of_ble_eq_true rfl) rfl (fun ls hl => ?_)
        have hl : lv_has ls 8 [(5, .int 0), (4, .int ((nI 0) - 1)), (3, .int 0), (2, .int (nV (g 0) (wb wl 1) (we wl 1))), (0, .ref h), (1, .int 1)] := hl
        refine lv_iload hx hb xd_Mo_shown_107 (lv_at hl 0 rfl) ?_
        refine xz_ge (a := 0) (tgt := 114) hx hb xd_Mo_shown_109 (by decide) (by omega) ?_
        refine lv_aload_n hx hb xd_Mo_shown_114 rfl (lv_at hl 4 rfl) ?_
        have hFc := va_free (wc := (moW h mm kA v g)) hD hS hA [0, 1, 2, 3, 4, 5, 6, 7, 8, 9, 10, 11, 12, 13, 14, 15, 16, 17, 18, 19, 20, 21, 22, 23, 24, 25] rfl
        refine va_calli (va_runV (As := []) (rest := []) ⟨hx, hb, hml, hown, hT⟩ (xc_Mo_isShut l D kA H.size h mm v g nd (by first | assumption | omega) (by first | assumption | omega)) (cwV 0 hT (wT_V k4c_10 k4c_11 k4c_12 k4c_7 k4c_9) rfl rfl rfl (by decide +kernel) ⟨Nat.le_of_ble_eq_true rfl, Nat.le_of_ble_eq_true rfl⟩) (x_preV hK hP hD 0 rfl rfl) rfl rfl hl.1 rfl (lv_room (Nat.le_of_ble_eq_true rfl)) xd_Mo_shown_115 ⟨Nat.le_of_ble_eq_true rfl, Nat.le_of_ble_eq_true rfl⟩) hS (fun q _ h => hFc q h) hFc (fun r10 u11 t H1 locs ht hvm hp12 hB hz1 hk1 hS => ?_)
        obtain ⟨hP1, hD1⟩ := hB
        rw [ht] at hP1
        have hD1 := hD1.weaken (fun _ _ _ h => hFc _ h)
        generalize H1 = H at hP1 hS ⊢
        have hP := hP1
        have hD := hD1
        have hP : va_P D xcl (moW h mm kA v g) H := hP
        have hD : va_D A (moW h mm kA v g) := hD
        rcases hp12 with ⟨rfl, z13⟩ | ⟨rfl, z14, z15⟩
        · refine xz_eq (a := 1) (tgt := 124) hx hb xd_Mo_shown_118 (by decide) (by omega) (fun hc16 => absurd hc16 (by omega)) (fun _ => ?_)
          refine lv_bipush (v := (-2)) hx hb xd_Mo_shown_121 (by decide) ?_
          exact W.iret (v := (-2)) hx hb hr (fun t ht hW => ⟨⟨(-2), (v, g), rfl, ⟨hMI, rfl, Or.inr (Or.inl rfl), congrArg (Prod.mk v) (lG_no1 (fun q => absurd q.2.2.1 (by omega)))⟩, by rw [ht]; exact hP, hD⟩, hS.F ht⟩) hS.2.2 xd_Mo_shown_123
        · exact absurd hz z14
      · have hn1 : wN (g 0) wl 1 = nV (g 0) (wb wl 1) (we wl 1) := wN_in (by omega)
        refine lv_aload_n hx hb xd_Mo_shown_81 rfl (lv_at hl 2 rfl) ?_
        refine va_get (D := D) (ci := 4) (v := .int (v 4)) (C := xR_Mo) (T := xT_Mo) (N := 31) hx hb hT xi_Mo hown hK.1 hP 0 rfl rfl 7 (by decide) (hT _ k4c_8) (fun _ h9 => h9) rfl xd_Mo_shown_82 ?_
        refine xn_top (x := (v 4)) (y := nI nd) hnd ?_
        refine lv_iconst (v := 1) hx hb xd_Mo_shown_85 (by decide) ?_
        refine lv_isub hx hb xd_Mo_shown_86 ?_
        refine xn_top (y := nI (nd - 1)) (pk_sub (a := nd) (b := 1) (by omega)) ?_
        refine lv_istore hx hb xd_Mo_shown_87 hl (Nat.le_of_ble_eq_true rfl) rfl (fun ls hl => ?_)
        have hl : lv_has ls 8 [(4, .int (nI (nd - 1))), (3, .int 0), (2, .int (nV (g 0) (wb wl 1) (we wl 1))), (0, .ref h), (1, .int 1)] := hl
        refine lv_iload hx hb xd_Mo_shown_89 (lv_at hl 0 rfl) ?_
        refine xz_lt (a := nd - 1) (tgt := 104) hx hb xd_Mo_shown_91 (by decide) (by omega) ?_
        obtain ⟨pk1, hpk1, epk1⟩ := hpk (nd - 1) (by omega)
        have hik : iN (g 5 (nd - 1)) = pk1 := by rw [epk1, iN_nI (by omega)]
        refine lv_aload_n hx hb xd_Mo_shown_94 rfl (lv_at hl 3 rfl) ?_
        refine lv_iload hx hb xd_Mo_shown_95 (lv_at hl 0 rfl) ?_
        refine lv_iload_n hx hb xd_Mo_shown_97 rfl (lv_at hl 2 rfl) ?_
        have hFc := va_free (wc := (moW h mm kA v g)) hD hS hA [0, 1, 2, 3, 4, 5, 6, 7, 8, 9, 10, 11, 12, 13, 14, 15, 16, 17, 18, 19, 20, 21, 22, 23, 24, 25] rfl
        refine va_calli (va_runV (As := [.int (nI (nd - 1)), .int (nV (g 0) (wb wl 1) (we wl 1))]) (rest := []) ⟨hx, hb, hml, hown, hT⟩ (xc_Mo_packageOfX l D kA H.size h mm v g (nd - 1) (nV (g 0) (wb wl 1) (we wl 1)) pk1 (by first | assumption | omega) (by first | assumption | omega) (by first | assumption | omega)) (cwV 2 hT (wT_V k4c_14 k4c_15 k4c_16 k4c_7 k4c_13) rfl rfl rfl (by decide +kernel) ⟨Nat.le_of_ble_eq_true rfl, Nat.le_of_ble_eq_true rfl⟩) (x_preV hK hP hD 0 rfl rfl) rfl rfl hl.1 rfl (lv_room (Nat.le_of_ble_eq_true rfl)) xd_Mo_shown_98 ⟨Nat.le_of_ble_eq_true rfl, Nat.le_of_ble_eq_true rfl⟩) hS (fun q _ h => hFc q h) hFc (fun r18 u19 t H1 locs ht hvm hp20 hB hz1 hk1 hS => ?_)
        obtain ⟨hP1, hD1⟩ := hB
        rw [ht] at hP1
        have hD1 := hD1.weaken (fun _ _ _ h => hFc _ h)
        generalize H1 = H at hP1 hS ⊢
        have hP := hP1
        have hD := hD1
        have hP : va_P D xcl (moW h mm kA v g) H := hP
        have hD : va_D A (moW h mm kA v g) := hD
        rcases hp20 with ⟨z21, z22, z23, rfl, z24, z25⟩ | ⟨rfl, z26⟩
        · refine lv_goto (tgt := 105) hx hb xd_Mo_shown_101 (by decide) ?_
          refine lv_istore hx hb xd_Mo_shown_105 hl (Nat.le_of_ble_eq_true rfl) rfl (fun ls hl => ?_)
          have hl : lv_has ls 8 [(5, .int (nI z21)), (4, .int (nI (nd - 1))), (3, .int 0), (2, .int (nV (g 0) (wb wl 1) (we wl 1))), (0, .ref h), (1, .int 1)] := hl
          refine lv_iload hx hb xd_Mo_shown_107 (lv_at hl 0 rfl) ?_
          refine xz_ge (a := z21) (tgt := 114) hx hb xd_Mo_shown_109 (by decide) (by omega) ?_
          refine lv_aload_n hx hb xd_Mo_shown_114 rfl (lv_at hl 4 rfl) ?_
          have hFc := va_free (wc := (moW h mm kA v g)) hD hS hA [0, 1, 2, 3, 4, 5, 6, 7, 8, 9, 10, 11, 12, 13, 14, 15, 16, 17, 18, 19, 20, 21, 22, 23, 24, 25] rfl
          refine va_calli (va_runV (As := []) (rest := []) ⟨hx, hb, hml, hown, hT⟩ (xc_Mo_isShut l D kA H.size h mm v g nd (by first | assumption | omega) (by first | assumption | omega)) (cwV 0 hT (wT_V k4c_10 k4c_11 k4c_12 k4c_7 k4c_9) rfl rfl rfl (by decide +kernel) ⟨Nat.le_of_ble_eq_true rfl, Nat.le_of_ble_eq_true rfl⟩) (x_preV hK hP hD 0 rfl rfl) rfl rfl hl.1 rfl (lv_room (Nat.le_of_ble_eq_true rfl)) xd_Mo_shown_115 ⟨Nat.le_of_ble_eq_true rfl, Nat.le_of_ble_eq_true rfl⟩) hS (fun q _ h => hFc q h) hFc (fun r28 u29 t H1 locs ht hvm hp30 hB hz1 hk1 hS => ?_)
          obtain ⟨hP1, hD1⟩ := hB
          rw [ht] at hP1
          have hD1 := hD1.weaken (fun _ _ _ h => hFc _ h)
          generalize H1 = H at hP1 hS ⊢
          have hP := hP1
          have hD := hD1
          have hP : va_P D xcl (moW h mm kA v g) H := hP
          have hD : va_D A (moW h mm kA v g) := hD
          rcases hp30 with ⟨rfl, z31⟩ | ⟨rfl, z32, z33⟩
          · refine xz_eq (a := 1) (tgt := 124) hx hb xd_Mo_shown_118 (by decide) (by omega) (fun hc34 => absurd hc34 (by omega)) (fun _ => ?_)
            refine lv_bipush (v := (-2)) hx hb xd_Mo_shown_121 (by decide) ?_
            exact W.iret (v := (-2)) hx hb hr (fun t ht hW => ⟨⟨(-2), (v, g), rfl, ⟨hMI, rfl, Or.inr (Or.inl rfl), congrArg (Prod.mk v) (lG_no1 (fun q => z31.elim (fun z => absurd q.2.2.1 (by omega)) (fun z => z q.2.2.2)))⟩, by rw [ht]; exact hP, hD⟩, hS.F ht⟩) hS.2.2 xd_Mo_shown_123
          · refine xz_eq (a := 0) (tgt := 124) hx hb xd_Mo_shown_118 (by decide) (by omega) (fun _ => ?_) (fun hc35 => absurd hc35 (by omega))
            refine lv_aload_n hx hb xd_Mo_shown_124 rfl (lv_at hl 4 rfl) ?_
            refine va_get (D := D) (ci := 4) (v := .int (v 3)) (C := xR_Mo) (T := xT_Mo) (N := 31) hx hb hT xi_Mo hown hK.1 hP 0 rfl rfl 4 (by decide) (hT _ k4c_2) (fun _ h9 => h9) rfl xd_Mo_shown_125 ?_
            refine xn_top (x := (v 3)) (y := nI wl.length) hwn ?_
            refine lv_iconst (v := 2) hx hb xd_Mo_shown_128 (by decide) ?_
            refine xn_ne (a := wl.length) (b := 2) (tgt := 157) hx hb xd_Mo_shown_129 (by decide) (by omega) (by omega) (fun hc36 => absurd hc36 (by omega)) (fun _ => ?_)
            refine lv_iload_n hx hb xd_Mo_shown_132 rfl (lv_at hl 5 rfl) ?_
            refine xz_eq (a := 1) (tgt := 147) hx hb xd_Mo_shown_133 (by decide) (by omega) (fun hc37 => absurd hc37 (by omega)) (fun _ => ?_)
            refine lv_aload_n hx hb xd_Mo_shown_136 rfl (lv_at hl 4 rfl) ?_
            refine va_get (D := D) (ci := 4) (v := .ref (mm 10)) (C := xR_Mo) (T := xT_Mo) (N := 31) hx hb hT xi_Mo hown hK.1 hP 0 rfl rfl 15 (by decide) (hT _ k4c_26) (fun _ h9 => h9) rfl xd_Mo_shown_137 ?_
            refine lv_iload hx hb xd_Mo_shown_140 (lv_at hl 0 rfl) ?_
            refine lv_iconst (v := 1) hx hb xd_Mo_shown_142 (by decide) ?_
            refine xn_zast (i := z21) hx hb hK.1 hP hD hS 11 2 rfl rfl (by omega) (by decide) xd_Mo_shown_143 (fun H locs hP hD hS => ?_)
            have hP : va_P D xcl (moW h mm kA v (va_up g 10 (upd (g 10) z21 (vp_nar .boolean 1)))) H := hP
            have hD : va_D A (moW h mm kA v (va_up g 10 (upd (g 10) z21 (vp_nar .boolean 1)))) := hD
            refine lv_goto (tgt := 155) hx hb xd_Mo_shown_144 (by decide) ?_
            refine lv_iconst (v := 2) hx hb xd_Mo_shown_155 (by decide) ?_
            exact W.iret (v := 2) hx hb hr (fun t ht hW => ⟨⟨2, (v, (va_up g 10 (upd (g 10) z21 (vp_nar .boolean 1)))), rfl, ⟨MI_g rfl rfl rfl rfl rfl rfl rfl rfl hMI, rfl, Or.inr (Or.inr (Or.inr rfl)), congrArg (Prod.mk v) (lG_all (pI_some epk1 (by omega) z22 z23 (z24.trans hn1.symm) (fun j a9 b9 q => z25 j a9 b9 (q.trans hn1))) ⟨Or.inl (by omega), fun q => hc6 (hn1.symm.trans q), by omega, z33⟩ (by omega) (by omega) rfl)⟩, by rw [ht]; exact hP, hD⟩, hS.F ht⟩) hS.2.2 xd_Mo_shown_156
        · refine lv_goto (tgt := 105) hx hb xd_Mo_shown_101 (by decide) ?_
          refine lv_istore hx hb xd_Mo_shown_105 hl (Nat.le_of_ble_eq_true rfl) rfl (fun ls hl => ?_)
          have hl : lv_has ls 8 [(5, .int (-1)), (4, .int (nI (nd - 1))), (3, .int 0), (2, .int (nV (g 0) (wb wl 1) (we wl 1))), (0, .ref h), (1, .int 1)] := hl
          refine lv_iload hx hb xd_Mo_shown_107 (lv_at hl 0 rfl) ?_
          refine lv_if_ge (tgt := 114) hx hb xd_Mo_shown_109 (by decide) (fun hc38 => absurd hc38 (by decide)) (fun _ => ?_)
          refine lv_iconst (v := (-1)) hx hb xd_Mo_shown_112 (by decide) ?_
          exact W.iret (v := (-1)) hx hb hr (fun t ht hW => ⟨⟨(-1), (v, g), rfl, ⟨hMI, rfl, Or.inl rfl, congrArg (Prod.mk v) (lG_no2 (pI_none epk1 (by omega) (fun j a9 b9 q => z26 j a9 b9 (q.trans hn1))))⟩, by rw [ht]; exact hP, hD⟩, hS.F ht⟩) hS.2.2 xd_Mo_shown_113
  · refine lv_aload_n hx hb xd_Mo_shown_8 rfl (lv_at hl 0 rfl) ?_
    refine va_get (D := D) (ci := 4) (v := .int (v 3)) (C := xR_Mo) (T := xT_Mo) (N := 31) hx hb hT xi_Mo hown hK.1 hP 0 rfl rfl 4 (by decide) (hT _ k4c_2) (fun _ h9 => h9) rfl xd_Mo_shown_9 ?_
    refine xn_top (x := (v 3)) (y := nI wl.length) hwn ?_
    refine lv_iconst (v := 4) hx hb xd_Mo_shown_12 (by decide) ?_
    refine xn_ne (a := wl.length) (b := 4) (tgt := 24) hx hb xd_Mo_shown_13 (by decide) (by omega) (by omega) (fun hc39 => ?_) (fun hc39 => ?_)
    · refine lv_iconst (v := 0) hx hb xd_Mo_shown_24 (by decide) ?_
      refine lv_istore_n hx hb xd_Mo_shown_25 rfl hl (Nat.le_of_ble_eq_true rfl) rfl (fun ls hl => ?_)
      have hl : lv_has ls 8 [(2, .int 0), (0, .ref h), (1, .int 1)] := hl
      refine lv_aload_n hx hb xd_Mo_shown_26 rfl (lv_at hl 1 rfl) ?_
      refine va_get (D := D) (ci := 4) (v := .int (v 3)) (C := xR_Mo) (T := xT_Mo) (N := 31) hx hb hT xi_Mo hown hK.1 hP 0 rfl rfl 4 (by decide) (hT _ k4c_2) (fun _ h9 => h9) rfl xd_Mo_shown_27 ?_
      refine xn_top (x := (v 3)) (y := nI wl.length) hwn ?_
      refine lv_iconst (v := 4) hx hb xd_Mo_shown_30 (by decide) ?_
      refine xn_ne (a := wl.length) (b := 4) (tgt := 61) hx hb xd_Mo_shown_31 (by decide) (by omega) (by omega) (fun _ => ?_) (fun hc40 => absurd hc40 (by omega))
      refine lv_iconst (v := 0) hx hb xd_Mo_shown_61 (by decide) ?_
      refine lv_istore_n hx hb xd_Mo_shown_62 rfl hl (Nat.le_of_ble_eq_true rfl) rfl (fun ls hl => ?_)
      have hl : lv_has ls 8 [(3, .int 0), (2, .int 0), (0, .ref h), (1, .int 1)] := hl
      refine lv_iload_n hx hb xd_Mo_shown_63 rfl (lv_at hl 1 rfl) ?_
      refine xz_eq (a := 0) (tgt := 79) hx hb xd_Mo_shown_64 (by decide) (by omega) (fun _ => ?_) (fun hc41 => absurd hc41 (by omega))
      refine lv_iconst (v := (-1)) hx hb xd_Mo_shown_79 (by decide) ?_
      exact W.iret (v := (-1)) hx hb hr (fun t ht hW => ⟨⟨(-1), (v, g), rfl, ⟨hMI, rfl, Or.inl rfl, congrArg (Prod.mk v) (lG_no1 (fun q => q.1.elim (fun z => absurd z (by omega)) (fun z => absurd z.1 (by omega))))⟩, by rw [ht]; exact hP, hD⟩, hS.F ht⟩) hS.2.2 xd_Mo_shown_80
    · have hbe1 := (hwlr 1 (by omega)).1
      have he1 := (hwlr 1 (by omega)).2
      have eb1 := (hws 1 (by omega)).1
      have ee1 := (hws 1 (by omega)).2
      refine lv_aload_n hx hb xd_Mo_shown_16 rfl (lv_at hl 0 rfl) ?_
      refine lv_iconst (v := 1) hx hb xd_Mo_shown_17 (by decide) ?_
      have hFc := va_free (wc := (moW h mm kA v g)) hD hS hA [0, 1, 2, 3, 4, 5, 6, 7, 8, 9, 10, 11, 12, 13, 14, 15, 16, 17, 18, 19, 20, 21, 22, 23, 24, 25] rfl
      refine va_calli (va_runV (As := [.int 1]) (rest := []) ⟨hx, hb, hml, hown, hT⟩ (xc_Mo_nameOfX l D kA s.heap.size h mm v g 1 (wb wl 1) (we wl 1) (by first | assumption | omega) (by first | assumption | omega) (by first | assumption | omega) (by first | assumption | omega) (by first | assumption | omega)) (cwV 1 hT (wT_V k4c_4 k4c_5 k4c_6 k4c_7 k4c_3) rfl rfl rfl (by decide +kernel) ⟨Nat.le_of_ble_eq_true rfl, Nat.le_of_ble_eq_true rfl⟩) (x_preV hK hP hD 0 rfl rfl) rfl rfl hl.1 rfl (lv_room (Nat.le_of_ble_eq_true rfl)) xd_Mo_shown_18 ⟨Nat.le_of_ble_eq_true rfl, Nat.le_of_ble_eq_true rfl⟩) hS (fun q _ h => hFc q h) hFc (fun r42 u43 t H1 locs ht hvm hp44 hB hz1 hk1 hS => ?_)
      obtain ⟨hP1, hD1⟩ := hB
      rw [ht] at hP1
      have hD1 := hD1.weaken (fun _ _ _ h => hFc _ h)
      generalize H1 = H at hP1 hS ⊢
      have hP := hP1
      have hD := hD1
      have hP : va_P D xcl (moW h mm kA v g) H := hP
      have hD : va_D A (moW h mm kA v g) := hD
      have hp44 : r42 = nV (g 0) (wb wl 1) (we wl 1) := hp44
      subst hp44
      have hP : va_P D xcl (moW h mm kA v g) H := hP
      have hD : va_D A (moW h mm kA v g) := hD
      refine lv_goto (tgt := 25) hx hb xd_Mo_shown_21 (by decide) ?_
      refine lv_istore_n hx hb xd_Mo_shown_25 rfl hl (Nat.le_of_ble_eq_true rfl) rfl (fun ls hl => ?_)
      have hl : lv_has ls 8 [(2, .int (nV (g 0) (wb wl 1) (we wl 1))), (0, .ref h), (1, .int 1)] := hl
      refine lv_aload_n hx hb xd_Mo_shown_26 rfl (lv_at hl 1 rfl) ?_
      refine va_get (D := D) (ci := 4) (v := .int (v 3)) (C := xR_Mo) (T := xT_Mo) (N := 31) hx hb hT xi_Mo hown hK.1 hP 0 rfl rfl 4 (by decide) (hT _ k4c_2) (fun _ h9 => h9) rfl xd_Mo_shown_27 ?_
      refine xn_top (x := (v 3)) (y := nI wl.length) hwn ?_
      refine lv_iconst (v := 4) hx hb xd_Mo_shown_30 (by decide) ?_
      refine xn_ne (a := wl.length) (b := 4) (tgt := 61) hx hb xd_Mo_shown_31 (by decide) (by omega) (by omega) (fun hc45 => absurd hc45 (by omega)) (fun _ => ?_)
      have hbe2 := (hwlr 2 (by omega)).1
      have he2 := (hwlr 2 (by omega)).2
      have eb2 := (hws 2 (by omega)).1
      have ee2 := (hws 2 (by omega)).2
      have hbe3 := (hwlr 3 (by omega)).1
      have he3 := (hwlr 3 (by omega)).2
      have eb3 := (hws 3 (by omega)).1
      have ee3 := (hws 3 (by omega)).2
      refine lv_aload_n hx hb xd_Mo_shown_34 rfl (lv_at hl 1 rfl) ?_
      refine lv_iconst (v := 2) hx hb xd_Mo_shown_35 (by decide) ?_
      refine lv_bipush (v := 116) hx hb xd_Mo_shown_36 (by decide) ?_
      refine lv_bipush (v := 111) hx hb xd_Mo_shown_38 (by decide) ?_
      refine lv_iconst (v := 0) hx hb xd_Mo_shown_40 (by decide) ?_
      refine lv_iconst (v := 0) hx hb xd_Mo_shown_41 (by decide) ?_
      refine lv_iconst (v := 0) hx hb xd_Mo_shown_42 (by decide) ?_
      have hFc := va_free (wc := (moW h mm kA v g)) hD hS hA [0, 1, 2, 3, 4, 5, 6, 7, 8, 9, 10, 11, 12, 13, 14, 15, 16, 17, 18, 19, 20, 21, 22, 23, 24, 25] rfl
      refine va_calli (va_runS (As := [.int 116, .int 111, .int 0, .int 0, .int 0]) (rest := [.int 2, .ref h]) ⟨hx, hb, hml, hown, hT⟩ (xc_Mo_codeX l D kA H.size h mm v g 116 111 0 0 0) (cwS 5 hT (wT_S0 k4c_19 k4c_20 k4c_7 k4c_18) rfl rfl rfl (by decide +kernel) ⟨Nat.le_of_ble_eq_true rfl, Nat.le_of_ble_eq_true rfl⟩) (x_preS hK hP hD) rfl rfl hl.1 rfl (lv_room (Nat.le_of_ble_eq_true rfl)) xd_Mo_shown_43 ⟨Nat.le_of_ble_eq_true rfl, Nat.le_of_ble_eq_true rfl⟩) hS (fun q _ h => hFc q h) hFc (fun r46 u47 t H1 locs ht hvm hp48 hB hz1 hk1 hS => ?_)
      obtain ⟨hP1, hD1⟩ := hB
      rw [ht] at hP1
      have hD1 := hD1.weaken (fun _ _ _ h => hFc _ h)
      generalize H1 = H at hP1 hS ⊢
      have hP := hP1
      have hD := hD1
      have hP : va_P D xcl (moW h mm kA v g) H := hP
      have hD : va_D A (moW h mm kA v g) := hD
      have hp48 : r46 = cdV 116 111 0 0 0 := hp48
      subst hp48
      have hP : va_P D xcl (moW h mm kA v g) H := hP
      have hD : va_D A (moW h mm kA v g) := hD
      refine lv_iconst (v := 0) hx hb xd_Mo_shown_46 (by decide) ?_
      have hFc := va_free (wc := (moW h mm kA v g)) hD hS hA [0, 1, 2, 3, 4, 5, 6, 7, 8, 9, 10, 11, 12, 13, 14, 15, 16, 17, 18, 19, 20, 21, 22, 23, 24, 25] rfl
      refine va_calli (va_runV (As := [.int 2, .int (cdV 116 111 0 0 0), .int 0]) (rest := []) ⟨hx, hb, hml, hown, hT⟩ (xc_Mo_saysX l D kA H.size h mm v g 2 (wb wl 2) (we wl 2) (cdV 116 111 0 0 0) 0 (by first | assumption | omega) (by first | assumption | omega) (by first | assumption | omega) (by first | assumption | omega) (by first | assumption | omega) (by first | assumption | omega)) (cwV 3 hT (wT_V k4c_22 k4c_23 k4c_24 k4c_7 k4c_21) rfl rfl rfl (by decide +kernel) ⟨Nat.le_of_ble_eq_true rfl, Nat.le_of_ble_eq_true rfl⟩) (x_preV hK hP hD 0 rfl rfl) rfl rfl hl.1 rfl (lv_room (Nat.le_of_ble_eq_true rfl)) xd_Mo_shown_47 ⟨Nat.le_of_ble_eq_true rfl, Nat.le_of_ble_eq_true rfl⟩) hS (fun q _ h => hFc q h) hFc (fun r49 u50 t H1 locs ht hvm hp51 hB hz1 hk1 hS => ?_)
      obtain ⟨hP1, hD1⟩ := hB
      rw [ht] at hP1
      have hD1 := hD1.weaken (fun _ _ _ h => hFc _ h)
      generalize H1 = H at hP1 hS ⊢
      have hP := hP1
      have hD := hD1
      have hP : va_P D xcl (moW h mm kA v g) H := hP
      have hD : va_D A (moW h mm kA v g) := hD
      rcases hp51 with ⟨rfl, z52⟩ | ⟨rfl, z53⟩
      · refine xz_eq (a := 1) (tgt := 61) hx hb xd_Mo_shown_50 (by decide) (by omega) (fun hc54 => absurd hc54 (by omega)) (fun _ => ?_)
        refine lv_aload_n hx hb xd_Mo_shown_53 rfl (lv_at hl 1 rfl) ?_
        refine lv_iconst (v := 3) hx hb xd_Mo_shown_54 (by decide) ?_
        have hFc := va_free (wc := (moW h mm kA v g)) hD hS hA [0, 1, 2, 3, 4, 5, 6, 7, 8, 9, 10, 11, 12, 13, 14, 15, 16, 17, 18, 19, 20, 21, 22, 23, 24, 25] rfl
        refine va_calli (va_runV (As := [.int 3]) (rest := []) ⟨hx, hb, hml, hown, hT⟩ (xc_Mo_nameOfX l D kA H.size h mm v g 3 (wb wl 3) (we wl 3) (by first | assumption | omega) (by first | assumption | omega) (by first | assumption | omega) (by first | assumption | omega) (by first | assumption | omega)) (cwV 1 hT (wT_V k4c_4 k4c_5 k4c_6 k4c_7 k4c_3) rfl rfl rfl (by decide +kernel) ⟨Nat.le_of_ble_eq_true rfl, Nat.le_of_ble_eq_true rfl⟩) (x_preV hK hP hD 0 rfl rfl) rfl rfl hl.1 rfl (lv_room (Nat.le_of_ble_eq_true rfl)) xd_Mo_shown_55 ⟨Nat.le_of_ble_eq_true rfl, Nat.le_of_ble_eq_true rfl⟩) hS (fun q _ h => hFc q h) hFc (fun r55 u56 t H1 locs ht hvm hp57 hB hz1 hk1 hS => ?_)
        obtain ⟨hP1, hD1⟩ := hB
        rw [ht] at hP1
        have hD1 := hD1.weaken (fun _ _ _ h => hFc _ h)
        generalize H1 = H at hP1 hS ⊢
        have hP := hP1
        have hD := hD1
        have hP : va_P D xcl (moW h mm kA v g) H := hP
        have hD : va_D A (moW h mm kA v g) := hD
        have hp57 : r55 = nV (g 0) (wb wl 3) (we wl 3) := hp57
        subst hp57
        have hP : va_P D xcl (moW h mm kA v g) H := hP
        have hD : va_D A (moW h mm kA v g) := hD
        have hn3 : wN (g 0) wl 3 = nV (g 0) (wb wl 3) (we wl 3) := wN_in (by omega)
        refine lv_goto (tgt := 62) hx hb xd_Mo_shown_58 (by decide) ?_
        refine lv_istore_n hx hb xd_Mo_shown_62 rfl hl (Nat.le_of_ble_eq_true rfl) rfl (fun ls hl => ?_)
        have hl : lv_has ls 8 [(3, .int (nV (g 0) (wb wl 3) (we wl 3))), (2, .int (nV (g 0) (wb wl 1) (we wl 1))), (0, .ref h), (1, .int 1)] := hl
        refine lv_iload_n hx hb xd_Mo_shown_63 rfl (lv_at hl 1 rfl) ?_
        refine lv_if_eq (tgt := 79) hx hb xd_Mo_shown_64 (by decide) (fun hc58 => ?_) (fun hc58 => ?_)
        · refine lv_iconst (v := (-1)) hx hb xd_Mo_shown_79 (by decide) ?_
          exact W.iret (v := (-1)) hx hb hr (fun t ht hW => ⟨⟨(-1), (v, g), rfl, ⟨hMI, rfl, Or.inl rfl, congrArg (Prod.mk v) (lG_no1 (fun q => q.2.1 ((wN_in (by omega)).trans hc58)))⟩, by rw [ht]; exact hP, hD⟩, hS.F ht⟩) hS.2.2 xd_Mo_shown_80
        · refine lv_aload_n hx hb xd_Mo_shown_67 rfl (lv_at hl 2 rfl) ?_
          refine va_get (D := D) (ci := 4) (v := .int (v 3)) (C := xR_Mo) (T := xT_Mo) (N := 31) hx hb hT xi_Mo hown hK.1 hP 0 rfl rfl 4 (by decide) (hT _ k4c_2) (fun _ h9 => h9) rfl xd_Mo_shown_68 ?_
          refine xn_top (x := (v 3)) (y := nI wl.length) hwn ?_
          refine lv_iconst (v := 4) hx hb xd_Mo_shown_71 (by decide) ?_
          refine xn_ne (a := wl.length) (b := 4) (tgt := 81) hx hb xd_Mo_shown_72 (by decide) (by omega) (by omega) (fun hc59 => absurd hc59 (by omega)) (fun _ => ?_)
          refine lv_iload_n hx hb xd_Mo_shown_75 rfl (lv_at hl 0 rfl) ?_
          refine lv_if_ne (tgt := 81) hx hb xd_Mo_shown_76 (by decide) (fun hc60 => ?_) (fun hc60 => ?_)
          · rcases Nat.eq_zero_or_pos nd with hz | hz
            · have hnd0 : v 4 = nI 0 := by rw [hnd, hz]
              have hn1 : wN (g 0) wl 1 = nV (g 0) (wb wl 1) (we wl 1) := wN_in (by omega)
              refine lv_aload_n hx hb xd_Mo_shown_81 rfl (lv_at hl 2 rfl) ?_
              refine va_get (D := D) (ci := 4) (v := .int (v 4)) (C := xR_Mo) (T := xT_Mo) (N := 31) hx hb hT xi_Mo hown hK.1 hP 0 rfl rfl 7 (by decide) (hT _ k4c_8) (fun _ h9 => h9) rfl xd_Mo_shown_82 ?_
              refine xn_top (x := (v 4)) (y := nI 0) hnd0 ?_
              refine lv_iconst (v := 1) hx hb xd_Mo_shown_85 (by decide) ?_
              refine lv_isub hx hb xd_Mo_shown_86 ?_
              refine lv_istore hx hb xd_Mo_shown_87 hl (Nat.le_of_ble_eq_true rfl) rfl (fun ls hl => ?_)
              have hl : lv_has ls 8 [(4, .int ((nI 0) - 1)), (3, .int (nV (g 0) (wb wl 3) (we wl 3))), (2, .int (nV (g 0) (wb wl 1) (we wl 1))), (0, .ref h), (1, .int 1)] := hl
              refine lv_iload hx hb xd_Mo_shown_89 (lv_at hl 0 rfl) ?_
              refine lv_if_lt (tgt := 104) hx hb xd_Mo_shown_91 (by decide) (fun _ => ?_) (fun hc61 => absurd hc61 (by decide))
              refine lv_iconst (v := 0) hx hb xd_Mo_shown_104 (by decide) ?_
              refine lv_istore hx hb xd_Mo_shown_105 hl (Nat.le_of_ble_eq_true rfl) rfl (fun ls hl => ?_)
              have hl : lv_has ls 8 [(5, .int 0), (4, .int ((nI 0) - 1)), (3, .int (nV (g 0) (wb wl 3) (we wl 3))), (2, .int (nV (g 0) (wb wl 1) (we wl 1))), (0, .ref h), (1, .int 1)] := hl
              refine lv_iload hx hb xd_Mo_shown_107 (lv_at hl 0 rfl) ?_
              refine xz_ge (a := 0) (tgt := 114) hx hb xd_Mo_shown_109 (by decide) (by omega) ?_
              refine lv_aload_n hx hb xd_Mo_shown_114 rfl (lv_at hl 4 rfl) ?_
              have hFc := va_free (wc := (moW h mm kA v g)) hD hS hA [0, 1, 2, 3, 4, 5, 6, 7, 8, 9, 10, 11, 12, 13, 14, 15, 16, 17, 18, 19, 20, 21, 22, 23, 24, 25] rfl
              refine va_calli (va_runV (As := []) (rest := []) ⟨hx, hb, hml, hown, hT⟩ (xc_Mo_isShut l D kA H.size h mm v g nd (by first | assumption | omega) (by first | assumption | omega)) (cwV 0 hT (wT_V k4c_10 k4c_11 k4c_12 k4c_7 k4c_9) rfl rfl rfl (by decide +kernel) ⟨Nat.le_of_ble_eq_true rfl, Nat.le_of_ble_eq_true rfl⟩) (x_preV hK hP hD 0 rfl rfl) rfl rfl hl.1 rfl (lv_room (Nat.le_of_ble_eq_true rfl)) xd_Mo_shown_115 ⟨Nat.le_of_ble_eq_true rfl, Nat.le_of_ble_eq_true rfl⟩) hS (fun q _ h => hFc q h) hFc (fun r63 u64 t H1 locs ht hvm hp65 hB hz1 hk1 hS => ?_)
              obtain ⟨hP1, hD1⟩ := hB
              rw [ht] at hP1
              have hD1 := hD1.weaken (fun _ _ _ h => hFc _ h)
              generalize H1 = H at hP1 hS ⊢
              have hP := hP1
              have hD := hD1
              have hP : va_P D xcl (moW h mm kA v g) H := hP
              have hD : va_D A (moW h mm kA v g) := hD
              rcases hp65 with ⟨rfl, z66⟩ | ⟨rfl, z67, z68⟩
              · refine xz_eq (a := 1) (tgt := 124) hx hb xd_Mo_shown_118 (by decide) (by omega) (fun hc69 => absurd hc69 (by omega)) (fun _ => ?_)
                refine lv_bipush (v := (-2)) hx hb xd_Mo_shown_121 (by decide) ?_
                exact W.iret (v := (-2)) hx hb hr (fun t ht hW => ⟨⟨(-2), (v, g), rfl, ⟨hMI, rfl, Or.inr (Or.inl rfl), congrArg (Prod.mk v) (lG_no1 (fun q => absurd q.2.2.1 (by omega)))⟩, by rw [ht]; exact hP, hD⟩, hS.F ht⟩) hS.2.2 xd_Mo_shown_123
              · exact absurd hz z67
            · have hn1 : wN (g 0) wl 1 = nV (g 0) (wb wl 1) (we wl 1) := wN_in (by omega)
              refine lv_aload_n hx hb xd_Mo_shown_81 rfl (lv_at hl 2 rfl) ?_
              refine va_get (D := D) (ci := 4) (v := .int (v 4)) (C := xR_Mo) (T := xT_Mo) (N := 31) hx hb hT xi_Mo hown hK.1 hP 0 rfl rfl 7 (by decide) (hT _ k4c_8) (fun _ h9 => h9) rfl xd_Mo_shown_82 ?_
              refine xn_top (x := (v 4)) (y := nI nd) hnd ?_
              refine lv_iconst (v := 1) hx hb xd_Mo_shown_85 (by decide) ?_
              refine lv_isub hx hb xd_Mo_shown_86 ?_
              refine xn_top (y := nI (nd - 1)) (pk_sub (a := nd) (b := 1) (by omega)) ?_
              refine lv_istore hx hb xd_Mo_shown_87 hl (Nat.le_of_ble_eq_true rfl) rfl (fun ls hl => ?_)
              have hl : lv_has ls 8 [(4, .int (nI (nd - 1))), (3, .int (nV (g 0) (wb wl 3) (we wl 3))), (2, .int (nV (g 0) (wb wl 1) (we wl 1))), (0, .ref h), (1, .int 1)] := hl
              refine lv_iload hx hb xd_Mo_shown_89 (lv_at hl 0 rfl) ?_
              refine xz_lt (a := nd - 1) (tgt := 104) hx hb xd_Mo_shown_91 (by decide) (by omega) ?_
              obtain ⟨pk1, hpk1, epk1⟩ := hpk (nd - 1) (by omega)
              have hik : iN (g 5 (nd - 1)) = pk1 := by rw [epk1, iN_nI (by omega)]
              refine lv_aload_n hx hb xd_Mo_shown_94 rfl (lv_at hl 3 rfl) ?_
              refine lv_iload hx hb xd_Mo_shown_95 (lv_at hl 0 rfl) ?_
              refine lv_iload_n hx hb xd_Mo_shown_97 rfl (lv_at hl 2 rfl) ?_
              have hFc := va_free (wc := (moW h mm kA v g)) hD hS hA [0, 1, 2, 3, 4, 5, 6, 7, 8, 9, 10, 11, 12, 13, 14, 15, 16, 17, 18, 19, 20, 21, 22, 23, 24, 25] rfl
              refine va_calli (va_runV (As := [.int (nI (nd - 1)), .int (nV (g 0) (wb wl 1) (we wl 1))]) (rest := []) ⟨hx, hb, hml, hown, hT⟩ (xc_Mo_packageOfX l D kA H.size h mm v g (nd - 1) (nV (g 0) (wb wl 1) (we wl 1)) pk1 (by first | assumption | omega) (by first | assumption | omega) (by first | assumption | omega)) (cwV 2 hT (wT_V k4c_14 k4c_15 k4c_16 k4c_7 k4c_13) rfl rfl rfl (by decide +kernel) ⟨Nat.le_of_ble_eq_true rfl, Nat.le_of_ble_eq_true rfl⟩) (x_preV hK hP hD 0 rfl rfl) rfl rfl hl.1 rfl (lv_room (Nat.le_of_ble_eq_true rfl)) xd_Mo_shown_98 ⟨Nat.le_of_ble_eq_true rfl, Nat.le_of_ble_eq_true rfl⟩) hS (fun q _ h => hFc q h) hFc (fun r71 u72 t H1 locs ht hvm hp73 hB hz1 hk1 hS => ?_)
              obtain ⟨hP1, hD1⟩ := hB
              rw [ht] at hP1
              have hD1 := hD1.weaken (fun _ _ _ h => hFc _ h)
              generalize H1 = H at hP1 hS ⊢
              have hP := hP1
              have hD := hD1
              have hP : va_P D xcl (moW h mm kA v g) H := hP
              have hD : va_D A (moW h mm kA v g) := hD
              rcases hp73 with ⟨z74, z75, z76, rfl, z77, z78⟩ | ⟨rfl, z79⟩
              · refine lv_goto (tgt := 105) hx hb xd_Mo_shown_101 (by decide) ?_
                refine lv_istore hx hb xd_Mo_shown_105 hl (Nat.le_of_ble_eq_true rfl) rfl (fun ls hl => ?_)
                have hl : lv_has ls 8 [(5, .int (nI z74)), (4, .int (nI (nd - 1))), (3, .int (nV (g 0) (wb wl 3) (we wl 3))), (2, .int (nV (g 0) (wb wl 1) (we wl 1))), (0, .ref h), (1, .int 1)] := hl
                refine lv_iload hx hb xd_Mo_shown_107 (lv_at hl 0 rfl) ?_
                refine xz_ge (a := z74) (tgt := 114) hx hb xd_Mo_shown_109 (by decide) (by omega) ?_
                refine lv_aload_n hx hb xd_Mo_shown_114 rfl (lv_at hl 4 rfl) ?_
                have hFc := va_free (wc := (moW h mm kA v g)) hD hS hA [0, 1, 2, 3, 4, 5, 6, 7, 8, 9, 10, 11, 12, 13, 14, 15, 16, 17, 18, 19, 20, 21, 22, 23, 24, 25] rfl
                refine va_calli (va_runV (As := []) (rest := []) ⟨hx, hb, hml, hown, hT⟩ (xc_Mo_isShut l D kA H.size h mm v g nd (by first | assumption | omega) (by first | assumption | omega)) (cwV 0 hT (wT_V k4c_10 k4c_11 k4c_12 k4c_7 k4c_9) rfl rfl rfl (by decide +kernel) ⟨Nat.le_of_ble_eq_true rfl, Nat.le_of_ble_eq_true rfl⟩) (x_preV hK hP hD 0 rfl rfl) rfl rfl hl.1 rfl (lv_room (Nat.le_of_ble_eq_true rfl)) xd_Mo_shown_115 ⟨Nat.le_of_ble_eq_true rfl, Nat.le_of_ble_eq_true rfl⟩) hS (fun q _ h => hFc q h) hFc (fun r81 u82 t H1 locs ht hvm hp83 hB hz1 hk1 hS => ?_)
                obtain ⟨hP1, hD1⟩ := hB
                rw [ht] at hP1
                have hD1 := hD1.weaken (fun _ _ _ h => hFc _ h)
                generalize H1 = H at hP1 hS ⊢
                have hP := hP1
                have hD := hD1
                have hP : va_P D xcl (moW h mm kA v g) H := hP
                have hD : va_D A (moW h mm kA v g) := hD
                rcases hp83 with ⟨rfl, z84⟩ | ⟨rfl, z85, z86⟩
                · refine xz_eq (a := 1) (tgt := 124) hx hb xd_Mo_shown_118 (by decide) (by omega) (fun hc87 => absurd hc87 (by omega)) (fun _ => ?_)
                  refine lv_bipush (v := (-2)) hx hb xd_Mo_shown_121 (by decide) ?_
                  exact W.iret (v := (-2)) hx hb hr (fun t ht hW => ⟨⟨(-2), (v, g), rfl, ⟨hMI, rfl, Or.inr (Or.inl rfl), congrArg (Prod.mk v) (lG_no1 (fun q => z84.elim (fun z => absurd q.2.2.1 (by omega)) (fun z => z q.2.2.2)))⟩, by rw [ht]; exact hP, hD⟩, hS.F ht⟩) hS.2.2 xd_Mo_shown_123
                · refine xz_eq (a := 0) (tgt := 124) hx hb xd_Mo_shown_118 (by decide) (by omega) (fun _ => ?_) (fun hc88 => absurd hc88 (by omega))
                  refine lv_aload_n hx hb xd_Mo_shown_124 rfl (lv_at hl 4 rfl) ?_
                  refine va_get (D := D) (ci := 4) (v := .int (v 3)) (C := xR_Mo) (T := xT_Mo) (N := 31) hx hb hT xi_Mo hown hK.1 hP 0 rfl rfl 4 (by decide) (hT _ k4c_2) (fun _ h9 => h9) rfl xd_Mo_shown_125 ?_
                  refine xn_top (x := (v 3)) (y := nI wl.length) hwn ?_
                  refine lv_iconst (v := 2) hx hb xd_Mo_shown_128 (by decide) ?_
                  refine xn_ne (a := wl.length) (b := 2) (tgt := 157) hx hb xd_Mo_shown_129 (by decide) (by omega) (by omega) (fun _ => ?_) (fun hc89 => absurd hc89 (by omega))
                  refine lv_iconst (v := 3) hx hb xd_Mo_shown_157 (by decide) ?_
                  refine lv_iload hx hb xd_Mo_shown_158 (lv_at hl 0 rfl) ?_
                  refine lv_imul hx hb xd_Mo_shown_160 ?_
                  refine xn_top (y := nI (3 * z74)) (pk_mul 3 z74) ?_
                  refine lv_istore hx hb xd_Mo_shown_161 hl (Nat.le_of_ble_eq_true rfl) rfl (fun ls hl => ?_)
                  have hl : lv_has ls 8 [(6, .int (nI (3 * z74))), (5, .int (nI z74)), (4, .int (nI (nd - 1))), (3, .int (nV (g 0) (wb wl 3) (we wl 3))), (2, .int (nV (g 0) (wb wl 1) (we wl 1))), (0, .ref h), (1, .int 1)] := hl
                  refine xlab (σ := Nat) (ml := 8) 163 (fun (i : Nat) => [(6, .int (nI i)), (0, .ref h), (1, .int 1), (3, .int (nV (g 0) (wb wl 3) (we wl 3))), (5, .int (nI z74))]) (fun (i : Nat) => []) (fun (i : Nat) => moW h mm kA v g) (fun (i : Nat) => (3 * z74 ≤ i) ∧ (i ≤ 3 * z74 + 3) ∧ (∀ j, 3 * z74 ≤ j → j < i → ¬ g 8 j = (nV (g 0) (wb wl 3) (we wl 3)) ∧ ¬ g 8 j = 0)) (fun (i : Nat) => 3 * z74 + 3 - i) ?_ (3 * z74) _ _ _ (lv_sub hl [0, 5, 6, 3, 1] rfl) hP hD hS ⟨(show 3 * z74 ≤ (3 * z74) from by first | assumption | omega), (show (3 * z74) ≤ 3 * z74 + 3 from by first | assumption | omega), (show ∀ j, 3 * z74 ≤ j → j < (3 * z74) → ¬ g 8 j = (nV (g 0) (wb wl 3) (we wl 3)) ∧ ¬ g 8 j = 0 from fun j a9 b9 => absurd b9 (by omega))⟩
                  intro n9 ih90 a9 ls H locs hμ hl hP hD hS hI
                  subst hμ
                  obtain ⟨i, rfl⟩ : ∃ z, z = a9 := ⟨_, rfl⟩
                  obtain ⟨hi1, hi2, hno⟩ := hI
                  have hi1 : 3 * z74 ≤ i := hi1
                  have hi2 : i ≤ 3 * z74 + 3 := hi2
                  have hno : ∀ j, 3 * z74 ≤ j → j < i → ¬ g 8 j = (nV (g 0) (wb wl 3) (we wl 3)) ∧ ¬ g 8 j = 0 := hno
                  have hl : lv_has ls 8 [(6, .int (nI i)), (0, .ref h), (1, .int 1), (3, .int (nV (g 0) (wb wl 3) (we wl 3))), (5, .int (nI z74))] := hl
                  have hP : va_P D xcl (moW h mm kA v g) H := hP
                  have hD : va_D A (moW h mm kA v g) := hD
                  refine lv_iload hx hb xd_Mo_shown_163 (lv_at hl 0 rfl) ?_
                  refine lv_iconst (v := 3) hx hb xd_Mo_shown_165 (by decide) ?_
                  refine lv_iload hx hb xd_Mo_shown_166 (lv_at hl 4 rfl) ?_
                  refine lv_imul hx hb xd_Mo_shown_168 ?_
                  refine xn_top (y := nI (3 * z74)) (pk_mul 3 z74) ?_
                  refine lv_iconst (v := 3) hx hb xd_Mo_shown_169 (by decide) ?_
                  refine lv_iadd hx hb xd_Mo_shown_170 ?_
                  refine xn_top (y := nI ((3 * z74) + 3)) (nI_add (3 * z74) 3) ?_
                  refine xn_ge (a := i) (b := (3 * z74) + 3) (tgt := 241) hx hb xd_Mo_shown_171 (by decide) (by omega) (by omega) (fun hc91 => ?_) (fun hc91 => ?_)
                  · refine lv_bipush (v := (-2)) hx hb xd_Mo_shown_241 (by decide) ?_
                    exact W.iret (v := (-2)) hx hb hr (fun t ht hW => ⟨⟨(-2), (v, g), rfl, ⟨hMI, rfl, Or.inr (Or.inl rfl), congrArg (Prod.mk v) ((gS_full (fun j hj => by rw [hn3]; exact hno (3 * z74 + j) (by omega) (by omega))).trans (lG_to (pI_some epk1 (by omega) z75 z76 (z77.trans hn1.symm) (fun j a9 b9 q => z78 j a9 b9 (q.trans hn1))) ⟨Or.inr ⟨by omega, ⟨by omega, (q_To (by omega)).mp z52⟩, fun q => hc60 (hn3.symm.trans q)⟩, fun q => hc58 (hn1.symm.trans q), by omega, z86⟩ (by omega) (by omega)))⟩, by rw [ht]; exact hP, hD⟩, hS.F ht⟩) hS.2.2 xd_Mo_shown_243
                  · refine lv_iload_n hx hb xd_Mo_shown_174 rfl (lv_at hl 2 rfl) ?_
                    refine xz_eq (a := 1) (tgt := 188) hx hb xd_Mo_shown_175 (by decide) (by omega) (fun hc92 => absurd hc92 (by omega)) (fun _ => ?_)
                    refine lv_aload_n hx hb xd_Mo_shown_178 rfl (lv_at hl 1 rfl) ?_
                    refine va_get (D := D) (ci := 4) (v := .ref (mm 8)) (C := xR_Mo) (T := xT_Mo) (N := 31) hx hb hT xi_Mo hown hK.1 hP 0 rfl rfl 13 (by decide) (hT _ k4c_27) (fun _ h9 => h9) rfl xd_Mo_shown_179 ?_
                    refine lv_iload hx hb xd_Mo_shown_182 (lv_at hl 0 rfl) ?_
                    refine xn_iald (i := i) hx hb hK.1 hP 9 0 rfl rfl (by omega) (by decide) xd_Mo_shown_184 ?_
                    refine lv_goto (tgt := 195) hx hb xd_Mo_shown_185 (by decide) ?_
                    refine lv_istore hx hb xd_Mo_shown_195 hl (Nat.le_of_ble_eq_true rfl) rfl (fun ls hl => ?_)
                    have hl : lv_has ls 8 [(7, .int (g 8 i)), (6, .int (nI i)), (0, .ref h), (1, .int 1), (3, .int (nV (g 0) (wb wl 3) (we wl 3))), (5, .int (nI z74))] := hl
                    refine lv_iload hx hb xd_Mo_shown_197 (lv_at hl 0 rfl) ?_
                    refine lv_iload_n hx hb xd_Mo_shown_199 rfl (lv_at hl 4 rfl) ?_
                    refine lv_icmp_ne (tgt := 205) hx hb xd_Mo_shown_200 (by decide) (fun hc93 => ?_) (fun hc93 => ?_)
                    · refine lv_iload hx hb xd_Mo_shown_205 (lv_at hl 0 rfl) ?_
                      refine lv_if_ne (tgt := 235) hx hb xd_Mo_shown_207 (by decide) (fun hc94 => ?_) (fun hc94 => ?_)
                      · refine lv_iinc (k := 1) (x := (nI i)) (v := (nI (i + 1))) hx hb xd_Mo_shown_235 hl rfl (xb_inc i 1) (Nat.le_of_ble_eq_true rfl) rfl (fun ls hl => ?_)
                        have hl : lv_has ls 8 [(6, .int (nI (i + 1))), (7, .int (g 8 i)), (0, .ref h), (1, .int 1), (3, .int (nV (g 0) (wb wl 3) (we wl 3))), (5, .int (nI z74))] := hl
                        refine lv_goto (tgt := 163) hx hb xd_Mo_shown_238 (by decide) ?_
                        exact ih90 (i + 1) _ _ _ (show 3 * z74 + 3 - (i + 1) < 3 * z74 + 3 - i by omega) (lv_sub hl [0, 2, 3, 4, 5] rfl) hP hD hS ⟨(show 3 * z74 ≤ (i + 1) from by first | assumption | omega), (show (i + 1) ≤ 3 * z74 + 3 from by first | assumption | omega), (show ∀ j, 3 * z74 ≤ j → j < (i + 1) → ¬ g 8 j = (nV (g 0) (wb wl 3) (we wl 3)) ∧ ¬ g 8 j = 0 from fun j a9 b9 => by
        rcases Nat.lt_or_ge j i with q | q
        · exact hno j a9 q
        · rw [show j = i by omega]; exact ⟨hc93, hc94⟩)⟩
                      · refine lv_iload_n hx hb xd_Mo_shown_210 rfl (lv_at hl 3 rfl) ?_
                        refine xz_eq (a := 1) (tgt := 225) hx hb xd_Mo_shown_211 (by decide) (by omega) (fun hc95 => absurd hc95 (by omega)) (fun _ => ?_)
                        refine lv_aload_n hx hb xd_Mo_shown_214 rfl (lv_at hl 2 rfl) ?_
                        refine va_get (D := D) (ci := 4) (v := .ref (mm 8)) (C := xR_Mo) (T := xT_Mo) (N := 31) hx hb hT xi_Mo hown hK.1 hP 0 rfl rfl 13 (by decide) (hT _ k4c_27) (fun _ h9 => h9) rfl xd_Mo_shown_215 ?_
                        refine lv_iload hx hb xd_Mo_shown_218 (lv_at hl 1 rfl) ?_
                        refine lv_iload_n hx hb xd_Mo_shown_220 rfl (lv_at hl 4 rfl) ?_
                        refine xn_iast (i := i) hx hb hK.1 hP hD hS 9 0 rfl rfl (by omega) (by decide) xd_Mo_shown_221 (fun H locs hP hD hS => ?_)
                        have hP : va_P D xcl (moW h mm kA v (va_up g 8 (upd (g 8) i (nV (g 0) (wb wl 3) (we wl 3))))) H := hP
                        have hD : va_D A (moW h mm kA v (va_up g 8 (upd (g 8) i (nV (g 0) (wb wl 3) (we wl 3))))) := hD
                        refine lv_goto (tgt := 233) hx hb xd_Mo_shown_222 (by decide) ?_
                        refine lv_iconst (v := 2) hx hb xd_Mo_shown_233 (by decide) ?_
                        exact W.iret (v := 2) hx hb hr (fun t ht hW => ⟨⟨2, (v, (va_up g 8 (upd (g 8) i (nV (g 0) (wb wl 3) (we wl 3))))), rfl, ⟨MI_g rfl rfl rfl rfl rfl rfl rfl rfl hMI, rfl, Or.inr (Or.inr (Or.inr rfl)), congrArg (Prod.mk v) ((show va_up g 8 (upd (g 8) i (nV (g 0) (wb wl 3) (we wl 3))) = gS g 8 (3 * z74) (wN (g 0) wl 3) from by have q := gS_set (g := g) (a := 8) (b := 3 * z74) (k := i - 3 * z74) (to := wN (g 0) wl 3) (by omega) (by rw [show 3 * z74 + (i - 3 * z74) = i by omega]; exact hc94) (by rw [show 3 * z74 + (i - 3 * z74) = i by omega, hn3]; exact hc93) (fun j hj => by rw [hn3]; exact hno (3 * z74 + j) (by omega) (by omega)); rw [show 3 * z74 + (i - 3 * z74) = i by omega, hn3] at q; rw [hn3]; exact q).trans (lG_to (pI_some epk1 (by omega) z75 z76 (z77.trans hn1.symm) (fun j a9 b9 q => z78 j a9 b9 (q.trans hn1))) ⟨Or.inr ⟨by omega, ⟨by omega, (q_To (by omega)).mp z52⟩, fun q => hc60 (hn3.symm.trans q)⟩, fun q => hc58 (hn1.symm.trans q), by omega, z86⟩ (by omega) (by omega)))⟩, by rw [ht]; exact hP, hD⟩, hS.F ht⟩) hS.2.2 xd_Mo_shown_234
                    · refine lv_iconst (v := 2) hx hb xd_Mo_shown_203 (by decide) ?_
                      exact W.iret (v := 2) hx hb hr (fun t ht hW => ⟨⟨2, (v, g), rfl, ⟨hMI, rfl, Or.inr (Or.inr (Or.inr rfl)), congrArg (Prod.mk v) ((gS_same (k := i - 3 * z74) (by omega) (by rw [show 3 * z74 + (i - 3 * z74) = i by omega, hn3]; exact hc93) (fun j hj => by rw [hn3]; exact hno (3 * z74 + j) (by omega) (by omega))).trans (lG_to (pI_some epk1 (by omega) z75 z76 (z77.trans hn1.symm) (fun j a9 b9 q => z78 j a9 b9 (q.trans hn1))) ⟨Or.inr ⟨by omega, ⟨by omega, (q_To (by omega)).mp z52⟩, fun q => hc60 (hn3.symm.trans q)⟩, fun q => hc58 (hn1.symm.trans q), by omega, z86⟩ (by omega) (by omega)))⟩, by rw [ht]; exact hP, hD⟩, hS.F ht⟩) hS.2.2 xd_Mo_shown_204
              · refine lv_goto (tgt := 105) hx hb xd_Mo_shown_101 (by decide) ?_
                refine lv_istore hx hb xd_Mo_shown_105 hl (Nat.le_of_ble_eq_true rfl) rfl (fun ls hl => ?_)
                have hl : lv_has ls 8 [(5, .int (-1)), (4, .int (nI (nd - 1))), (3, .int (nV (g 0) (wb wl 3) (we wl 3))), (2, .int (nV (g 0) (wb wl 1) (we wl 1))), (0, .ref h), (1, .int 1)] := hl
                refine lv_iload hx hb xd_Mo_shown_107 (lv_at hl 0 rfl) ?_
                refine lv_if_ge (tgt := 114) hx hb xd_Mo_shown_109 (by decide) (fun hc96 => absurd hc96 (by decide)) (fun _ => ?_)
                refine lv_iconst (v := (-1)) hx hb xd_Mo_shown_112 (by decide) ?_
                exact W.iret (v := (-1)) hx hb hr (fun t ht hW => ⟨⟨(-1), (v, g), rfl, ⟨hMI, rfl, Or.inl rfl, congrArg (Prod.mk v) (lG_no2 (pI_none epk1 (by omega) (fun j a9 b9 q => z79 j a9 b9 (q.trans hn1))))⟩, by rw [ht]; exact hP, hD⟩, hS.F ht⟩) hS.2.2 xd_Mo_shown_113
          · refine lv_iconst (v := (-1)) hx hb xd_Mo_shown_79 (by decide) ?_
            exact W.iret (v := (-1)) hx hb hr (fun t ht hW => ⟨⟨(-1), (v, g), rfl, ⟨hMI, rfl, Or.inl rfl, congrArg (Prod.mk v) (lG_no1 (fun q => q.1.elim (fun z => absurd z (by omega)) (fun z => z.2.2 ((wN_in (by omega)).trans hc60))))⟩, by rw [ht]; exact hP, hD⟩, hS.F ht⟩) hS.2.2 xd_Mo_shown_80
      · refine xz_eq (a := 0) (tgt := 61) hx hb xd_Mo_shown_50 (by decide) (by omega) (fun _ => ?_) (fun hc97 => absurd hc97 (by omega))
        refine lv_iconst (v := 0) hx hb xd_Mo_shown_61 (by decide) ?_
        refine lv_istore_n hx hb xd_Mo_shown_62 rfl hl (Nat.le_of_ble_eq_true rfl) rfl (fun ls hl => ?_)
        have hl : lv_has ls 8 [(3, .int 0), (2, .int (nV (g 0) (wb wl 1) (we wl 1))), (0, .ref h), (1, .int 1)] := hl
        refine lv_iload_n hx hb xd_Mo_shown_63 rfl (lv_at hl 1 rfl) ?_
        refine lv_if_eq (tgt := 79) hx hb xd_Mo_shown_64 (by decide) (fun hc98 => ?_) (fun hc98 => ?_)
        · refine lv_iconst (v := (-1)) hx hb xd_Mo_shown_79 (by decide) ?_
          exact W.iret (v := (-1)) hx hb hr (fun t ht hW => ⟨⟨(-1), (v, g), rfl, ⟨hMI, rfl, Or.inl rfl, congrArg (Prod.mk v) (lG_no1 (fun q => q.2.1 ((wN_in (by omega)).trans hc98)))⟩, by rw [ht]; exact hP, hD⟩, hS.F ht⟩) hS.2.2 xd_Mo_shown_80
        · refine lv_aload_n hx hb xd_Mo_shown_67 rfl (lv_at hl 2 rfl) ?_
          refine va_get (D := D) (ci := 4) (v := .int (v 3)) (C := xR_Mo) (T := xT_Mo) (N := 31) hx hb hT xi_Mo hown hK.1 hP 0 rfl rfl 4 (by decide) (hT _ k4c_2) (fun _ h9 => h9) rfl xd_Mo_shown_68 ?_
          refine xn_top (x := (v 3)) (y := nI wl.length) hwn ?_
          refine lv_iconst (v := 4) hx hb xd_Mo_shown_71 (by decide) ?_
          refine xn_ne (a := wl.length) (b := 4) (tgt := 81) hx hb xd_Mo_shown_72 (by decide) (by omega) (by omega) (fun hc99 => absurd hc99 (by omega)) (fun _ => ?_)
          refine lv_iload_n hx hb xd_Mo_shown_75 rfl (lv_at hl 0 rfl) ?_
          refine xz_ne (a := 0) (tgt := 81) hx hb xd_Mo_shown_76 (by decide) (by omega) (fun hc100 => absurd hc100 (by omega)) (fun _ => ?_)
          refine lv_iconst (v := (-1)) hx hb xd_Mo_shown_79 (by decide) ?_
          exact W.iret (v := (-1)) hx hb hr (fun t ht hW => ⟨⟨(-1), (v, g), rfl, ⟨hMI, rfl, Or.inl rfl, congrArg (Prod.mk v) (lG_no1 (fun q => q.1.elim (fun z => absurd z (by omega)) (fun z => z53 ((q_To (by omega)).mpr z.2.1.2))))⟩, by rw [ht]; exact hP, hD⟩, hS.F ht⟩) hS.2.2 xd_Mo_shown_80
theorem k4d_0 : (Cond.fieldLink "LayerDeskModel" 94 "LayerDeskModel" "words" "I") ∈ wT := wT_t (List.mem_append_right _ (List.mem_append_right _ (List.mem_append_right _ (List.mem_append_left _ (List.mem_of_getElem? (i := 88) rfl))))) rfl
theorem k4d_1 : (Cond.code xy_Mo_nameOf xb_Mo_nameOf 4 (some .int)) ∈ wT := wT_t (List.mem_append_right _ (List.mem_append_right _ (List.mem_append_right _ (List.mem_append_left _ (List.mem_of_getElem? (i := 212) rfl))))) rfl
theorem k4d_2 : (Cond.methodLink "LayerDeskModel" 133 xy_Mo_nameOf) ∈ wT := wT_t (List.mem_append_right _ (List.mem_append_right _ (List.mem_append_right _ (List.mem_append_left _ (List.mem_of_getElem? (i := 209) rfl))))) rfl
theorem k4d_3 : (Cond.instanceMethod xy_Mo_nameOf) ∈ wT := wT_t (List.mem_append_right _ (List.mem_append_right _ (List.mem_append_right _ (List.mem_append_left _ (List.mem_of_getElem? (i := 211) rfl))))) rfl
theorem k4d_4 : (Cond.selects "LayerDeskModel" xy_Mo_nameOf xy_Mo_nameOf) ∈ wT := wT_s (q := (xy_Mo_nameOf, 31)) (by decide +kernel) rfl
theorem k4d_5 : (Cond.initialized "LayerDeskModel") ∈ wT := wT_t (List.mem_append_left _ (List.mem_of_getElem? (i := 5) rfl)) rfl
theorem k4d_6 : (Cond.fieldLink "LayerDeskModel" 140 "LayerDeskModel" "descriptors" "I") ∈ wT := wT_t (List.mem_append_right _ (List.mem_append_right _ (List.mem_append_right _ (List.mem_append_left _ (List.mem_of_getElem? (i := 91) rfl))))) rfl
theorem k4d_7 : (Cond.code xy_Mo_isShut xb_Mo_isShut 1 (some .boolean)) ∈ wT := wT_t (List.mem_append_right _ (List.mem_append_right _ (List.mem_append_right _ (List.mem_append_left _ (List.mem_of_getElem? (i := 228) rfl))))) rfl
theorem k4d_8 : (Cond.methodLink "LayerDeskModel" 146 xy_Mo_isShut) ∈ wT := wT_t (List.mem_append_right _ (List.mem_append_right _ (List.mem_append_right _ (List.mem_append_left _ (List.mem_of_getElem? (i := 225) rfl))))) rfl
theorem k4d_9 : (Cond.instanceMethod xy_Mo_isShut) ∈ wT := wT_t (List.mem_append_right _ (List.mem_append_right _ (List.mem_append_right _ (List.mem_append_left _ (List.mem_of_getElem? (i := 227) rfl))))) rfl
theorem k4d_10 : (Cond.selects "LayerDeskModel" xy_Mo_isShut xy_Mo_isShut) ∈ wT := wT_s (q := (xy_Mo_isShut, 31)) (by decide +kernel) rfl
theorem k4d_11 : (Cond.fieldLink "LayerDeskModel" 23 "LayerDeskModel" "name" "[I") ∈ wT := wT_t (List.mem_append_right _ (List.mem_append_right _ (List.mem_append_right _ (List.mem_append_left _ (List.mem_of_getElem? (i := 93) rfl))))) rfl
theorem k4d_12 : (Cond.fieldLink "LayerDeskModel" 48 "LayerDeskModel" "requires" "[I") ∈ wT := wT_t (List.mem_append_right _ (List.mem_append_right _ (List.mem_append_right _ (List.mem_append_left _ (List.mem_of_getElem? (i := 101) rfl))))) rfl
theorem k4d_13 : (Cond.fieldLink "LayerDeskModel" 51 "LayerDeskModel" "require" "[I") ∈ wT := wT_t (List.mem_append_right _ (List.mem_append_right _ (List.mem_append_right _ (List.mem_append_left _ (List.mem_of_getElem? (i := 102) rfl))))) rfl
theorem k4d_14 : (Cond.fieldLink "LayerDeskModel" 60 "LayerDeskModel" "passes" "[Z") ∈ wT := wT_t (List.mem_append_right _ (List.mem_append_right _ (List.mem_append_right _ (List.mem_append_left _ (List.mem_of_getElem? (i := 105) rfl))))) rfl
theorem k4d_15 : (Cond.fieldLink "LayerDeskModel" 63 "LayerDeskModel" "still" "[Z") ∈ wT := wT_t (List.mem_append_right _ (List.mem_append_right _ (List.mem_append_right _ (List.mem_append_left _ (List.mem_of_getElem? (i := 106) rfl))))) rfl
theorem k4d_16 : (Cond.code xy_Mo_code xb_Mo_code 6 (some .int)) ∈ wT := wT_t (List.mem_append_right _ (List.mem_append_right _ (List.mem_append_right _ (List.mem_append_left _ (List.mem_of_getElem? (i := 196) rfl))))) rfl
theorem k4d_17 : (Cond.methodLink "LayerDeskModel" 104 xy_Mo_code) ∈ wT := wT_t (List.mem_append_right _ (List.mem_append_right _ (List.mem_append_right _ (List.mem_append_left _ (List.mem_of_getElem? (i := 194) rfl))))) rfl
theorem k4d_18 : (Cond.static xy_Mo_code) ∈ wT := wT_t (List.mem_append_right _ (List.mem_append_right _ (List.mem_append_right _ (List.mem_append_left _ (List.mem_of_getElem? (i := 195) rfl))))) rfl
theorem k4d_19 : (Cond.code xy_Mo_says xb_Mo_says 8 (some .boolean)) ∈ wT := wT_t (List.mem_append_right _ (List.mem_append_right _ (List.mem_append_right _ (List.mem_append_left _ (List.mem_of_getElem? (i := 200) rfl))))) rfl
theorem k4d_20 : (Cond.methodLink "LayerDeskModel" 108 xy_Mo_says) ∈ wT := wT_t (List.mem_append_right _ (List.mem_append_right _ (List.mem_append_right _ (List.mem_append_left _ (List.mem_of_getElem? (i := 197) rfl))))) rfl
theorem k4d_21 : (Cond.instanceMethod xy_Mo_says) ∈ wT := wT_t (List.mem_append_right _ (List.mem_append_right _ (List.mem_append_right _ (List.mem_append_left _ (List.mem_of_getElem? (i := 199) rfl))))) rfl
theorem k4d_22 : (Cond.selects "LayerDeskModel" xy_Mo_says xy_Mo_says) ∈ wT := wT_s (q := (xy_Mo_says, 31)) (by decide +kernel) rfl
set_option maxHeartbeats 4000000 in
set_option maxRecDepth 100000 in
theorem xc_Mo_newRequireX (l : Launch) (D : va_G) (kA : Nat → ClassId) (sz h : Nat) (mm : Nat → Nat) (v : Nat → Int32) (g : Nat → Nat → Int32) (wl : List (Nat × Nat)) (nd : Nat) (hMI : MI v g) (hWX : WX v g wl) (hnd : v 4 = nI nd) (hnd12 : nd ≤ 12) : Met l xy_Mo_newRequire (.code xy_Mo_newRequire xb_Mo_newRequire 8 (some .int) :: wT) { frames := 2, cells := 0, slots := 0, locals := 49 } (va_Pc [.ref h] (xPre D kA sz (moW h mm kA v g))) (va_Qi (fun (r : Int32) (u : (Nat → Int32) × (Nat → Nat → Int32)) => MI u.1 u.2 ∧ u.1 2 = v 2 ∧ (r = -1 ∨ r = -2 ∨ r = 1 ∨ r = 2) ∧ u = (v, lR (g 0) wl nd g)) (fun (u : (Nat → Int32) × (Nat → Nat → Int32)) t => va_P D xcl (moW h mm kA u.1 u.2) t.heap ∧ va_D (va_A (moW h mm kA v g) sz) (moW h mm kA u.1 u.2)) (va_A (moW h mm kA v g) sz)) 0 0 (va_A (moW h mm kA v g) sz) := by
  refine Met.ofW (cc := xb_Mo_newRequire) (maxL := 8) (ret := (some .int)) (by decide) rfl ?_
  intro p e s m args below meth c s₁ B hml hv
  obtain ⟨rfl, hsz, hP, hK, hD0⟩ := hv
  have hx := B.exec
  have hb := B.bytes
  have hr := B.returns
  have hT := x_hT B.pre
  have hown : s.vm.findClass xR_Mo = some m.cls := findClass_of_methodNamed B.named
  have hlocks := B.notSynchronized
  subst hsz
  have hD := hD0.self (sz := s.heap.size)
  generalize hAe : va_A (moW h mm kA v g) s.heap.size = A at hD ⊢
  have hA : ∀ q : Nat, s.heap.size ≤ q → A q := fun q h => by rw [← hAe]; exact Or.inr h
  have hS : va_S A s.heap s.heap [] := va_S.rf
  have hl := lv_entry ([.ref h]) (n := 8) (Nat.le_of_ble_eq_true rfl)
  rw [lg_entry_eq]
  generalize (lg_sl ([.ref h]) ++ List.replicate (8 - (lg_sl ([.ref h])).length) Slot.unset).toArray = ls at hl ⊢
  have hl : lv_has ls 8 [(0, .ref h)] := hl
  have hP : va_P D xcl (moW h mm kA v g) s.heap := hP
  obtain ⟨-, ⟨nl, hnl5, hnl, hpar⟩, hch, hpk, hrq, hmd, huq⟩ := id hMI
  obtain ⟨hwn, ⟨hwn20, hwlr⟩, hws⟩ := id hWX
  refine lv_iconst (v := 1) hx hb xd_Mo_newRequire_0 (by decide) ?_
  refine lv_istore_n hx hb xd_Mo_newRequire_1 rfl hl (Nat.le_of_ble_eq_true rfl) rfl (fun ls hl => ?_)
  have hl : lv_has ls 8 [(1, .int 1), (0, .ref h)] := hl
  refine xjoin (D := D) (cl := xcl) (A := A) (H0 := s.heap) (σ := Int32 × Nat) (ml := 8) 60 (fun (th, w1) => [(2, .int th), (1, .int (nI w1)), (0, .ref h)]) (fun (th, w1) => []) (fun (th, w1) => moW h mm kA v g) (fun (th, w1) => ((th = 1 ∧ rqT (g 0) wl ∧ w1 = 2) ∨ (th = 0 ∧ ¬ rqT (g 0) wl ∧ w1 = 1))) ?_ (fun jn1 => ?_)
  · intro a9 ls H locs hl hP hD hS hI
    obtain ⟨th, w1⟩ := a9
    have hth : (th = 1 ∧ rqT (g 0) wl ∧ w1 = 2) ∨ (th = 0 ∧ ¬ rqT (g 0) wl ∧ w1 = 1) := hI
    have hA9 : rqA (g 0) wl = w1 := by
      unfold rqA
      rcases hth with ⟨_, q, q2⟩ | ⟨_, q, q2⟩
      · rw [cif_pos q, q2]
      · rw [cif_neg q, q2]
    have hthb : th = bI (rqT (g 0) wl) := by
      rcases hth with ⟨q, q1, q2⟩ | ⟨q, q1, q2⟩
      · rw [q]; exact bI_1 q1
      · rw [q]; exact bI_0 q1
    have hw12 : 1 ≤ w1 ∧ w1 ≤ 2 := by omega
    have hl : lv_has ls 8 [(2, .int th), (1, .int (nI w1)), (0, .ref h)] := hl
    have hP : va_P D xcl (moW h mm kA v g) H := hP
    have hD : va_D A (moW h mm kA v g) := hD
    refine xjoin (D := D) (cl := xcl) (A := A) (H0 := s.heap) (σ := Int32 × Nat) (ml := 8) 118 (fun (qt, w2) => [(3, .int qt), (1, .int (nI w2)), (2, .int th), (0, .ref h)]) (fun (qt, w2) => []) (fun (qt, w2) => moW h mm kA v g) (fun (qt, w2) => ((qt = 1 ∧ rqO (g 0) wl ∧ w2 = w1 + 1) ∨ (qt = 0 ∧ ¬ rqO (g 0) wl ∧ w2 = w1))) ?_ (fun jn2 => ?_)
    · intro a9 ls H locs hl hP hD hS hI
      obtain ⟨qt, w2⟩ := a9
      have hqt : (qt = 1 ∧ rqO (g 0) wl ∧ w2 = w1 + 1) ∨ (qt = 0 ∧ ¬ rqO (g 0) wl ∧ w2 = w1) := hI
      have hl : lv_has ls 8 [(3, .int qt), (1, .int (nI w2)), (2, .int th), (0, .ref h)] := hl
      have hP : va_P D xcl (moW h mm kA v g) H := hP
      have hD : va_D A (moW h mm kA v g) := hD
      have hB9 : rqB (g 0) wl = w2 := by
        unfold rqB
        rcases hqt with ⟨_, q, q2⟩ | ⟨_, q, q2⟩
        · rw [cif_pos q, hA9, q2]
        · rw [cif_neg q, hA9, q2]
      have hqtb : qt = bI (rqO (g 0) wl) := by
        rcases hqt with ⟨q, q1, q2⟩ | ⟨q, q1, q2⟩
        · rw [q]; exact bI_1 q1
        · rw [q]; exact bI_0 q1
      have hw23 : 1 ≤ w2 ∧ w2 ≤ 3 := by omega
      refine lv_aload_n hx hb xd_Mo_newRequire_118 rfl (lv_at hl 3 rfl) ?_
      refine va_get (D := D) (ci := 4) (v := .int (v 3)) (C := xR_Mo) (T := xT_Mo) (N := 31) hx hb hT xi_Mo hown hK.1 hP 0 rfl rfl 4 (by decide) (hT _ k4d_0) (fun _ h9 => h9) rfl xd_Mo_newRequire_119 ?_
      refine xn_top (x := (v 3)) (y := nI wl.length) hwn ?_
      refine lv_iload_n hx hb xd_Mo_newRequire_122 rfl (lv_at hl 1 rfl) ?_
      refine lv_iconst (v := 1) hx hb xd_Mo_newRequire_123 (by decide) ?_
      refine lv_iadd hx hb xd_Mo_newRequire_124 ?_
      refine xn_top (y := nI (w2 + 1)) (nI_add w2 1) ?_
      refine xn_ne (a := wl.length) (b := w2 + 1) (tgt := 136) hx hb xd_Mo_newRequire_125 (by decide) (by omega) (by omega) (fun hc3 => ?_) (fun hc3 => ?_)
      · refine lv_iconst (v := 0) hx hb xd_Mo_newRequire_136 (by decide) ?_
        refine lv_istore hx hb xd_Mo_newRequire_137 hl (Nat.le_of_ble_eq_true rfl) rfl (fun ls hl => ?_)
        have hl : lv_has ls 8 [(4, .int 0), (3, .int qt), (1, .int (nI w2)), (2, .int th), (0, .ref h)] := hl
        refine lv_iload hx hb xd_Mo_newRequire_139 (lv_at hl 0 rfl) ?_
        refine xz_ne (a := 0) (tgt := 146) hx hb xd_Mo_newRequire_141 (by decide) (by omega) (fun hc4 => absurd hc4 (by omega)) (fun _ => ?_)
        refine lv_iconst (v := (-1)) hx hb xd_Mo_newRequire_144 (by decide) ?_
        exact W.iret (v := (-1)) hx hb hr (fun t ht hW => ⟨⟨(-1), (v, g), rfl, ⟨hMI, rfl, Or.inl rfl, congrArg (Prod.mk v) (lR_no (fun q => absurd q.1 (by rw [hB9]; omega)))⟩, by rw [ht]; exact hP, hD⟩, hS.F ht⟩) hS.2.2 xd_Mo_newRequire_145
      · have hbew2 := (hwlr w2 (by omega)).1
        have hew2 := (hwlr w2 (by omega)).2
        have ebw2 := (hws w2 (by omega)).1
        have eew2 := (hws w2 (by omega)).2
        refine lv_aload_n hx hb xd_Mo_newRequire_128 rfl (lv_at hl 3 rfl) ?_
        refine lv_iload_n hx hb xd_Mo_newRequire_129 rfl (lv_at hl 1 rfl) ?_
        have hFc := va_free (wc := (moW h mm kA v g)) hD hS hA [0, 1, 2, 3, 4, 5, 6, 7, 8, 9, 10, 11, 12, 13, 14, 15, 16, 17, 18, 19, 20, 21, 22, 23, 24, 25] rfl
        refine va_calli (va_runV (As := [.int (nI w2)]) (rest := []) ⟨hx, hb, hml, hown, hT⟩ (xc_Mo_nameOfX l D kA H.size h mm v g w2 (wb wl w2) (we wl w2) (by first | assumption | omega) (by first | assumption | omega) (by first | assumption | omega) (by first | assumption | omega) (by first | assumption | omega)) (cwV 1 hT (wT_V k4d_2 k4d_3 k4d_4 k4d_5 k4d_1) rfl rfl rfl (by decide +kernel) ⟨Nat.le_of_ble_eq_true rfl, Nat.le_of_ble_eq_true rfl⟩) (x_preV hK hP hD 0 rfl rfl) rfl rfl hl.1 rfl (lv_room (Nat.le_of_ble_eq_true rfl)) xd_Mo_newRequire_130 ⟨Nat.le_of_ble_eq_true rfl, Nat.le_of_ble_eq_true rfl⟩) hS (fun q _ h => hFc q h) hFc (fun r5 u6 t H1 locs ht hvm hp7 hB hz1 hk1 hS => ?_)
        obtain ⟨hP1, hD1⟩ := hB
        rw [ht] at hP1
        have hD1 := hD1.weaken (fun _ _ _ h => hFc _ h)
        generalize H1 = H at hP1 hS ⊢
        have hP := hP1
        have hD := hD1
        have hP : va_P D xcl (moW h mm kA v g) H := hP
        have hD : va_D A (moW h mm kA v g) := hD
        have hp7 : r5 = nV (g 0) (wb wl w2) (we wl w2) := hp7
        subst hp7
        have hP : va_P D xcl (moW h mm kA v g) H := hP
        have hD : va_D A (moW h mm kA v g) := hD
        refine lv_goto (tgt := 137) hx hb xd_Mo_newRequire_133 (by decide) ?_
        refine lv_istore hx hb xd_Mo_newRequire_137 hl (Nat.le_of_ble_eq_true rfl) rfl (fun ls hl => ?_)
        have hl : lv_has ls 8 [(4, .int (nV (g 0) (wb wl w2) (we wl w2))), (3, .int qt), (1, .int (nI w2)), (2, .int th), (0, .ref h)] := hl
        refine lv_iload hx hb xd_Mo_newRequire_139 (lv_at hl 0 rfl) ?_
        refine lv_if_ne (tgt := 146) hx hb xd_Mo_newRequire_141 (by decide) (fun hc8 => ?_) (fun hc8 => ?_)
        · rcases Nat.eq_zero_or_pos nd with hz | hz
          · have hnd0 : v 4 = nI 0 := by rw [hnd, hz]
            have hnn : wN (g 0) wl (rqB (g 0) wl) = nV (g 0) (wb wl w2) (we wl w2) := by rw [hB9]; exact wN_in (by omega)
            refine lv_aload_n hx hb xd_Mo_newRequire_146 rfl (lv_at hl 4 rfl) ?_
            refine va_get (D := D) (ci := 4) (v := .int (v 4)) (C := xR_Mo) (T := xT_Mo) (N := 31) hx hb hT xi_Mo hown hK.1 hP 0 rfl rfl 7 (by decide) (hT _ k4d_6) (fun _ h9 => h9) rfl xd_Mo_newRequire_147 ?_
            refine xn_top (x := (v 4)) (y := nI 0) hnd0 ?_
            refine lv_iconst (v := 1) hx hb xd_Mo_newRequire_150 (by decide) ?_
            refine lv_isub hx hb xd_Mo_newRequire_151 ?_
            refine lv_istore hx hb xd_Mo_newRequire_152 hl (Nat.le_of_ble_eq_true rfl) rfl (fun ls hl => ?_)
            have hl : lv_has ls 8 [(5, .int ((nI 0) - 1)), (4, .int (nV (g 0) (wb wl w2) (we wl w2))), (3, .int qt), (1, .int (nI w2)), (2, .int th), (0, .ref h)] := hl
            refine lv_iload hx hb xd_Mo_newRequire_154 (lv_at hl 0 rfl) ?_
            refine lv_if_lt (tgt := 175) hx hb xd_Mo_newRequire_156 (by decide) (fun _ => ?_) (fun hc9 => absurd hc9 (by decide))
            refine lv_iconst (v := 0) hx hb xd_Mo_newRequire_175 (by decide) ?_
            refine lv_istore hx hb xd_Mo_newRequire_176 hl (Nat.le_of_ble_eq_true rfl) rfl (fun ls hl => ?_)
            have hl : lv_has ls 8 [(6, .int 0), (5, .int ((nI 0) - 1)), (4, .int (nV (g 0) (wb wl w2) (we wl w2))), (3, .int qt), (1, .int (nI w2)), (2, .int th), (0, .ref h)] := hl
            refine lv_iconst (v := 5) hx hb xd_Mo_newRequire_178 (by decide) ?_
            refine lv_iload hx hb xd_Mo_newRequire_179 (lv_at hl 1 rfl) ?_
            refine lv_imul hx hb xd_Mo_newRequire_181 ?_
            refine lv_istore hx hb xd_Mo_newRequire_182 hl (Nat.le_of_ble_eq_true rfl) rfl (fun ls hl => ?_)
            have hl : lv_has ls 8 [(7, .int (5 * ((nI 0) - 1))), (6, .int 0), (5, .int ((nI 0) - 1)), (4, .int (nV (g 0) (wb wl w2) (we wl w2))), (3, .int qt), (1, .int (nI w2)), (2, .int th), (0, .ref h)] := hl
            refine lv_iload hx hb xd_Mo_newRequire_184 (lv_at hl 2 rfl) ?_
            refine lv_if_lt (tgt := 236) hx hb xd_Mo_newRequire_186 (by decide) (fun _ => ?_) (fun hc10 => absurd hc10 (by decide))
            refine lv_iload hx hb xd_Mo_newRequire_236 (lv_at hl 1 rfl) ?_
            refine xz_eq (a := 0) (tgt := 243) hx hb xd_Mo_newRequire_238 (by decide) (by omega) (fun _ => ?_) (fun hc11 => absurd hc11 (by omega))
            refine lv_aload_n hx hb xd_Mo_newRequire_243 rfl (lv_at hl 7 rfl) ?_
            have hFc := va_free (wc := (moW h mm kA v g)) hD hS hA [0, 1, 2, 3, 4, 5, 6, 7, 8, 9, 10, 11, 12, 13, 14, 15, 16, 17, 18, 19, 20, 21, 22, 23, 24, 25] rfl
            refine va_calli (va_runV (As := []) (rest := []) ⟨hx, hb, hml, hown, hT⟩ (xc_Mo_isShut l D kA H.size h mm v g nd (by first | assumption | omega) (by first | assumption | omega)) (cwV 0 hT (wT_V k4d_8 k4d_9 k4d_10 k4d_5 k4d_7) rfl rfl rfl (by decide +kernel) ⟨Nat.le_of_ble_eq_true rfl, Nat.le_of_ble_eq_true rfl⟩) (x_preV hK hP hD 0 rfl rfl) rfl rfl hl.1 rfl (lv_room (Nat.le_of_ble_eq_true rfl)) xd_Mo_newRequire_244 ⟨Nat.le_of_ble_eq_true rfl, Nat.le_of_ble_eq_true rfl⟩) hS (fun q _ h => hFc q h) hFc (fun r12 u13 t H1 locs ht hvm hp14 hB hz1 hk1 hS => ?_)
            obtain ⟨hP1, hD1⟩ := hB
            rw [ht] at hP1
            have hD1 := hD1.weaken (fun _ _ _ h => hFc _ h)
            generalize H1 = H at hP1 hS ⊢
            have hP := hP1
            have hD := hD1
            have hP : va_P D xcl (moW h mm kA v g) H := hP
            have hD : va_D A (moW h mm kA v g) := hD
            rcases hp14 with ⟨rfl, z15⟩ | ⟨rfl, z16, z17⟩
            · refine xz_ne (a := 1) (tgt := 261) hx hb xd_Mo_newRequire_247 (by decide) (by omega) (fun _ => ?_) (fun hc18 => absurd hc18 (by omega))
              refine lv_bipush (v := (-2)) hx hb xd_Mo_newRequire_261 (by decide) ?_
              exact W.iret (v := (-2)) hx hb hr (fun t ht hW => ⟨⟨(-2), (v, g), rfl, ⟨hMI, rfl, Or.inr (Or.inl rfl), congrArg (Prod.mk v) (lR_no (fun q => absurd q.2.2.1 (by omega)))⟩, by rw [ht]; exact hP, hD⟩, hS.F ht⟩) hS.2.2 xd_Mo_newRequire_263
            · exact absurd hz z16
          · have hnn : wN (g 0) wl (rqB (g 0) wl) = nV (g 0) (wb wl w2) (we wl w2) := by rw [hB9]; exact wN_in (by omega)
            refine lv_aload_n hx hb xd_Mo_newRequire_146 rfl (lv_at hl 4 rfl) ?_
            refine va_get (D := D) (ci := 4) (v := .int (v 4)) (C := xR_Mo) (T := xT_Mo) (N := 31) hx hb hT xi_Mo hown hK.1 hP 0 rfl rfl 7 (by decide) (hT _ k4d_6) (fun _ h9 => h9) rfl xd_Mo_newRequire_147 ?_
            refine xn_top (x := (v 4)) (y := nI nd) hnd ?_
            refine lv_iconst (v := 1) hx hb xd_Mo_newRequire_150 (by decide) ?_
            refine lv_isub hx hb xd_Mo_newRequire_151 ?_
            refine xn_top (y := nI (nd - 1)) (pk_sub (a := nd) (b := 1) (by omega)) ?_
            refine lv_istore hx hb xd_Mo_newRequire_152 hl (Nat.le_of_ble_eq_true rfl) rfl (fun ls hl => ?_)
            have hl : lv_has ls 8 [(5, .int (nI (nd - 1))), (4, .int (nV (g 0) (wb wl w2) (we wl w2))), (3, .int qt), (1, .int (nI w2)), (2, .int th), (0, .ref h)] := hl
            refine lv_iload hx hb xd_Mo_newRequire_154 (lv_at hl 0 rfl) ?_
            refine xz_lt (a := nd - 1) (tgt := 175) hx hb xd_Mo_newRequire_156 (by decide) (by omega) ?_
            obtain ⟨rq1, hrq1, erq1⟩ := hrq (nd - 1) (by omega)
            have hir : iN (g 12 (nd - 1)) = rq1 := by rw [erq1, iN_nI (by omega)]
            refine lv_aload_n hx hb xd_Mo_newRequire_159 rfl (lv_at hl 5 rfl) ?_
            refine va_get (D := D) (ci := 4) (v := .ref (mm 4)) (C := xR_Mo) (T := xT_Mo) (N := 31) hx hb hT xi_Mo hown hK.1 hP 0 rfl rfl 9 (by decide) (hT _ k4d_11) (fun _ h9 => h9) rfl xd_Mo_newRequire_160 ?_
            refine lv_iload hx hb xd_Mo_newRequire_163 (lv_at hl 0 rfl) ?_
            refine xn_iald (i := nd - 1) hx hb hK.1 hP 5 0 rfl rfl (by omega) (by decide) xd_Mo_newRequire_165 ?_
            refine lv_iload hx hb xd_Mo_newRequire_166 (lv_at hl 1 rfl) ?_
            refine lv_icmp_ne (tgt := 175) hx hb xd_Mo_newRequire_168 (by decide) (fun hc20 => ?_) (fun hc20 => ?_)
            · refine lv_iconst (v := 0) hx hb xd_Mo_newRequire_175 (by decide) ?_
              refine lv_istore hx hb xd_Mo_newRequire_176 hl (Nat.le_of_ble_eq_true rfl) rfl (fun ls hl => ?_)
              have hl : lv_has ls 8 [(6, .int 0), (5, .int (nI (nd - 1))), (4, .int (nV (g 0) (wb wl w2) (we wl w2))), (3, .int qt), (1, .int (nI w2)), (2, .int th), (0, .ref h)] := hl
              refine lv_iconst (v := 5) hx hb xd_Mo_newRequire_178 (by decide) ?_
              refine lv_iload hx hb xd_Mo_newRequire_179 (lv_at hl 1 rfl) ?_
              refine lv_imul hx hb xd_Mo_newRequire_181 ?_
              refine xn_top (y := nI (5 * (nd - 1))) (pk_mul 5 (nd - 1)) ?_
              refine lv_istore hx hb xd_Mo_newRequire_182 hl (Nat.le_of_ble_eq_true rfl) rfl (fun ls hl => ?_)
              have hl : lv_has ls 8 [(7, .int (nI (5 * (nd - 1)))), (6, .int 0), (5, .int (nI (nd - 1))), (4, .int (nV (g 0) (wb wl w2) (we wl w2))), (3, .int qt), (1, .int (nI w2)), (2, .int th), (0, .ref h)] := hl
              refine xlab (σ := Nat × Int32) (ml := 8) 184 (fun (i, tw) => [(7, .int (nI i)), (6, .int tw), (0, .ref h), (2, .int th), (3, .int qt), (4, .int (nV (g 0) (wb wl w2) (we wl w2))), (5, .int (nI (nd - 1)))]) (fun (i, tw) => []) (fun (i, tw) => moW h mm kA v g) (fun (i, tw) => (5 * (nd - 1) ≤ i) ∧ (i ≤ 5 * (nd - 1) + rq1) ∧ ((¬ tw = 0 ∧ (g 4 (nd - 1) = nV (g 0) (wb wl w2) (we wl w2) ∨ ∃ j, 5 * (nd - 1) ≤ j ∧ j < i ∧ g 13 j = nV (g 0) (wb wl w2) (we wl w2))) ∨ (tw = 0 ∧ ¬ g 4 (nd - 1) = nV (g 0) (wb wl w2) (we wl w2) ∧ ∀ j, 5 * (nd - 1) ≤ j → j < i → ¬ g 13 j = nV (g 0) (wb wl w2) (we wl w2)))) (fun (i, tw) => 5 * (nd - 1) + rq1 - i) ?_ (5 * (nd - 1), 0) _ _ _ (lv_sub hl [0, 1, 7, 6, 4, 3, 2] rfl) hP hD hS ⟨(show 5 * (nd - 1) ≤ (5 * (nd - 1)) from by first | assumption | omega), (show (5 * (nd - 1)) ≤ 5 * (nd - 1) + rq1 from by first | assumption | omega), (show (¬ 0 = 0 ∧ (g 4 (nd - 1) = nV (g 0) (wb wl w2) (we wl w2) ∨ ∃ j, 5 * (nd - 1) ≤ j ∧ j < (5 * (nd - 1)) ∧ g 13 j = nV (g 0) (wb wl w2) (we wl w2))) ∨ (0 = 0 ∧ ¬ g 4 (nd - 1) = nV (g 0) (wb wl w2) (we wl w2) ∧ ∀ j, 5 * (nd - 1) ≤ j → j < (5 * (nd - 1)) → ¬ g 13 j = nV (g 0) (wb wl w2) (we wl w2)) from Or.inr ⟨rfl, hc20, fun j a9 b9 => absurd b9 (by omega)⟩)⟩
              intro n9 ih21 a9 ls H locs hμ hl hP hD hS hI
              subst hμ
              obtain ⟨i, tw⟩ := a9
              obtain ⟨hi1, hi2, htw⟩ := hI
              have hi1 : 5 * (nd - 1) ≤ i := hi1
              have hi2 : i ≤ 5 * (nd - 1) + rq1 := hi2
              have htw : (¬ tw = 0 ∧ (g 4 (nd - 1) = nV (g 0) (wb wl w2) (we wl w2) ∨ ∃ j, 5 * (nd - 1) ≤ j ∧ j < i ∧ g 13 j = nV (g 0) (wb wl w2) (we wl w2))) ∨ (tw = 0 ∧ ¬ g 4 (nd - 1) = nV (g 0) (wb wl w2) (we wl w2) ∧ ∀ j, 5 * (nd - 1) ≤ j → j < i → ¬ g 13 j = nV (g 0) (wb wl w2) (we wl w2)) := htw
              have hl : lv_has ls 8 [(7, .int (nI i)), (6, .int tw), (0, .ref h), (2, .int th), (3, .int qt), (4, .int (nV (g 0) (wb wl w2) (we wl w2))), (5, .int (nI (nd - 1)))] := hl
              have hP : va_P D xcl (moW h mm kA v g) H := hP
              have hD : va_D A (moW h mm kA v g) := hD
              refine lv_iload hx hb xd_Mo_newRequire_184 (lv_at hl 6 rfl) ?_
              refine xz_lt (a := nd - 1) (tgt := 236) hx hb xd_Mo_newRequire_186 (by decide) (by omega) ?_
              refine lv_iload hx hb xd_Mo_newRequire_189 (lv_at hl 0 rfl) ?_
              refine lv_iconst (v := 5) hx hb xd_Mo_newRequire_191 (by decide) ?_
              refine lv_iload hx hb xd_Mo_newRequire_192 (lv_at hl 6 rfl) ?_
              refine lv_imul hx hb xd_Mo_newRequire_194 ?_
              refine xn_top (y := nI (5 * (nd - 1))) (pk_mul 5 (nd - 1)) ?_
              refine lv_aload_n hx hb xd_Mo_newRequire_195 rfl (lv_at hl 2 rfl) ?_
              refine va_get (D := D) (ci := 4) (v := .ref (mm 12)) (C := xR_Mo) (T := xT_Mo) (N := 31) hx hb hT xi_Mo hown hK.1 hP 0 rfl rfl 17 (by decide) (hT _ k4d_12) (fun _ h9 => h9) rfl xd_Mo_newRequire_196 ?_
              refine lv_iload hx hb xd_Mo_newRequire_199 (lv_at hl 6 rfl) ?_
              refine xn_iald (i := nd - 1) hx hb hK.1 hP 13 0 rfl rfl (by omega) (by decide) xd_Mo_newRequire_201 ?_
              refine xn_top (x := (g 12 (nd - 1))) (y := nI rq1) erq1 ?_
              refine lv_iadd hx hb xd_Mo_newRequire_202 ?_
              refine xn_top (y := nI ((5 * (nd - 1)) + rq1)) (nI_add (5 * (nd - 1)) rq1) ?_
              refine xn_ge (a := i) (b := (5 * (nd - 1)) + rq1) (tgt := 236) hx hb xd_Mo_newRequire_203 (by decide) (by omega) (by omega) (fun hc23 => ?_) (fun hc23 => ?_)
              · refine lv_iload hx hb xd_Mo_newRequire_236 (lv_at hl 1 rfl) ?_
                refine lv_if_eq (tgt := 243) hx hb xd_Mo_newRequire_238 (by decide) (fun hc24 => ?_) (fun hc24 => ?_)
                · refine lv_aload_n hx hb xd_Mo_newRequire_243 rfl (lv_at hl 2 rfl) ?_
                  have hFc := va_free (wc := (moW h mm kA v g)) hD hS hA [0, 1, 2, 3, 4, 5, 6, 7, 8, 9, 10, 11, 12, 13, 14, 15, 16, 17, 18, 19, 20, 21, 22, 23, 24, 25] rfl
                  refine va_calli (va_runV (As := []) (rest := []) ⟨hx, hb, hml, hown, hT⟩ (xc_Mo_isShut l D kA H.size h mm v g nd (by first | assumption | omega) (by first | assumption | omega)) (cwV 0 hT (wT_V k4d_8 k4d_9 k4d_10 k4d_5 k4d_7) rfl rfl rfl (by decide +kernel) ⟨Nat.le_of_ble_eq_true rfl, Nat.le_of_ble_eq_true rfl⟩) (x_preV hK hP hD 0 rfl rfl) rfl rfl hl.1 rfl (lv_room (Nat.le_of_ble_eq_true rfl)) xd_Mo_newRequire_244 ⟨Nat.le_of_ble_eq_true rfl, Nat.le_of_ble_eq_true rfl⟩) hS (fun q _ h => hFc q h) hFc (fun r25 u26 t H1 locs ht hvm hp27 hB hz1 hk1 hS => ?_)
                  obtain ⟨hP1, hD1⟩ := hB
                  rw [ht] at hP1
                  have hD1 := hD1.weaken (fun _ _ _ h => hFc _ h)
                  generalize H1 = H at hP1 hS ⊢
                  have hP := hP1
                  have hD := hD1
                  have hP : va_P D xcl (moW h mm kA v g) H := hP
                  have hD : va_D A (moW h mm kA v g) := hD
                  rcases hp27 with ⟨rfl, z28⟩ | ⟨rfl, z29, z30⟩
                  · refine xz_ne (a := 1) (tgt := 261) hx hb xd_Mo_newRequire_247 (by decide) (by omega) (fun _ => ?_) (fun hc31 => absurd hc31 (by omega))
                    refine lv_bipush (v := (-2)) hx hb xd_Mo_newRequire_261 (by decide) ?_
                    exact W.iret (v := (-2)) hx hb hr (fun t ht hW => ⟨⟨(-2), (v, g), rfl, ⟨hMI, rfl, Or.inr (Or.inl rfl), congrArg (Prod.mk v) (lR_no (fun q => z28.elim (fun z => absurd q.2.2.1 (by omega)) (fun z => z q.2.2.2.2.2.1)))⟩, by rw [ht]; exact hP, hD⟩, hS.F ht⟩) hS.2.2 xd_Mo_newRequire_263
                  · refine xz_ne (a := 0) (tgt := 261) hx hb xd_Mo_newRequire_247 (by decide) (by omega) (fun hc32 => absurd hc32 (by omega)) (fun _ => ?_)
                    refine lv_aload_n hx hb xd_Mo_newRequire_250 rfl (lv_at hl 2 rfl) ?_
                    refine va_get (D := D) (ci := 4) (v := .ref (mm 12)) (C := xR_Mo) (T := xT_Mo) (N := 31) hx hb hT xi_Mo hown hK.1 hP 0 rfl rfl 17 (by decide) (hT _ k4d_12) (fun _ h9 => h9) rfl xd_Mo_newRequire_251 ?_
                    refine lv_iload hx hb xd_Mo_newRequire_254 (lv_at hl 6 rfl) ?_
                    refine xn_iald (i := nd - 1) hx hb hK.1 hP 13 0 rfl rfl (by omega) (by decide) xd_Mo_newRequire_256 ?_
                    refine xn_top (x := (g 12 (nd - 1))) (y := nI rq1) erq1 ?_
                    refine lv_iconst (v := 5) hx hb xd_Mo_newRequire_257 (by decide) ?_
                    refine xn_ne (a := rq1) (b := 5) (tgt := 264) hx hb xd_Mo_newRequire_258 (by decide) (by omega) (by omega) (fun hc33 => ?_) (fun hc33 => ?_)
                    · refine lv_aload_n hx hb xd_Mo_newRequire_264 rfl (lv_at hl 2 rfl) ?_
                      refine va_get (D := D) (ci := 4) (v := .ref (mm 13)) (C := xR_Mo) (T := xT_Mo) (N := 31) hx hb hT xi_Mo hown hK.1 hP 0 rfl rfl 18 (by decide) (hT _ k4d_13) (fun _ h9 => h9) rfl xd_Mo_newRequire_265 ?_
                      refine lv_iconst (v := 5) hx hb xd_Mo_newRequire_268 (by decide) ?_
                      refine lv_iload hx hb xd_Mo_newRequire_269 (lv_at hl 6 rfl) ?_
                      refine lv_imul hx hb xd_Mo_newRequire_271 ?_
                      refine xn_top (y := nI (5 * (nd - 1))) (pk_mul 5 (nd - 1)) ?_
                      refine lv_aload_n hx hb xd_Mo_newRequire_272 rfl (lv_at hl 2 rfl) ?_
                      refine va_get (D := D) (ci := 4) (v := .ref (mm 12)) (C := xR_Mo) (T := xT_Mo) (N := 31) hx hb hT xi_Mo hown hK.1 hP 0 rfl rfl 17 (by decide) (hT _ k4d_12) (fun _ h9 => h9) rfl xd_Mo_newRequire_273 ?_
                      refine lv_iload hx hb xd_Mo_newRequire_276 (lv_at hl 6 rfl) ?_
                      refine xn_iald (i := nd - 1) hx hb hK.1 hP 13 0 rfl rfl (by omega) (by decide) xd_Mo_newRequire_278 ?_
                      refine xn_top (x := (g 12 (nd - 1))) (y := nI rq1) erq1 ?_
                      refine lv_iadd hx hb xd_Mo_newRequire_279 ?_
                      refine xn_top (y := nI ((5 * (nd - 1)) + rq1)) (nI_add (5 * (nd - 1)) rq1) ?_
                      refine lv_iload hx hb xd_Mo_newRequire_280 (lv_at hl 5 rfl) ?_
                      refine xn_iast (i := (5 * (nd - 1)) + rq1) hx hb hK.1 hP hD hS 14 0 rfl rfl (by omega) (by decide) xd_Mo_newRequire_282 (fun H locs hP hD hS => ?_)
                      have hP : va_P D xcl (moW h mm kA v (va_up g 13 (upd (g 13) ((5 * (nd - 1)) + rq1) (nV (g 0) (wb wl w2) (we wl w2))))) H := hP
                      have hD : va_D A (moW h mm kA v (va_up g 13 (upd (g 13) ((5 * (nd - 1)) + rq1) (nV (g 0) (wb wl w2) (we wl w2))))) := hD
                      refine lv_aload_n hx hb xd_Mo_newRequire_283 rfl (lv_at hl 2 rfl) ?_
                      refine va_get (D := D) (ci := 4) (v := .ref (mm 16)) (C := xR_Mo) (T := xT_Mo) (N := 31) hx hb hT xi_Mo hown hK.1 hP 0 rfl rfl 21 (by decide) (hT _ k4d_14) (fun _ h9 => h9) rfl xd_Mo_newRequire_284 ?_
                      refine lv_iconst (v := 5) hx hb xd_Mo_newRequire_287 (by decide) ?_
                      refine lv_iload hx hb xd_Mo_newRequire_288 (lv_at hl 6 rfl) ?_
                      refine lv_imul hx hb xd_Mo_newRequire_290 ?_
                      refine xn_top (y := nI (5 * (nd - 1))) (pk_mul 5 (nd - 1)) ?_
                      refine lv_aload_n hx hb xd_Mo_newRequire_291 rfl (lv_at hl 2 rfl) ?_
                      refine va_get (D := D) (ci := 4) (v := .ref (mm 12)) (C := xR_Mo) (T := xT_Mo) (N := 31) hx hb hT xi_Mo hown hK.1 hP 0 rfl rfl 17 (by decide) (hT _ k4d_12) (fun _ h9 => h9) rfl xd_Mo_newRequire_292 ?_
                      refine lv_iload hx hb xd_Mo_newRequire_295 (lv_at hl 6 rfl) ?_
                      refine xn_iald (i := nd - 1) hx hb hK.1 hP 13 0 rfl rfl (by omega) (by decide) xd_Mo_newRequire_297 ?_
                      refine xn_top (x := (g 12 (nd - 1))) (y := nI rq1) erq1 ?_
                      refine lv_iadd hx hb xd_Mo_newRequire_298 ?_
                      refine xn_top (y := nI ((5 * (nd - 1)) + rq1)) (nI_add (5 * (nd - 1)) rq1) ?_
                      refine lv_iload_n hx hb xd_Mo_newRequire_299 rfl (lv_at hl 3 rfl) ?_
                      refine xn_zast (i := (5 * (nd - 1)) + rq1) hx hb hK.1 hP hD hS 17 2 rfl rfl (by omega) (by decide) xd_Mo_newRequire_300 (fun H locs hP hD hS => ?_)
                      have hP : va_P D xcl (moW h mm kA v (va_up (va_up g 13 (upd (g 13) ((5 * (nd - 1)) + rq1) (nV (g 0) (wb wl w2) (we wl w2)))) 16 (upd (g 16) ((5 * (nd - 1)) + rq1) (vp_nar .boolean th)))) H := hP
                      have hD : va_D A (moW h mm kA v (va_up (va_up g 13 (upd (g 13) ((5 * (nd - 1)) + rq1) (nV (g 0) (wb wl w2) (we wl w2)))) 16 (upd (g 16) ((5 * (nd - 1)) + rq1) (vp_nar .boolean th)))) := hD
                      refine lv_aload_n hx hb xd_Mo_newRequire_301 rfl (lv_at hl 2 rfl) ?_
                      refine va_get (D := D) (ci := 4) (v := .ref (mm 17)) (C := xR_Mo) (T := xT_Mo) (N := 31) hx hb hT xi_Mo hown hK.1 hP 0 rfl rfl 22 (by decide) (hT _ k4d_15) (fun _ h9 => h9) rfl xd_Mo_newRequire_302 ?_
                      refine lv_iconst (v := 5) hx hb xd_Mo_newRequire_305 (by decide) ?_
                      refine lv_iload hx hb xd_Mo_newRequire_306 (lv_at hl 6 rfl) ?_
                      refine lv_imul hx hb xd_Mo_newRequire_308 ?_
                      refine xn_top (y := nI (5 * (nd - 1))) (pk_mul 5 (nd - 1)) ?_
                      refine lv_aload_n hx hb xd_Mo_newRequire_309 rfl (lv_at hl 2 rfl) ?_
                      refine va_get (D := D) (ci := 4) (v := .ref (mm 12)) (C := xR_Mo) (T := xT_Mo) (N := 31) hx hb hT xi_Mo hown hK.1 hP 0 rfl rfl 17 (by decide) (hT _ k4d_12) (fun _ h9 => h9) rfl xd_Mo_newRequire_310 ?_
                      refine lv_iload hx hb xd_Mo_newRequire_313 (lv_at hl 6 rfl) ?_
                      refine xn_iald (i := nd - 1) hx hb hK.1 hP 13 0 rfl rfl (by omega) (by decide) xd_Mo_newRequire_315 ?_
                      refine xn_top (x := (g 12 (nd - 1))) (y := nI rq1) erq1 ?_
                      refine lv_iadd hx hb xd_Mo_newRequire_316 ?_
                      refine xn_top (y := nI ((5 * (nd - 1)) + rq1)) (nI_add (5 * (nd - 1)) rq1) ?_
                      refine lv_iload_n hx hb xd_Mo_newRequire_317 rfl (lv_at hl 4 rfl) ?_
                      refine xn_zast (i := (5 * (nd - 1)) + rq1) hx hb hK.1 hP hD hS 18 2 rfl rfl (by omega) (by decide) xd_Mo_newRequire_318 (fun H locs hP hD hS => ?_)
                      have hP : va_P D xcl (moW h mm kA v (va_up (va_up (va_up g 13 (upd (g 13) ((5 * (nd - 1)) + rq1) (nV (g 0) (wb wl w2) (we wl w2)))) 16 (upd (g 16) ((5 * (nd - 1)) + rq1) (vp_nar .boolean th))) 17 (upd (g 17) ((5 * (nd - 1)) + rq1) (vp_nar .boolean qt)))) H := hP
                      have hD : va_D A (moW h mm kA v (va_up (va_up (va_up g 13 (upd (g 13) ((5 * (nd - 1)) + rq1) (nV (g 0) (wb wl w2) (we wl w2)))) 16 (upd (g 16) ((5 * (nd - 1)) + rq1) (vp_nar .boolean th))) 17 (upd (g 17) ((5 * (nd - 1)) + rq1) (vp_nar .boolean qt)))) := hD
                      refine lv_aload_n hx hb xd_Mo_newRequire_319 rfl (lv_at hl 2 rfl) ?_
                      refine va_get (D := D) (ci := 4) (v := .ref (mm 12)) (C := xR_Mo) (T := xT_Mo) (N := 31) hx hb hT xi_Mo hown hK.1 hP 0 rfl rfl 17 (by decide) (hT _ k4d_12) (fun _ h9 => h9) rfl xd_Mo_newRequire_320 ?_
                      refine lv_iload hx hb xd_Mo_newRequire_323 (lv_at hl 6 rfl) ?_
                      refine lv_dup2_11 hx hb xd_Mo_newRequire_325 rfl rfl ?_
                      refine xn_iald (i := nd - 1) hx hb hK.1 hP 13 0 rfl rfl (by omega) (by decide) xd_Mo_newRequire_326 ?_
                      refine xn_top (x := (g 12 (nd - 1))) (y := nI rq1) erq1 ?_
                      refine lv_iconst (v := 1) hx hb xd_Mo_newRequire_327 (by decide) ?_
                      refine lv_iadd hx hb xd_Mo_newRequire_328 ?_
                      refine xn_top (y := nI (rq1 + 1)) (nI_add rq1 1) ?_
                      refine xn_iast (i := nd - 1) hx hb hK.1 hP hD hS 13 0 rfl rfl (by omega) (by decide) xd_Mo_newRequire_329 (fun H locs hP hD hS => ?_)
                      have hP : va_P D xcl (moW h mm kA v (va_up (va_up (va_up (va_up g 12 (upd (g 12) (nd - 1) (nI (rq1 + 1)))) 13 (upd (g 13) ((5 * (nd - 1)) + rq1) (nV (g 0) (wb wl w2) (we wl w2)))) 16 (upd (g 16) ((5 * (nd - 1)) + rq1) (vp_nar .boolean th))) 17 (upd (g 17) ((5 * (nd - 1)) + rq1) (vp_nar .boolean qt)))) H := hP
                      have hD : va_D A (moW h mm kA v (va_up (va_up (va_up (va_up g 12 (upd (g 12) (nd - 1) (nI (rq1 + 1)))) 13 (upd (g 13) ((5 * (nd - 1)) + rq1) (nV (g 0) (wb wl w2) (we wl w2)))) 16 (upd (g 16) ((5 * (nd - 1)) + rq1) (vp_nar .boolean th))) 17 (upd (g 17) ((5 * (nd - 1)) + rq1) (vp_nar .boolean qt)))) := hD
                      refine lv_iconst (v := 2) hx hb xd_Mo_newRequire_330 (by decide) ?_
                      exact W.iret (v := 2) hx hb hr (fun t ht hW => ⟨⟨2, (v, (va_up (va_up (va_up (va_up g 12 (upd (g 12) (nd - 1) (nI (rq1 + 1)))) 13 (upd (g 13) ((5 * (nd - 1)) + rq1) (nV (g 0) (wb wl w2) (we wl w2)))) 16 (upd (g 16) ((5 * (nd - 1)) + rq1) (vp_nar .boolean th))) 17 (upd (g 17) ((5 * (nd - 1)) + rq1) (vp_nar .boolean qt)))), rfl, ⟨MI_g (g := va_up g 12 (upd (g 12) (nd - 1) (nI (rq1 + 1)))) rfl rfl rfl rfl rfl rfl rfl rfl (MI_rq (by omega) hMI), rfl, Or.inr (Or.inr (Or.inr rfl)), congrArg (Prod.mk v) (by
        have htw2 : ¬ g 4 (nd - 1) = nV (g 0) (wb wl w2) (we wl w2) ∧ ∀ j, 5 * (nd - 1) ≤ j → j < i → ¬ g 13 j = nV (g 0) (wb wl w2) (we wl w2) := (by
        rcases htw with ⟨q, q1⟩ | ⟨q, q1, q2⟩
        · exact absurd hc24 q
        · exact ⟨q1, q2⟩)
        exact lR_ok erq1 (by omega) ⟨by rw [hB9]; omega, fun q => hc8 (hnn.symm.trans q), by omega, fun q => htw2.1 (q.trans hnn), fun j a9 b9 q => htw2.2 j a9 (by rw [hir] at b9; omega) (q.trans hnn), z30, by rw [hir]; omega⟩ hnn.symm hthb hqtb)⟩, by rw [ht]; exact hP, hD⟩, hS.F ht⟩) hS.2.2 xd_Mo_newRequire_331
                    · refine lv_bipush (v := (-2)) hx hb xd_Mo_newRequire_261 (by decide) ?_
                      exact W.iret (v := (-2)) hx hb hr (fun t ht hW => ⟨⟨(-2), (v, g), rfl, ⟨hMI, rfl, Or.inr (Or.inl rfl), congrArg (Prod.mk v) (lR_no (fun q => absurd q.2.2.2.2.2.2 (by rw [hir]; omega)))⟩, by rw [ht]; exact hP, hD⟩, hS.F ht⟩) hS.2.2 xd_Mo_newRequire_263
                · refine lv_iconst (v := (-1)) hx hb xd_Mo_newRequire_241 (by decide) ?_
                  exact W.iret (v := (-1)) hx hb hr (fun t ht hW => ⟨⟨(-1), (v, g), rfl, ⟨hMI, rfl, Or.inl rfl, congrArg (Prod.mk v) (lR_no (fun q => by
        rcases htw with ⟨_, q1 | ⟨j, a9, b9, c9⟩⟩ | ⟨q1, _⟩
        · exact q.2.2.2.1 (q1.trans hnn.symm)
        · exact q.2.2.2.2.1 j a9 (by rw [hir]; omega) (c9.trans hnn.symm)
        · exact hc24 q1))⟩, by rw [ht]; exact hP, hD⟩, hS.F ht⟩) hS.2.2 xd_Mo_newRequire_242
              · refine lv_iload hx hb xd_Mo_newRequire_206 (lv_at hl 1 rfl) ?_
                refine lv_if_ne (tgt := 223) hx hb xd_Mo_newRequire_208 (by decide) (fun hc34 => ?_) (fun hc34 => ?_)
                · refine lv_iconst (v := 1) hx hb xd_Mo_newRequire_223 (by decide) ?_
                  refine lv_goto (tgt := 228) hx hb xd_Mo_newRequire_224 (by decide) ?_
                  refine lv_istore hx hb xd_Mo_newRequire_228 hl (Nat.le_of_ble_eq_true rfl) rfl (fun ls hl => ?_)
                  have hl : lv_has ls 8 [(6, .int 1), (7, .int (nI i)), (0, .ref h), (2, .int th), (3, .int qt), (4, .int (nV (g 0) (wb wl w2) (we wl w2))), (5, .int (nI (nd - 1)))] := hl
                  refine lv_iinc (k := 1) (x := (nI i)) (v := (nI (i + 1))) hx hb xd_Mo_newRequire_230 hl rfl (xb_inc i 1) (Nat.le_of_ble_eq_true rfl) rfl (fun ls hl => ?_)
                  have hl : lv_has ls 8 [(7, .int (nI (i + 1))), (6, .int 1), (0, .ref h), (2, .int th), (3, .int qt), (4, .int (nV (g 0) (wb wl w2) (we wl w2))), (5, .int (nI (nd - 1)))] := hl
                  refine lv_goto (tgt := 184) hx hb xd_Mo_newRequire_233 (by decide) ?_
                  exact ih21 (i + 1, 1) _ _ _ (show 5 * (nd - 1) + rq1 - (i + 1) < 5 * (nd - 1) + rq1 - i by omega) (lv_sub hl [0, 1, 2, 3, 4, 5, 6] rfl) hP hD hS ⟨(show 5 * (nd - 1) ≤ (i + 1) from by first | assumption | omega), (show (i + 1) ≤ 5 * (nd - 1) + rq1 from by first | assumption | omega), (show (¬ 1 = 0 ∧ (g 4 (nd - 1) = nV (g 0) (wb wl w2) (we wl w2) ∨ ∃ j, 5 * (nd - 1) ≤ j ∧ j < (i + 1) ∧ g 13 j = nV (g 0) (wb wl w2) (we wl w2))) ∨ (1 = 0 ∧ ¬ g 4 (nd - 1) = nV (g 0) (wb wl w2) (we wl w2) ∧ ∀ j, 5 * (nd - 1) ≤ j → j < (i + 1) → ¬ g 13 j = nV (g 0) (wb wl w2) (we wl w2)) from by
        rcases htw with ⟨q, q1⟩ | ⟨q, q1⟩
        · exact Or.inl ⟨by decide, q1.imp id (fun ⟨j, a9, b9, c9⟩ => ⟨j, a9, by omega, c9⟩)⟩
        · exact absurd q hc34)⟩
                · refine lv_aload_n hx hb xd_Mo_newRequire_211 rfl (lv_at hl 2 rfl) ?_
                  refine va_get (D := D) (ci := 4) (v := .ref (mm 13)) (C := xR_Mo) (T := xT_Mo) (N := 31) hx hb hT xi_Mo hown hK.1 hP 0 rfl rfl 18 (by decide) (hT _ k4d_13) (fun _ h9 => h9) rfl xd_Mo_newRequire_212 ?_
                  refine lv_iload hx hb xd_Mo_newRequire_215 (lv_at hl 0 rfl) ?_
                  refine xn_iald (i := i) hx hb hK.1 hP 14 0 rfl rfl (by omega) (by decide) xd_Mo_newRequire_217 ?_
                  refine lv_iload hx hb xd_Mo_newRequire_218 (lv_at hl 5 rfl) ?_
                  refine lv_icmp_ne (tgt := 227) hx hb xd_Mo_newRequire_220 (by decide) (fun hc35 => ?_) (fun hc35 => ?_)
                  · refine lv_iconst (v := 0) hx hb xd_Mo_newRequire_227 (by decide) ?_
                    refine lv_istore hx hb xd_Mo_newRequire_228 hl (Nat.le_of_ble_eq_true rfl) rfl (fun ls hl => ?_)
                    have hl : lv_has ls 8 [(6, .int 0), (7, .int (nI i)), (0, .ref h), (2, .int th), (3, .int qt), (4, .int (nV (g 0) (wb wl w2) (we wl w2))), (5, .int (nI (nd - 1)))] := hl
                    refine lv_iinc (k := 1) (x := (nI i)) (v := (nI (i + 1))) hx hb xd_Mo_newRequire_230 hl rfl (xb_inc i 1) (Nat.le_of_ble_eq_true rfl) rfl (fun ls hl => ?_)
                    have hl : lv_has ls 8 [(7, .int (nI (i + 1))), (6, .int 0), (0, .ref h), (2, .int th), (3, .int qt), (4, .int (nV (g 0) (wb wl w2) (we wl w2))), (5, .int (nI (nd - 1)))] := hl
                    refine lv_goto (tgt := 184) hx hb xd_Mo_newRequire_233 (by decide) ?_
                    exact ih21 (i + 1, 0) _ _ _ (show 5 * (nd - 1) + rq1 - (i + 1) < 5 * (nd - 1) + rq1 - i by omega) (lv_sub hl [0, 1, 2, 3, 4, 5, 6] rfl) hP hD hS ⟨(show 5 * (nd - 1) ≤ (i + 1) from by first | assumption | omega), (show (i + 1) ≤ 5 * (nd - 1) + rq1 from by first | assumption | omega), (show (¬ 0 = 0 ∧ (g 4 (nd - 1) = nV (g 0) (wb wl w2) (we wl w2) ∨ ∃ j, 5 * (nd - 1) ≤ j ∧ j < (i + 1) ∧ g 13 j = nV (g 0) (wb wl w2) (we wl w2))) ∨ (0 = 0 ∧ ¬ g 4 (nd - 1) = nV (g 0) (wb wl w2) (we wl w2) ∧ ∀ j, 5 * (nd - 1) ≤ j → j < (i + 1) → ¬ g 13 j = nV (g 0) (wb wl w2) (we wl w2)) from by
        rcases htw with ⟨q, q1⟩ | ⟨q, q1, q2⟩
        · exact absurd hc34 q
        · refine Or.inr ⟨rfl, q1, fun j a9 b9 => ?_⟩
          rcases Nat.lt_or_ge j i with z | z
          · exact q2 j a9 z
          · rw [show j = i by omega]; exact hc35)⟩
                  · refine lv_iconst (v := 1) hx hb xd_Mo_newRequire_223 (by decide) ?_
                    refine lv_goto (tgt := 228) hx hb xd_Mo_newRequire_224 (by decide) ?_
                    refine lv_istore hx hb xd_Mo_newRequire_228 hl (Nat.le_of_ble_eq_true rfl) rfl (fun ls hl => ?_)
                    have hl : lv_has ls 8 [(6, .int 1), (7, .int (nI i)), (0, .ref h), (2, .int th), (3, .int qt), (4, .int (nV (g 0) (wb wl w2) (we wl w2))), (5, .int (nI (nd - 1)))] := hl
                    refine lv_iinc (k := 1) (x := (nI i)) (v := (nI (i + 1))) hx hb xd_Mo_newRequire_230 hl rfl (xb_inc i 1) (Nat.le_of_ble_eq_true rfl) rfl (fun ls hl => ?_)
                    have hl : lv_has ls 8 [(7, .int (nI (i + 1))), (6, .int 1), (0, .ref h), (2, .int th), (3, .int qt), (4, .int (nV (g 0) (wb wl w2) (we wl w2))), (5, .int (nI (nd - 1)))] := hl
                    refine lv_goto (tgt := 184) hx hb xd_Mo_newRequire_233 (by decide) ?_
                    exact ih21 (i + 1, 1) _ _ _ (show 5 * (nd - 1) + rq1 - (i + 1) < 5 * (nd - 1) + rq1 - i by omega) (lv_sub hl [0, 1, 2, 3, 4, 5, 6] rfl) hP hD hS ⟨(show 5 * (nd - 1) ≤ (i + 1) from by first | assumption | omega), (show (i + 1) ≤ 5 * (nd - 1) + rq1 from by first | assumption | omega), (show (¬ 1 = 0 ∧ (g 4 (nd - 1) = nV (g 0) (wb wl w2) (we wl w2) ∨ ∃ j, 5 * (nd - 1) ≤ j ∧ j < (i + 1) ∧ g 13 j = nV (g 0) (wb wl w2) (we wl w2))) ∨ (1 = 0 ∧ ¬ g 4 (nd - 1) = nV (g 0) (wb wl w2) (we wl w2) ∧ ∀ j, 5 * (nd - 1) ≤ j → j < (i + 1) → ¬ g 13 j = nV (g 0) (wb wl w2) (we wl w2)) from Or.inl ⟨by decide, Or.inr ⟨i, by omega, by omega, hc35⟩⟩)⟩
            · refine lv_iconst (v := 1) hx hb xd_Mo_newRequire_171 (by decide) ?_
              refine lv_goto (tgt := 176) hx hb xd_Mo_newRequire_172 (by decide) ?_
              refine lv_istore hx hb xd_Mo_newRequire_176 hl (Nat.le_of_ble_eq_true rfl) rfl (fun ls hl => ?_)
              have hl : lv_has ls 8 [(6, .int 1), (5, .int (nI (nd - 1))), (4, .int (nV (g 0) (wb wl w2) (we wl w2))), (3, .int qt), (1, .int (nI w2)), (2, .int th), (0, .ref h)] := hl
              refine lv_iconst (v := 5) hx hb xd_Mo_newRequire_178 (by decide) ?_
              refine lv_iload hx hb xd_Mo_newRequire_179 (lv_at hl 1 rfl) ?_
              refine lv_imul hx hb xd_Mo_newRequire_181 ?_
              refine xn_top (y := nI (5 * (nd - 1))) (pk_mul 5 (nd - 1)) ?_
              refine lv_istore hx hb xd_Mo_newRequire_182 hl (Nat.le_of_ble_eq_true rfl) rfl (fun ls hl => ?_)
              have hl : lv_has ls 8 [(7, .int (nI (5 * (nd - 1)))), (6, .int 1), (5, .int (nI (nd - 1))), (4, .int (nV (g 0) (wb wl w2) (we wl w2))), (3, .int qt), (1, .int (nI w2)), (2, .int th), (0, .ref h)] := hl
              refine xlab (σ := Nat × Int32) (ml := 8) 184 (fun (i, tw) => [(7, .int (nI i)), (6, .int tw), (0, .ref h), (2, .int th), (3, .int qt), (4, .int (nV (g 0) (wb wl w2) (we wl w2))), (5, .int (nI (nd - 1)))]) (fun (i, tw) => []) (fun (i, tw) => moW h mm kA v g) (fun (i, tw) => (5 * (nd - 1) ≤ i) ∧ (i ≤ 5 * (nd - 1) + rq1) ∧ ((¬ tw = 0 ∧ (g 4 (nd - 1) = nV (g 0) (wb wl w2) (we wl w2) ∨ ∃ j, 5 * (nd - 1) ≤ j ∧ j < i ∧ g 13 j = nV (g 0) (wb wl w2) (we wl w2))) ∨ (tw = 0 ∧ ¬ g 4 (nd - 1) = nV (g 0) (wb wl w2) (we wl w2) ∧ ∀ j, 5 * (nd - 1) ≤ j → j < i → ¬ g 13 j = nV (g 0) (wb wl w2) (we wl w2)))) (fun (i, tw) => 5 * (nd - 1) + rq1 - i) ?_ (5 * (nd - 1), 1) _ _ _ (lv_sub hl [0, 1, 7, 6, 4, 3, 2] rfl) hP hD hS ⟨(show 5 * (nd - 1) ≤ (5 * (nd - 1)) from by first | assumption | omega), (show (5 * (nd - 1)) ≤ 5 * (nd - 1) + rq1 from by first | assumption | omega), (show (¬ 1 = 0 ∧ (g 4 (nd - 1) = nV (g 0) (wb wl w2) (we wl w2) ∨ ∃ j, 5 * (nd - 1) ≤ j ∧ j < (5 * (nd - 1)) ∧ g 13 j = nV (g 0) (wb wl w2) (we wl w2))) ∨ (1 = 0 ∧ ¬ g 4 (nd - 1) = nV (g 0) (wb wl w2) (we wl w2) ∧ ∀ j, 5 * (nd - 1) ≤ j → j < (5 * (nd - 1)) → ¬ g 13 j = nV (g 0) (wb wl w2) (we wl w2)) from Or.inl ⟨by decide, Or.inl hc20⟩)⟩
              intro n9 ih36 a9 ls H locs hμ hl hP hD hS hI
              subst hμ
              obtain ⟨i, tw⟩ := a9
              obtain ⟨hi1, hi2, htw⟩ := hI
              have hi1 : 5 * (nd - 1) ≤ i := hi1
              have hi2 : i ≤ 5 * (nd - 1) + rq1 := hi2
              have htw : (¬ tw = 0 ∧ (g 4 (nd - 1) = nV (g 0) (wb wl w2) (we wl w2) ∨ ∃ j, 5 * (nd - 1) ≤ j ∧ j < i ∧ g 13 j = nV (g 0) (wb wl w2) (we wl w2))) ∨ (tw = 0 ∧ ¬ g 4 (nd - 1) = nV (g 0) (wb wl w2) (we wl w2) ∧ ∀ j, 5 * (nd - 1) ≤ j → j < i → ¬ g 13 j = nV (g 0) (wb wl w2) (we wl w2)) := htw
              have hl : lv_has ls 8 [(7, .int (nI i)), (6, .int tw), (0, .ref h), (2, .int th), (3, .int qt), (4, .int (nV (g 0) (wb wl w2) (we wl w2))), (5, .int (nI (nd - 1)))] := hl
              have hP : va_P D xcl (moW h mm kA v g) H := hP
              have hD : va_D A (moW h mm kA v g) := hD
              refine lv_iload hx hb xd_Mo_newRequire_184 (lv_at hl 6 rfl) ?_
              refine xz_lt (a := nd - 1) (tgt := 236) hx hb xd_Mo_newRequire_186 (by decide) (by omega) ?_
              refine lv_iload hx hb xd_Mo_newRequire_189 (lv_at hl 0 rfl) ?_
              refine lv_iconst (v := 5) hx hb xd_Mo_newRequire_191 (by decide) ?_
              refine lv_iload hx hb xd_Mo_newRequire_192 (lv_at hl 6 rfl) ?_
              refine lv_imul hx hb xd_Mo_newRequire_194 ?_
              refine xn_top (y := nI (5 * (nd - 1))) (pk_mul 5 (nd - 1)) ?_
              refine lv_aload_n hx hb xd_Mo_newRequire_195 rfl (lv_at hl 2 rfl) ?_
              refine va_get (D := D) (ci := 4) (v := .ref (mm 12)) (C := xR_Mo) (T := xT_Mo) (N := 31) hx hb hT xi_Mo hown hK.1 hP 0 rfl rfl 17 (by decide) (hT _ k4d_12) (fun _ h9 => h9) rfl xd_Mo_newRequire_196 ?_
              refine lv_iload hx hb xd_Mo_newRequire_199 (lv_at hl 6 rfl) ?_
              refine xn_iald (i := nd - 1) hx hb hK.1 hP 13 0 rfl rfl (by omega) (by decide) xd_Mo_newRequire_201 ?_
              refine xn_top (x := (g 12 (nd - 1))) (y := nI rq1) erq1 ?_
              refine lv_iadd hx hb xd_Mo_newRequire_202 ?_
              refine xn_top (y := nI ((5 * (nd - 1)) + rq1)) (nI_add (5 * (nd - 1)) rq1) ?_
              refine xn_ge (a := i) (b := (5 * (nd - 1)) + rq1) (tgt := 236) hx hb xd_Mo_newRequire_203 (by decide) (by omega) (by omega) (fun hc38 => ?_) (fun hc38 => ?_)
              · refine lv_iload hx hb xd_Mo_newRequire_236 (lv_at hl 1 rfl) ?_
                refine lv_if_eq (tgt := 243) hx hb xd_Mo_newRequire_238 (by decide) (fun hc39 => ?_) (fun hc39 => ?_)
                · refine lv_aload_n hx hb xd_Mo_newRequire_243 rfl (lv_at hl 2 rfl) ?_
                  have hFc := va_free (wc := (moW h mm kA v g)) hD hS hA [0, 1, 2, 3, 4, 5, 6, 7, 8, 9, 10, 11, 12, 13, 14, 15, 16, 17, 18, 19, 20, 21, 22, 23, 24, 25] rfl
                  refine va_calli (va_runV (As := []) (rest := []) ⟨hx, hb, hml, hown, hT⟩ (xc_Mo_isShut l D kA H.size h mm v g nd (by first | assumption | omega) (by first | assumption | omega)) (cwV 0 hT (wT_V k4d_8 k4d_9 k4d_10 k4d_5 k4d_7) rfl rfl rfl (by decide +kernel) ⟨Nat.le_of_ble_eq_true rfl, Nat.le_of_ble_eq_true rfl⟩) (x_preV hK hP hD 0 rfl rfl) rfl rfl hl.1 rfl (lv_room (Nat.le_of_ble_eq_true rfl)) xd_Mo_newRequire_244 ⟨Nat.le_of_ble_eq_true rfl, Nat.le_of_ble_eq_true rfl⟩) hS (fun q _ h => hFc q h) hFc (fun r40 u41 t H1 locs ht hvm hp42 hB hz1 hk1 hS => ?_)
                  obtain ⟨hP1, hD1⟩ := hB
                  rw [ht] at hP1
                  have hD1 := hD1.weaken (fun _ _ _ h => hFc _ h)
                  generalize H1 = H at hP1 hS ⊢
                  have hP := hP1
                  have hD := hD1
                  have hP : va_P D xcl (moW h mm kA v g) H := hP
                  have hD : va_D A (moW h mm kA v g) := hD
                  rcases hp42 with ⟨rfl, z43⟩ | ⟨rfl, z44, z45⟩
                  · refine xz_ne (a := 1) (tgt := 261) hx hb xd_Mo_newRequire_247 (by decide) (by omega) (fun _ => ?_) (fun hc46 => absurd hc46 (by omega))
                    refine lv_bipush (v := (-2)) hx hb xd_Mo_newRequire_261 (by decide) ?_
                    exact W.iret (v := (-2)) hx hb hr (fun t ht hW => ⟨⟨(-2), (v, g), rfl, ⟨hMI, rfl, Or.inr (Or.inl rfl), congrArg (Prod.mk v) (lR_no (fun q => z43.elim (fun z => absurd q.2.2.1 (by omega)) (fun z => z q.2.2.2.2.2.1)))⟩, by rw [ht]; exact hP, hD⟩, hS.F ht⟩) hS.2.2 xd_Mo_newRequire_263
                  · refine xz_ne (a := 0) (tgt := 261) hx hb xd_Mo_newRequire_247 (by decide) (by omega) (fun hc47 => absurd hc47 (by omega)) (fun _ => ?_)
                    refine lv_aload_n hx hb xd_Mo_newRequire_250 rfl (lv_at hl 2 rfl) ?_
                    refine va_get (D := D) (ci := 4) (v := .ref (mm 12)) (C := xR_Mo) (T := xT_Mo) (N := 31) hx hb hT xi_Mo hown hK.1 hP 0 rfl rfl 17 (by decide) (hT _ k4d_12) (fun _ h9 => h9) rfl xd_Mo_newRequire_251 ?_
                    refine lv_iload hx hb xd_Mo_newRequire_254 (lv_at hl 6 rfl) ?_
                    refine xn_iald (i := nd - 1) hx hb hK.1 hP 13 0 rfl rfl (by omega) (by decide) xd_Mo_newRequire_256 ?_
                    refine xn_top (x := (g 12 (nd - 1))) (y := nI rq1) erq1 ?_
                    refine lv_iconst (v := 5) hx hb xd_Mo_newRequire_257 (by decide) ?_
                    refine xn_ne (a := rq1) (b := 5) (tgt := 264) hx hb xd_Mo_newRequire_258 (by decide) (by omega) (by omega) (fun hc48 => ?_) (fun hc48 => ?_)
                    · refine lv_aload_n hx hb xd_Mo_newRequire_264 rfl (lv_at hl 2 rfl) ?_
                      refine va_get (D := D) (ci := 4) (v := .ref (mm 13)) (C := xR_Mo) (T := xT_Mo) (N := 31) hx hb hT xi_Mo hown hK.1 hP 0 rfl rfl 18 (by decide) (hT _ k4d_13) (fun _ h9 => h9) rfl xd_Mo_newRequire_265 ?_
                      refine lv_iconst (v := 5) hx hb xd_Mo_newRequire_268 (by decide) ?_
                      refine lv_iload hx hb xd_Mo_newRequire_269 (lv_at hl 6 rfl) ?_
                      refine lv_imul hx hb xd_Mo_newRequire_271 ?_
                      refine xn_top (y := nI (5 * (nd - 1))) (pk_mul 5 (nd - 1)) ?_
                      refine lv_aload_n hx hb xd_Mo_newRequire_272 rfl (lv_at hl 2 rfl) ?_
                      refine va_get (D := D) (ci := 4) (v := .ref (mm 12)) (C := xR_Mo) (T := xT_Mo) (N := 31) hx hb hT xi_Mo hown hK.1 hP 0 rfl rfl 17 (by decide) (hT _ k4d_12) (fun _ h9 => h9) rfl xd_Mo_newRequire_273 ?_
                      refine lv_iload hx hb xd_Mo_newRequire_276 (lv_at hl 6 rfl) ?_
                      refine xn_iald (i := nd - 1) hx hb hK.1 hP 13 0 rfl rfl (by omega) (by decide) xd_Mo_newRequire_278 ?_
                      refine xn_top (x := (g 12 (nd - 1))) (y := nI rq1) erq1 ?_
                      refine lv_iadd hx hb xd_Mo_newRequire_279 ?_
                      refine xn_top (y := nI ((5 * (nd - 1)) + rq1)) (nI_add (5 * (nd - 1)) rq1) ?_
                      refine lv_iload hx hb xd_Mo_newRequire_280 (lv_at hl 5 rfl) ?_
                      refine xn_iast (i := (5 * (nd - 1)) + rq1) hx hb hK.1 hP hD hS 14 0 rfl rfl (by omega) (by decide) xd_Mo_newRequire_282 (fun H locs hP hD hS => ?_)
                      have hP : va_P D xcl (moW h mm kA v (va_up g 13 (upd (g 13) ((5 * (nd - 1)) + rq1) (nV (g 0) (wb wl w2) (we wl w2))))) H := hP
                      have hD : va_D A (moW h mm kA v (va_up g 13 (upd (g 13) ((5 * (nd - 1)) + rq1) (nV (g 0) (wb wl w2) (we wl w2))))) := hD
                      refine lv_aload_n hx hb xd_Mo_newRequire_283 rfl (lv_at hl 2 rfl) ?_
                      refine va_get (D := D) (ci := 4) (v := .ref (mm 16)) (C := xR_Mo) (T := xT_Mo) (N := 31) hx hb hT xi_Mo hown hK.1 hP 0 rfl rfl 21 (by decide) (hT _ k4d_14) (fun _ h9 => h9) rfl xd_Mo_newRequire_284 ?_
                      refine lv_iconst (v := 5) hx hb xd_Mo_newRequire_287 (by decide) ?_
                      refine lv_iload hx hb xd_Mo_newRequire_288 (lv_at hl 6 rfl) ?_
                      refine lv_imul hx hb xd_Mo_newRequire_290 ?_
                      refine xn_top (y := nI (5 * (nd - 1))) (pk_mul 5 (nd - 1)) ?_
                      refine lv_aload_n hx hb xd_Mo_newRequire_291 rfl (lv_at hl 2 rfl) ?_
                      refine va_get (D := D) (ci := 4) (v := .ref (mm 12)) (C := xR_Mo) (T := xT_Mo) (N := 31) hx hb hT xi_Mo hown hK.1 hP 0 rfl rfl 17 (by decide) (hT _ k4d_12) (fun _ h9 => h9) rfl xd_Mo_newRequire_292 ?_
                      refine lv_iload hx hb xd_Mo_newRequire_295 (lv_at hl 6 rfl) ?_
                      refine xn_iald (i := nd - 1) hx hb hK.1 hP 13 0 rfl rfl (by omega) (by decide) xd_Mo_newRequire_297 ?_
                      refine xn_top (x := (g 12 (nd - 1))) (y := nI rq1) erq1 ?_
                      refine lv_iadd hx hb xd_Mo_newRequire_298 ?_
                      refine xn_top (y := nI ((5 * (nd - 1)) + rq1)) (nI_add (5 * (nd - 1)) rq1) ?_
                      refine lv_iload_n hx hb xd_Mo_newRequire_299 rfl (lv_at hl 3 rfl) ?_
                      refine xn_zast (i := (5 * (nd - 1)) + rq1) hx hb hK.1 hP hD hS 17 2 rfl rfl (by omega) (by decide) xd_Mo_newRequire_300 (fun H locs hP hD hS => ?_)
                      have hP : va_P D xcl (moW h mm kA v (va_up (va_up g 13 (upd (g 13) ((5 * (nd - 1)) + rq1) (nV (g 0) (wb wl w2) (we wl w2)))) 16 (upd (g 16) ((5 * (nd - 1)) + rq1) (vp_nar .boolean th)))) H := hP
                      have hD : va_D A (moW h mm kA v (va_up (va_up g 13 (upd (g 13) ((5 * (nd - 1)) + rq1) (nV (g 0) (wb wl w2) (we wl w2)))) 16 (upd (g 16) ((5 * (nd - 1)) + rq1) (vp_nar .boolean th)))) := hD
                      refine lv_aload_n hx hb xd_Mo_newRequire_301 rfl (lv_at hl 2 rfl) ?_
                      refine va_get (D := D) (ci := 4) (v := .ref (mm 17)) (C := xR_Mo) (T := xT_Mo) (N := 31) hx hb hT xi_Mo hown hK.1 hP 0 rfl rfl 22 (by decide) (hT _ k4d_15) (fun _ h9 => h9) rfl xd_Mo_newRequire_302 ?_
                      refine lv_iconst (v := 5) hx hb xd_Mo_newRequire_305 (by decide) ?_
                      refine lv_iload hx hb xd_Mo_newRequire_306 (lv_at hl 6 rfl) ?_
                      refine lv_imul hx hb xd_Mo_newRequire_308 ?_
                      refine xn_top (y := nI (5 * (nd - 1))) (pk_mul 5 (nd - 1)) ?_
                      refine lv_aload_n hx hb xd_Mo_newRequire_309 rfl (lv_at hl 2 rfl) ?_
                      refine va_get (D := D) (ci := 4) (v := .ref (mm 12)) (C := xR_Mo) (T := xT_Mo) (N := 31) hx hb hT xi_Mo hown hK.1 hP 0 rfl rfl 17 (by decide) (hT _ k4d_12) (fun _ h9 => h9) rfl xd_Mo_newRequire_310 ?_
                      refine lv_iload hx hb xd_Mo_newRequire_313 (lv_at hl 6 rfl) ?_
                      refine xn_iald (i := nd - 1) hx hb hK.1 hP 13 0 rfl rfl (by omega) (by decide) xd_Mo_newRequire_315 ?_
                      refine xn_top (x := (g 12 (nd - 1))) (y := nI rq1) erq1 ?_
                      refine lv_iadd hx hb xd_Mo_newRequire_316 ?_
                      refine xn_top (y := nI ((5 * (nd - 1)) + rq1)) (nI_add (5 * (nd - 1)) rq1) ?_
                      refine lv_iload_n hx hb xd_Mo_newRequire_317 rfl (lv_at hl 4 rfl) ?_
                      refine xn_zast (i := (5 * (nd - 1)) + rq1) hx hb hK.1 hP hD hS 18 2 rfl rfl (by omega) (by decide) xd_Mo_newRequire_318 (fun H locs hP hD hS => ?_)
                      have hP : va_P D xcl (moW h mm kA v (va_up (va_up (va_up g 13 (upd (g 13) ((5 * (nd - 1)) + rq1) (nV (g 0) (wb wl w2) (we wl w2)))) 16 (upd (g 16) ((5 * (nd - 1)) + rq1) (vp_nar .boolean th))) 17 (upd (g 17) ((5 * (nd - 1)) + rq1) (vp_nar .boolean qt)))) H := hP
                      have hD : va_D A (moW h mm kA v (va_up (va_up (va_up g 13 (upd (g 13) ((5 * (nd - 1)) + rq1) (nV (g 0) (wb wl w2) (we wl w2)))) 16 (upd (g 16) ((5 * (nd - 1)) + rq1) (vp_nar .boolean th))) 17 (upd (g 17) ((5 * (nd - 1)) + rq1) (vp_nar .boolean qt)))) := hD
                      refine lv_aload_n hx hb xd_Mo_newRequire_319 rfl (lv_at hl 2 rfl) ?_
                      refine va_get (D := D) (ci := 4) (v := .ref (mm 12)) (C := xR_Mo) (T := xT_Mo) (N := 31) hx hb hT xi_Mo hown hK.1 hP 0 rfl rfl 17 (by decide) (hT _ k4d_12) (fun _ h9 => h9) rfl xd_Mo_newRequire_320 ?_
                      refine lv_iload hx hb xd_Mo_newRequire_323 (lv_at hl 6 rfl) ?_
                      refine lv_dup2_11 hx hb xd_Mo_newRequire_325 rfl rfl ?_
                      refine xn_iald (i := nd - 1) hx hb hK.1 hP 13 0 rfl rfl (by omega) (by decide) xd_Mo_newRequire_326 ?_
                      refine xn_top (x := (g 12 (nd - 1))) (y := nI rq1) erq1 ?_
                      refine lv_iconst (v := 1) hx hb xd_Mo_newRequire_327 (by decide) ?_
                      refine lv_iadd hx hb xd_Mo_newRequire_328 ?_
                      refine xn_top (y := nI (rq1 + 1)) (nI_add rq1 1) ?_
                      refine xn_iast (i := nd - 1) hx hb hK.1 hP hD hS 13 0 rfl rfl (by omega) (by decide) xd_Mo_newRequire_329 (fun H locs hP hD hS => ?_)
                      have hP : va_P D xcl (moW h mm kA v (va_up (va_up (va_up (va_up g 12 (upd (g 12) (nd - 1) (nI (rq1 + 1)))) 13 (upd (g 13) ((5 * (nd - 1)) + rq1) (nV (g 0) (wb wl w2) (we wl w2)))) 16 (upd (g 16) ((5 * (nd - 1)) + rq1) (vp_nar .boolean th))) 17 (upd (g 17) ((5 * (nd - 1)) + rq1) (vp_nar .boolean qt)))) H := hP
                      have hD : va_D A (moW h mm kA v (va_up (va_up (va_up (va_up g 12 (upd (g 12) (nd - 1) (nI (rq1 + 1)))) 13 (upd (g 13) ((5 * (nd - 1)) + rq1) (nV (g 0) (wb wl w2) (we wl w2)))) 16 (upd (g 16) ((5 * (nd - 1)) + rq1) (vp_nar .boolean th))) 17 (upd (g 17) ((5 * (nd - 1)) + rq1) (vp_nar .boolean qt)))) := hD
                      refine lv_iconst (v := 2) hx hb xd_Mo_newRequire_330 (by decide) ?_
                      exact W.iret (v := 2) hx hb hr (fun t ht hW => ⟨⟨2, (v, (va_up (va_up (va_up (va_up g 12 (upd (g 12) (nd - 1) (nI (rq1 + 1)))) 13 (upd (g 13) ((5 * (nd - 1)) + rq1) (nV (g 0) (wb wl w2) (we wl w2)))) 16 (upd (g 16) ((5 * (nd - 1)) + rq1) (vp_nar .boolean th))) 17 (upd (g 17) ((5 * (nd - 1)) + rq1) (vp_nar .boolean qt)))), rfl, ⟨MI_g (g := va_up g 12 (upd (g 12) (nd - 1) (nI (rq1 + 1)))) rfl rfl rfl rfl rfl rfl rfl rfl (MI_rq (by omega) hMI), rfl, Or.inr (Or.inr (Or.inr rfl)), congrArg (Prod.mk v) (by
        have htw2 : ¬ g 4 (nd - 1) = nV (g 0) (wb wl w2) (we wl w2) ∧ ∀ j, 5 * (nd - 1) ≤ j → j < i → ¬ g 13 j = nV (g 0) (wb wl w2) (we wl w2) := (by
        rcases htw with ⟨q, q1⟩ | ⟨q, q1, q2⟩
        · exact absurd hc39 q
        · exact ⟨q1, q2⟩)
        exact lR_ok erq1 (by omega) ⟨by rw [hB9]; omega, fun q => hc8 (hnn.symm.trans q), by omega, fun q => htw2.1 (q.trans hnn), fun j a9 b9 q => htw2.2 j a9 (by rw [hir] at b9; omega) (q.trans hnn), z45, by rw [hir]; omega⟩ hnn.symm hthb hqtb)⟩, by rw [ht]; exact hP, hD⟩, hS.F ht⟩) hS.2.2 xd_Mo_newRequire_331
                    · refine lv_bipush (v := (-2)) hx hb xd_Mo_newRequire_261 (by decide) ?_
                      exact W.iret (v := (-2)) hx hb hr (fun t ht hW => ⟨⟨(-2), (v, g), rfl, ⟨hMI, rfl, Or.inr (Or.inl rfl), congrArg (Prod.mk v) (lR_no (fun q => absurd q.2.2.2.2.2.2 (by rw [hir]; omega)))⟩, by rw [ht]; exact hP, hD⟩, hS.F ht⟩) hS.2.2 xd_Mo_newRequire_263
                · refine lv_iconst (v := (-1)) hx hb xd_Mo_newRequire_241 (by decide) ?_
                  exact W.iret (v := (-1)) hx hb hr (fun t ht hW => ⟨⟨(-1), (v, g), rfl, ⟨hMI, rfl, Or.inl rfl, congrArg (Prod.mk v) (lR_no (fun q => by
        rcases htw with ⟨_, q1 | ⟨j, a9, b9, c9⟩⟩ | ⟨q1, _⟩
        · exact q.2.2.2.1 (q1.trans hnn.symm)
        · exact q.2.2.2.2.1 j a9 (by rw [hir]; omega) (c9.trans hnn.symm)
        · exact hc39 q1))⟩, by rw [ht]; exact hP, hD⟩, hS.F ht⟩) hS.2.2 xd_Mo_newRequire_242
              · refine lv_iload hx hb xd_Mo_newRequire_206 (lv_at hl 1 rfl) ?_
                refine lv_if_ne (tgt := 223) hx hb xd_Mo_newRequire_208 (by decide) (fun hc49 => ?_) (fun hc49 => ?_)
                · refine lv_iconst (v := 1) hx hb xd_Mo_newRequire_223 (by decide) ?_
                  refine lv_goto (tgt := 228) hx hb xd_Mo_newRequire_224 (by decide) ?_
                  refine lv_istore hx hb xd_Mo_newRequire_228 hl (Nat.le_of_ble_eq_true rfl) rfl (fun ls hl => ?_)
                  have hl : lv_has ls 8 [(6, .int 1), (7, .int (nI i)), (0, .ref h), (2, .int th), (3, .int qt), (4, .int (nV (g 0) (wb wl w2) (we wl w2))), (5, .int (nI (nd - 1)))] := hl
                  refine lv_iinc (k := 1) (x := (nI i)) (v := (nI (i + 1))) hx hb xd_Mo_newRequire_230 hl rfl (xb_inc i 1) (Nat.le_of_ble_eq_true rfl) rfl (fun ls hl => ?_)
                  have hl : lv_has ls 8 [(7, .int (nI (i + 1))), (6, .int 1), (0, .ref h), (2, .int th), (3, .int qt), (4, .int (nV (g 0) (wb wl w2) (we wl w2))), (5, .int (nI (nd - 1)))] := hl
                  refine lv_goto (tgt := 184) hx hb xd_Mo_newRequire_233 (by decide) ?_
                  exact ih36 (i + 1, 1) _ _ _ (show 5 * (nd - 1) + rq1 - (i + 1) < 5 * (nd - 1) + rq1 - i by omega) (lv_sub hl [0, 1, 2, 3, 4, 5, 6] rfl) hP hD hS ⟨(show 5 * (nd - 1) ≤ (i + 1) from by first | assumption | omega), (show (i + 1) ≤ 5 * (nd - 1) + rq1 from by first | assumption | omega), (show (¬ 1 = 0 ∧ (g 4 (nd - 1) = nV (g 0) (wb wl w2) (we wl w2) ∨ ∃ j, 5 * (nd - 1) ≤ j ∧ j < (i + 1) ∧ g 13 j = nV (g 0) (wb wl w2) (we wl w2))) ∨ (1 = 0 ∧ ¬ g 4 (nd - 1) = nV (g 0) (wb wl w2) (we wl w2) ∧ ∀ j, 5 * (nd - 1) ≤ j → j < (i + 1) → ¬ g 13 j = nV (g 0) (wb wl w2) (we wl w2)) from by
        rcases htw with ⟨q, q1⟩ | ⟨q, q1⟩
        · exact Or.inl ⟨by decide, q1.imp id (fun ⟨j, a9, b9, c9⟩ => ⟨j, a9, by omega, c9⟩)⟩
        · exact absurd q hc49)⟩
                · refine lv_aload_n hx hb xd_Mo_newRequire_211 rfl (lv_at hl 2 rfl) ?_
                  refine va_get (D := D) (ci := 4) (v := .ref (mm 13)) (C := xR_Mo) (T := xT_Mo) (N := 31) hx hb hT xi_Mo hown hK.1 hP 0 rfl rfl 18 (by decide) (hT _ k4d_13) (fun _ h9 => h9) rfl xd_Mo_newRequire_212 ?_
                  refine lv_iload hx hb xd_Mo_newRequire_215 (lv_at hl 0 rfl) ?_
                  refine xn_iald (i := i) hx hb hK.1 hP 14 0 rfl rfl (by omega) (by decide) xd_Mo_newRequire_217 ?_
                  refine lv_iload hx hb xd_Mo_newRequire_218 (lv_at hl 5 rfl) ?_
                  refine lv_icmp_ne (tgt := 227) hx hb xd_Mo_newRequire_220 (by decide) (fun hc50 => ?_) (fun hc50 => ?_)
                  · refine lv_iconst (v := 0) hx hb xd_Mo_newRequire_227 (by decide) ?_
                    refine lv_istore hx hb xd_Mo_newRequire_228 hl (Nat.le_of_ble_eq_true rfl) rfl (fun ls hl => ?_)
                    have hl : lv_has ls 8 [(6, .int 0), (7, .int (nI i)), (0, .ref h), (2, .int th), (3, .int qt), (4, .int (nV (g 0) (wb wl w2) (we wl w2))), (5, .int (nI (nd - 1)))] := hl
                    refine lv_iinc (k := 1) (x := (nI i)) (v := (nI (i + 1))) hx hb xd_Mo_newRequire_230 hl rfl (xb_inc i 1) (Nat.le_of_ble_eq_true rfl) rfl (fun ls hl => ?_)
                    have hl : lv_has ls 8 [(7, .int (nI (i + 1))), (6, .int 0), (0, .ref h), (2, .int th), (3, .int qt), (4, .int (nV (g 0) (wb wl w2) (we wl w2))), (5, .int (nI (nd - 1)))] := hl
                    refine lv_goto (tgt := 184) hx hb xd_Mo_newRequire_233 (by decide) ?_
                    exact ih36 (i + 1, 0) _ _ _ (show 5 * (nd - 1) + rq1 - (i + 1) < 5 * (nd - 1) + rq1 - i by omega) (lv_sub hl [0, 1, 2, 3, 4, 5, 6] rfl) hP hD hS ⟨(show 5 * (nd - 1) ≤ (i + 1) from by first | assumption | omega), (show (i + 1) ≤ 5 * (nd - 1) + rq1 from by first | assumption | omega), (show (¬ 0 = 0 ∧ (g 4 (nd - 1) = nV (g 0) (wb wl w2) (we wl w2) ∨ ∃ j, 5 * (nd - 1) ≤ j ∧ j < (i + 1) ∧ g 13 j = nV (g 0) (wb wl w2) (we wl w2))) ∨ (0 = 0 ∧ ¬ g 4 (nd - 1) = nV (g 0) (wb wl w2) (we wl w2) ∧ ∀ j, 5 * (nd - 1) ≤ j → j < (i + 1) → ¬ g 13 j = nV (g 0) (wb wl w2) (we wl w2)) from by
        rcases htw with ⟨q, q1⟩ | ⟨q, q1, q2⟩
        · exact absurd hc49 q
        · refine Or.inr ⟨rfl, q1, fun j a9 b9 => ?_⟩
          rcases Nat.lt_or_ge j i with z | z
          · exact q2 j a9 z
          · rw [show j = i by omega]; exact hc50)⟩
                  · refine lv_iconst (v := 1) hx hb xd_Mo_newRequire_223 (by decide) ?_
                    refine lv_goto (tgt := 228) hx hb xd_Mo_newRequire_224 (by decide) ?_
                    refine lv_istore hx hb xd_Mo_newRequire_228 hl (Nat.le_of_ble_eq_true rfl) rfl (fun ls hl => ?_)
                    have hl : lv_has ls 8 [(6, .int 1), (7, .int (nI i)), (0, .ref h), (2, .int th), (3, .int qt), (4, .int (nV (g 0) (wb wl w2) (we wl w2))), (5, .int (nI (nd - 1)))] := hl
                    refine lv_iinc (k := 1) (x := (nI i)) (v := (nI (i + 1))) hx hb xd_Mo_newRequire_230 hl rfl (xb_inc i 1) (Nat.le_of_ble_eq_true rfl) rfl (fun ls hl => ?_)
                    have hl : lv_has ls 8 [(7, .int (nI (i + 1))), (6, .int 1), (0, .ref h), (2, .int th), (3, .int qt), (4, .int (nV (g 0) (wb wl w2) (we wl w2))), (5, .int (nI (nd - 1)))] := hl
                    refine lv_goto (tgt := 184) hx hb xd_Mo_newRequire_233 (by decide) ?_
                    exact ih36 (i + 1, 1) _ _ _ (show 5 * (nd - 1) + rq1 - (i + 1) < 5 * (nd - 1) + rq1 - i by omega) (lv_sub hl [0, 1, 2, 3, 4, 5, 6] rfl) hP hD hS ⟨(show 5 * (nd - 1) ≤ (i + 1) from by first | assumption | omega), (show (i + 1) ≤ 5 * (nd - 1) + rq1 from by first | assumption | omega), (show (¬ 1 = 0 ∧ (g 4 (nd - 1) = nV (g 0) (wb wl w2) (we wl w2) ∨ ∃ j, 5 * (nd - 1) ≤ j ∧ j < (i + 1) ∧ g 13 j = nV (g 0) (wb wl w2) (we wl w2))) ∨ (1 = 0 ∧ ¬ g 4 (nd - 1) = nV (g 0) (wb wl w2) (we wl w2) ∧ ∀ j, 5 * (nd - 1) ≤ j → j < (i + 1) → ¬ g 13 j = nV (g 0) (wb wl w2) (we wl w2)) from Or.inl ⟨by decide, Or.inr ⟨i, by omega, by omega, hc50⟩⟩)⟩
        · refine lv_iconst (v := (-1)) hx hb xd_Mo_newRequire_144 (by decide) ?_
          exact W.iret (v := (-1)) hx hb hr (fun t ht hW => ⟨⟨(-1), (v, g), rfl, ⟨hMI, rfl, Or.inl rfl, congrArg (Prod.mk v) (lR_no (fun q => q.2.1 ((by rw [hB9]; exact wN_in (by omega) : wN (g 0) wl (rqB (g 0) wl) = nV (g 0) (wb wl w2) (we wl w2)).trans hc8)))⟩, by rw [ht]; exact hP, hD⟩, hS.F ht⟩) hS.2.2 xd_Mo_newRequire_145
    refine lv_aload_n hx hb xd_Mo_newRequire_60 rfl (lv_at hl 2 rfl) ?_
    refine va_get (D := D) (ci := 4) (v := .int (v 3)) (C := xR_Mo) (T := xT_Mo) (N := 31) hx hb hT xi_Mo hown hK.1 hP 0 rfl rfl 4 (by decide) (hT _ k4d_0) (fun _ h9 => h9) rfl xd_Mo_newRequire_61 ?_
    refine xn_top (x := (v 3)) (y := nI wl.length) hwn ?_
    refine lv_iload_n hx hb xd_Mo_newRequire_64 rfl (lv_at hl 1 rfl) ?_
    refine lv_iconst (v := 1) hx hb xd_Mo_newRequire_65 (by decide) ?_
    refine lv_iadd hx hb xd_Mo_newRequire_66 ?_
    refine xn_top (y := nI (w1 + 1)) (nI_add w1 1) ?_
    refine xn_le (a := wl.length) (b := w1 + 1) (tgt := 104) hx hb xd_Mo_newRequire_67 (by decide) (by omega) (by omega) (fun hc51 => ?_) (fun hc51 => ?_)
    · refine lv_iconst (v := 0) hx hb xd_Mo_newRequire_104 (by decide) ?_
      refine lv_istore_n hx hb xd_Mo_newRequire_105 rfl hl (Nat.le_of_ble_eq_true rfl) rfl (fun ls hl => ?_)
      have hl : lv_has ls 8 [(3, .int 0), (2, .int th), (1, .int (nI w1)), (0, .ref h)] := hl
      refine lv_iload_n hx hb xd_Mo_newRequire_106 rfl (lv_at hl 0 rfl) ?_
      refine xz_eq (a := 0) (tgt := 116) hx hb xd_Mo_newRequire_107 (by decide) (by omega) (fun _ => ?_) (fun hc52 => absurd hc52 (by omega))
      refine lv_iload_n hx hb xd_Mo_newRequire_116 rfl (lv_at hl 2 rfl) ?_
      refine lv_istore_n hx hb xd_Mo_newRequire_117 rfl hl (Nat.le_of_ble_eq_true rfl) rfl (fun ls hl => ?_)
      have hl : lv_has ls 8 [(1, .int (nI w1)), (3, .int 0), (2, .int th), (0, .ref h)] := hl
      exact jn2 (0, w1) _ _ _ (lv_sub hl [1, 0, 2, 3] rfl) hP hD hS (show (0 = 1 ∧ rqO (g 0) wl ∧ w1 = w1 + 1) ∨ (0 = 0 ∧ ¬ rqO (g 0) wl ∧ w1 = w1) from Or.inr ⟨rfl, by unfold rqO; rw [hA9]; exact fun q => absurd q.1 (by omega), rfl⟩)
    · have hbew1 := (hwlr w1 (by omega)).1
      have hew1 := (hwlr w1 (by omega)).2
      have ebw1 := (hws w1 (by omega)).1
      have eew1 := (hws w1 (by omega)).2
      refine lv_aload_n hx hb xd_Mo_newRequire_70 rfl (lv_at hl 2 rfl) ?_
      refine lv_iload_n hx hb xd_Mo_newRequire_71 rfl (lv_at hl 1 rfl) ?_
      refine lv_bipush (v := 115) hx hb xd_Mo_newRequire_72 (by decide) ?_
      refine lv_bipush (v := 116) hx hb xd_Mo_newRequire_74 (by decide) ?_
      refine lv_bipush (v := 97) hx hb xd_Mo_newRequire_76 (by decide) ?_
      refine lv_bipush (v := 116) hx hb xd_Mo_newRequire_78 (by decide) ?_
      refine lv_bipush (v := 105) hx hb xd_Mo_newRequire_80 (by decide) ?_
      have hFc := va_free (wc := (moW h mm kA v g)) hD hS hA [0, 1, 2, 3, 4, 5, 6, 7, 8, 9, 10, 11, 12, 13, 14, 15, 16, 17, 18, 19, 20, 21, 22, 23, 24, 25] rfl
      refine va_calli (va_runS (As := [.int 115, .int 116, .int 97, .int 116, .int 105]) (rest := [.int (nI w1), .ref h]) ⟨hx, hb, hml, hown, hT⟩ (xc_Mo_codeX l D kA H.size h mm v g 115 116 97 116 105) (cwS 5 hT (wT_S0 k4d_17 k4d_18 k4d_5 k4d_16) rfl rfl rfl (by decide +kernel) ⟨Nat.le_of_ble_eq_true rfl, Nat.le_of_ble_eq_true rfl⟩) (x_preS hK hP hD) rfl rfl hl.1 rfl (lv_room (Nat.le_of_ble_eq_true rfl)) xd_Mo_newRequire_82 ⟨Nat.le_of_ble_eq_true rfl, Nat.le_of_ble_eq_true rfl⟩) hS (fun q _ h => hFc q h) hFc (fun r53 u54 t H1 locs ht hvm hp55 hB hz1 hk1 hS => ?_)
      obtain ⟨hP1, hD1⟩ := hB
      rw [ht] at hP1
      have hD1 := hD1.weaken (fun _ _ _ h => hFc _ h)
      generalize H1 = H at hP1 hS ⊢
      have hP := hP1
      have hD := hD1
      have hP : va_P D xcl (moW h mm kA v g) H := hP
      have hD : va_D A (moW h mm kA v g) := hD
      have hp55 : r53 = cdV 115 116 97 116 105 := hp55
      subst hp55
      have hP : va_P D xcl (moW h mm kA v g) H := hP
      have hD : va_D A (moW h mm kA v g) := hD
      refine lv_bipush (v := 99) hx hb xd_Mo_newRequire_85 (by decide) ?_
      refine lv_iconst (v := 0) hx hb xd_Mo_newRequire_87 (by decide) ?_
      refine lv_iconst (v := 0) hx hb xd_Mo_newRequire_88 (by decide) ?_
      refine lv_iconst (v := 0) hx hb xd_Mo_newRequire_89 (by decide) ?_
      refine lv_iconst (v := 0) hx hb xd_Mo_newRequire_90 (by decide) ?_
      have hFc := va_free (wc := (moW h mm kA v g)) hD hS hA [0, 1, 2, 3, 4, 5, 6, 7, 8, 9, 10, 11, 12, 13, 14, 15, 16, 17, 18, 19, 20, 21, 22, 23, 24, 25] rfl
      refine va_calli (va_runS (As := [.int 99, .int 0, .int 0, .int 0, .int 0]) (rest := [.int (cdV 115 116 97 116 105), .int (nI w1), .ref h]) ⟨hx, hb, hml, hown, hT⟩ (xc_Mo_codeX l D kA H.size h mm v g 99 0 0 0 0) (cwS 5 hT (wT_S0 k4d_17 k4d_18 k4d_5 k4d_16) rfl rfl rfl (by decide +kernel) ⟨Nat.le_of_ble_eq_true rfl, Nat.le_of_ble_eq_true rfl⟩) (x_preS hK hP hD) rfl rfl hl.1 rfl (lv_room (Nat.le_of_ble_eq_true rfl)) xd_Mo_newRequire_91 ⟨Nat.le_of_ble_eq_true rfl, Nat.le_of_ble_eq_true rfl⟩) hS (fun q _ h => hFc q h) hFc (fun r56 u57 t H1 locs ht hvm hp58 hB hz1 hk1 hS => ?_)
      obtain ⟨hP1, hD1⟩ := hB
      rw [ht] at hP1
      have hD1 := hD1.weaken (fun _ _ _ h => hFc _ h)
      generalize H1 = H at hP1 hS ⊢
      have hP := hP1
      have hD := hD1
      have hP : va_P D xcl (moW h mm kA v g) H := hP
      have hD : va_D A (moW h mm kA v g) := hD
      have hp58 : r56 = cdV 99 0 0 0 0 := hp58
      subst hp58
      have hP : va_P D xcl (moW h mm kA v g) H := hP
      have hD : va_D A (moW h mm kA v g) := hD
      have hFc := va_free (wc := (moW h mm kA v g)) hD hS hA [0, 1, 2, 3, 4, 5, 6, 7, 8, 9, 10, 11, 12, 13, 14, 15, 16, 17, 18, 19, 20, 21, 22, 23, 24, 25] rfl
      refine va_calli (va_runV (As := [.int (nI w1), .int (cdV 115 116 97 116 105), .int (cdV 99 0 0 0 0)]) (rest := []) ⟨hx, hb, hml, hown, hT⟩ (xc_Mo_saysX l D kA H.size h mm v g w1 (wb wl w1) (we wl w1) (cdV 115 116 97 116 105) (cdV 99 0 0 0 0) (by first | assumption | omega) (by first | assumption | omega) (by first | assumption | omega) (by first | assumption | omega) (by first | assumption | omega) (by first | assumption | omega)) (cwV 3 hT (wT_V k4d_20 k4d_21 k4d_22 k4d_5 k4d_19) rfl rfl rfl (by decide +kernel) ⟨Nat.le_of_ble_eq_true rfl, Nat.le_of_ble_eq_true rfl⟩) (x_preV hK hP hD 0 rfl rfl) rfl rfl hl.1 rfl (lv_room (Nat.le_of_ble_eq_true rfl)) xd_Mo_newRequire_94 ⟨Nat.le_of_ble_eq_true rfl, Nat.le_of_ble_eq_true rfl⟩) hS (fun q _ h => hFc q h) hFc (fun r59 u60 t H1 locs ht hvm hp61 hB hz1 hk1 hS => ?_)
      obtain ⟨hP1, hD1⟩ := hB
      rw [ht] at hP1
      have hD1 := hD1.weaken (fun _ _ _ h => hFc _ h)
      generalize H1 = H at hP1 hS ⊢
      have hP := hP1
      have hD := hD1
      have hP : va_P D xcl (moW h mm kA v g) H := hP
      have hD : va_D A (moW h mm kA v g) := hD
      rcases hp61 with ⟨rfl, z62⟩ | ⟨rfl, z63⟩
      · refine xz_eq (a := 1) (tgt := 104) hx hb xd_Mo_newRequire_97 (by decide) (by omega) (fun hc64 => absurd hc64 (by omega)) (fun _ => ?_)
        refine lv_iconst (v := 1) hx hb xd_Mo_newRequire_100 (by decide) ?_
        refine lv_goto (tgt := 105) hx hb xd_Mo_newRequire_101 (by decide) ?_
        refine lv_istore_n hx hb xd_Mo_newRequire_105 rfl hl (Nat.le_of_ble_eq_true rfl) rfl (fun ls hl => ?_)
        have hl : lv_has ls 8 [(3, .int 1), (2, .int th), (1, .int (nI w1)), (0, .ref h)] := hl
        refine lv_iload_n hx hb xd_Mo_newRequire_106 rfl (lv_at hl 0 rfl) ?_
        refine xz_eq (a := 1) (tgt := 116) hx hb xd_Mo_newRequire_107 (by decide) (by omega) (fun hc65 => absurd hc65 (by omega)) (fun _ => ?_)
        refine lv_iload_n hx hb xd_Mo_newRequire_110 rfl (lv_at hl 2 rfl) ?_
        refine lv_iconst (v := 1) hx hb xd_Mo_newRequire_111 (by decide) ?_
        refine lv_iadd hx hb xd_Mo_newRequire_112 ?_
        refine xn_top (y := nI (w1 + 1)) (nI_add w1 1) ?_
        refine lv_goto (tgt := 117) hx hb xd_Mo_newRequire_113 (by decide) ?_
        refine lv_istore_n hx hb xd_Mo_newRequire_117 rfl hl (Nat.le_of_ble_eq_true rfl) rfl (fun ls hl => ?_)
        have hl : lv_has ls 8 [(1, .int (nI (w1 + 1))), (3, .int 1), (2, .int th), (0, .ref h)] := hl
        exact jn2 (1, w1 + 1) _ _ _ (lv_sub hl [1, 0, 2, 3] rfl) hP hD hS (show (1 = 1 ∧ rqO (g 0) wl ∧ (w1 + 1) = w1 + 1) ∨ (1 = 0 ∧ ¬ rqO (g 0) wl ∧ (w1 + 1) = w1) from Or.inl ⟨rfl, by unfold rqO; rw [hA9]; exact ⟨by omega, by omega, (q_St (by omega)).mp z62⟩, rfl⟩)
      · refine xz_eq (a := 0) (tgt := 104) hx hb xd_Mo_newRequire_97 (by decide) (by omega) (fun _ => ?_) (fun hc66 => absurd hc66 (by omega))
        refine lv_iconst (v := 0) hx hb xd_Mo_newRequire_104 (by decide) ?_
        refine lv_istore_n hx hb xd_Mo_newRequire_105 rfl hl (Nat.le_of_ble_eq_true rfl) rfl (fun ls hl => ?_)
        have hl : lv_has ls 8 [(3, .int 0), (2, .int th), (1, .int (nI w1)), (0, .ref h)] := hl
        refine lv_iload_n hx hb xd_Mo_newRequire_106 rfl (lv_at hl 0 rfl) ?_
        refine xz_eq (a := 0) (tgt := 116) hx hb xd_Mo_newRequire_107 (by decide) (by omega) (fun _ => ?_) (fun hc67 => absurd hc67 (by omega))
        refine lv_iload_n hx hb xd_Mo_newRequire_116 rfl (lv_at hl 2 rfl) ?_
        refine lv_istore_n hx hb xd_Mo_newRequire_117 rfl hl (Nat.le_of_ble_eq_true rfl) rfl (fun ls hl => ?_)
        have hl : lv_has ls 8 [(1, .int (nI w1)), (3, .int 0), (2, .int th), (0, .ref h)] := hl
        exact jn2 (0, w1) _ _ _ (lv_sub hl [1, 0, 2, 3] rfl) hP hD hS (show (0 = 1 ∧ rqO (g 0) wl ∧ w1 = w1 + 1) ∨ (0 = 0 ∧ ¬ rqO (g 0) wl ∧ w1 = w1) from Or.inr ⟨rfl, by unfold rqO; rw [hA9]; exact fun q => z63 ((q_St (by omega)).mpr q.2.2), rfl⟩)
  refine lv_aload_n hx hb xd_Mo_newRequire_2 rfl (lv_at hl 1 rfl) ?_
  refine va_get (D := D) (ci := 4) (v := .int (v 3)) (C := xR_Mo) (T := xT_Mo) (N := 31) hx hb hT xi_Mo hown hK.1 hP 0 rfl rfl 4 (by decide) (hT _ k4d_0) (fun _ h9 => h9) rfl xd_Mo_newRequire_3 ?_
  refine xn_top (x := (v 3)) (y := nI wl.length) hwn ?_
  refine lv_iconst (v := 2) hx hb xd_Mo_newRequire_6 (by decide) ?_
  refine xn_le (a := wl.length) (b := 2) (tgt := 48) hx hb xd_Mo_newRequire_7 (by decide) (by omega) (by omega) (fun hc68 => ?_) (fun hc68 => ?_)
  · refine lv_iconst (v := 0) hx hb xd_Mo_newRequire_48 (by decide) ?_
    refine lv_istore_n hx hb xd_Mo_newRequire_49 rfl hl (Nat.le_of_ble_eq_true rfl) rfl (fun ls hl => ?_)
    have hl : lv_has ls 8 [(2, .int 0), (1, .int 1), (0, .ref h)] := hl
    refine lv_iload_n hx hb xd_Mo_newRequire_50 rfl (lv_at hl 0 rfl) ?_
    refine xz_eq (a := 0) (tgt := 58) hx hb xd_Mo_newRequire_51 (by decide) (by omega) (fun _ => ?_) (fun hc69 => absurd hc69 (by omega))
    refine lv_iconst (v := 1) hx hb xd_Mo_newRequire_58 (by decide) ?_
    refine lv_istore_n hx hb xd_Mo_newRequire_59 rfl hl (Nat.le_of_ble_eq_true rfl) rfl (fun ls hl => ?_)
    have hl : lv_has ls 8 [(1, .int 1), (2, .int 0), (0, .ref h)] := hl
    exact jn1 (0, 1) _ _ _ (lv_sub hl [1, 0, 2] rfl) hP hD hS (show (0 = 1 ∧ rqT (g 0) wl ∧ 1 = 2) ∨ (0 = 0 ∧ ¬ rqT (g 0) wl ∧ 1 = 1) from Or.inr ⟨rfl, fun q => absurd q.1 (by omega), rfl⟩)
  · have hbe1 := (hwlr 1 (by omega)).1
    have he1 := (hwlr 1 (by omega)).2
    have eb1 := (hws 1 (by omega)).1
    have ee1 := (hws 1 (by omega)).2
    refine lv_aload_n hx hb xd_Mo_newRequire_10 rfl (lv_at hl 1 rfl) ?_
    refine lv_iconst (v := 1) hx hb xd_Mo_newRequire_11 (by decide) ?_
    refine lv_bipush (v := 116) hx hb xd_Mo_newRequire_12 (by decide) ?_
    refine lv_bipush (v := 114) hx hb xd_Mo_newRequire_14 (by decide) ?_
    refine lv_bipush (v := 97) hx hb xd_Mo_newRequire_16 (by decide) ?_
    refine lv_bipush (v := 110) hx hb xd_Mo_newRequire_18 (by decide) ?_
    refine lv_bipush (v := 115) hx hb xd_Mo_newRequire_20 (by decide) ?_
    have hFc := va_free (wc := (moW h mm kA v g)) hD hS hA [0, 1, 2, 3, 4, 5, 6, 7, 8, 9, 10, 11, 12, 13, 14, 15, 16, 17, 18, 19, 20, 21, 22, 23, 24, 25] rfl
    refine va_calli (va_runS (As := [.int 116, .int 114, .int 97, .int 110, .int 115]) (rest := [.int 1, .ref h]) ⟨hx, hb, hml, hown, hT⟩ (xc_Mo_codeX l D kA s.heap.size h mm v g 116 114 97 110 115) (cwS 5 hT (wT_S0 k4d_17 k4d_18 k4d_5 k4d_16) rfl rfl rfl (by decide +kernel) ⟨Nat.le_of_ble_eq_true rfl, Nat.le_of_ble_eq_true rfl⟩) (x_preS hK hP hD) rfl rfl hl.1 rfl (lv_room (Nat.le_of_ble_eq_true rfl)) xd_Mo_newRequire_22 ⟨Nat.le_of_ble_eq_true rfl, Nat.le_of_ble_eq_true rfl⟩) hS (fun q _ h => hFc q h) hFc (fun r70 u71 t H1 locs ht hvm hp72 hB hz1 hk1 hS => ?_)
    obtain ⟨hP1, hD1⟩ := hB
    rw [ht] at hP1
    have hD1 := hD1.weaken (fun _ _ _ h => hFc _ h)
    generalize H1 = H at hP1 hS ⊢
    have hP := hP1
    have hD := hD1
    have hP : va_P D xcl (moW h mm kA v g) H := hP
    have hD : va_D A (moW h mm kA v g) := hD
    have hp72 : r70 = cdV 116 114 97 110 115 := hp72
    subst hp72
    have hP : va_P D xcl (moW h mm kA v g) H := hP
    have hD : va_D A (moW h mm kA v g) := hD
    refine lv_bipush (v := 105) hx hb xd_Mo_newRequire_25 (by decide) ?_
    refine lv_bipush (v := 116) hx hb xd_Mo_newRequire_27 (by decide) ?_
    refine lv_bipush (v := 105) hx hb xd_Mo_newRequire_29 (by decide) ?_
    refine lv_bipush (v := 118) hx hb xd_Mo_newRequire_31 (by decide) ?_
    refine lv_bipush (v := 101) hx hb xd_Mo_newRequire_33 (by decide) ?_
    have hFc := va_free (wc := (moW h mm kA v g)) hD hS hA [0, 1, 2, 3, 4, 5, 6, 7, 8, 9, 10, 11, 12, 13, 14, 15, 16, 17, 18, 19, 20, 21, 22, 23, 24, 25] rfl
    refine va_calli (va_runS (As := [.int 105, .int 116, .int 105, .int 118, .int 101]) (rest := [.int (cdV 116 114 97 110 115), .int 1, .ref h]) ⟨hx, hb, hml, hown, hT⟩ (xc_Mo_codeX l D kA H.size h mm v g 105 116 105 118 101) (cwS 5 hT (wT_S0 k4d_17 k4d_18 k4d_5 k4d_16) rfl rfl rfl (by decide +kernel) ⟨Nat.le_of_ble_eq_true rfl, Nat.le_of_ble_eq_true rfl⟩) (x_preS hK hP hD) rfl rfl hl.1 rfl (lv_room (Nat.le_of_ble_eq_true rfl)) xd_Mo_newRequire_35 ⟨Nat.le_of_ble_eq_true rfl, Nat.le_of_ble_eq_true rfl⟩) hS (fun q _ h => hFc q h) hFc (fun r73 u74 t H1 locs ht hvm hp75 hB hz1 hk1 hS => ?_)
    obtain ⟨hP1, hD1⟩ := hB
    rw [ht] at hP1
    have hD1 := hD1.weaken (fun _ _ _ h => hFc _ h)
    generalize H1 = H at hP1 hS ⊢
    have hP := hP1
    have hD := hD1
    have hP : va_P D xcl (moW h mm kA v g) H := hP
    have hD : va_D A (moW h mm kA v g) := hD
    have hp75 : r73 = cdV 105 116 105 118 101 := hp75
    subst hp75
    have hP : va_P D xcl (moW h mm kA v g) H := hP
    have hD : va_D A (moW h mm kA v g) := hD
    have hFc := va_free (wc := (moW h mm kA v g)) hD hS hA [0, 1, 2, 3, 4, 5, 6, 7, 8, 9, 10, 11, 12, 13, 14, 15, 16, 17, 18, 19, 20, 21, 22, 23, 24, 25] rfl
    refine va_calli (va_runV (As := [.int 1, .int (cdV 116 114 97 110 115), .int (cdV 105 116 105 118 101)]) (rest := []) ⟨hx, hb, hml, hown, hT⟩ (xc_Mo_saysX l D kA H.size h mm v g 1 (wb wl 1) (we wl 1) (cdV 116 114 97 110 115) (cdV 105 116 105 118 101) (by first | assumption | omega) (by first | assumption | omega) (by first | assumption | omega) (by first | assumption | omega) (by first | assumption | omega) (by first | assumption | omega)) (cwV 3 hT (wT_V k4d_20 k4d_21 k4d_22 k4d_5 k4d_19) rfl rfl rfl (by decide +kernel) ⟨Nat.le_of_ble_eq_true rfl, Nat.le_of_ble_eq_true rfl⟩) (x_preV hK hP hD 0 rfl rfl) rfl rfl hl.1 rfl (lv_room (Nat.le_of_ble_eq_true rfl)) xd_Mo_newRequire_38 ⟨Nat.le_of_ble_eq_true rfl, Nat.le_of_ble_eq_true rfl⟩) hS (fun q _ h => hFc q h) hFc (fun r76 u77 t H1 locs ht hvm hp78 hB hz1 hk1 hS => ?_)
    obtain ⟨hP1, hD1⟩ := hB
    rw [ht] at hP1
    have hD1 := hD1.weaken (fun _ _ _ h => hFc _ h)
    generalize H1 = H at hP1 hS ⊢
    have hP := hP1
    have hD := hD1
    have hP : va_P D xcl (moW h mm kA v g) H := hP
    have hD : va_D A (moW h mm kA v g) := hD
    rcases hp78 with ⟨rfl, z79⟩ | ⟨rfl, z80⟩
    · refine xz_eq (a := 1) (tgt := 48) hx hb xd_Mo_newRequire_41 (by decide) (by omega) (fun hc81 => absurd hc81 (by omega)) (fun _ => ?_)
      refine lv_iconst (v := 1) hx hb xd_Mo_newRequire_44 (by decide) ?_
      refine lv_goto (tgt := 49) hx hb xd_Mo_newRequire_45 (by decide) ?_
      refine lv_istore_n hx hb xd_Mo_newRequire_49 rfl hl (Nat.le_of_ble_eq_true rfl) rfl (fun ls hl => ?_)
      have hl : lv_has ls 8 [(2, .int 1), (1, .int 1), (0, .ref h)] := hl
      refine lv_iload_n hx hb xd_Mo_newRequire_50 rfl (lv_at hl 0 rfl) ?_
      refine xz_eq (a := 1) (tgt := 58) hx hb xd_Mo_newRequire_51 (by decide) (by omega) (fun hc82 => absurd hc82 (by omega)) (fun _ => ?_)
      refine lv_iconst (v := 2) hx hb xd_Mo_newRequire_54 (by decide) ?_
      refine lv_goto (tgt := 59) hx hb xd_Mo_newRequire_55 (by decide) ?_
      refine lv_istore_n hx hb xd_Mo_newRequire_59 rfl hl (Nat.le_of_ble_eq_true rfl) rfl (fun ls hl => ?_)
      have hl : lv_has ls 8 [(1, .int 2), (2, .int 1), (0, .ref h)] := hl
      exact jn1 (1, 2) _ _ _ (lv_sub hl [1, 0, 2] rfl) hP hD hS (show (1 = 1 ∧ rqT (g 0) wl ∧ 2 = 2) ∨ (1 = 0 ∧ ¬ rqT (g 0) wl ∧ 2 = 1) from Or.inl ⟨rfl, ⟨by omega, by omega, (q_Tr (by omega)).mp z79⟩, rfl⟩)
    · refine xz_eq (a := 0) (tgt := 48) hx hb xd_Mo_newRequire_41 (by decide) (by omega) (fun _ => ?_) (fun hc83 => absurd hc83 (by omega))
      refine lv_iconst (v := 0) hx hb xd_Mo_newRequire_48 (by decide) ?_
      refine lv_istore_n hx hb xd_Mo_newRequire_49 rfl hl (Nat.le_of_ble_eq_true rfl) rfl (fun ls hl => ?_)
      have hl : lv_has ls 8 [(2, .int 0), (1, .int 1), (0, .ref h)] := hl
      refine lv_iload_n hx hb xd_Mo_newRequire_50 rfl (lv_at hl 0 rfl) ?_
      refine xz_eq (a := 0) (tgt := 58) hx hb xd_Mo_newRequire_51 (by decide) (by omega) (fun _ => ?_) (fun hc84 => absurd hc84 (by omega))
      refine lv_iconst (v := 1) hx hb xd_Mo_newRequire_58 (by decide) ?_
      refine lv_istore_n hx hb xd_Mo_newRequire_59 rfl hl (Nat.le_of_ble_eq_true rfl) rfl (fun ls hl => ?_)
      have hl : lv_has ls 8 [(1, .int 1), (2, .int 0), (0, .ref h)] := hl
      exact jn1 (0, 1) _ _ _ (lv_sub hl [1, 0, 2] rfl) hP hD hS (show (0 = 1 ∧ rqT (g 0) wl ∧ 1 = 2) ∨ (0 = 0 ∧ ¬ rqT (g 0) wl ∧ 1 = 1) from Or.inr ⟨rfl, fun q => z80 ((q_Tr (by omega)).mpr q.2.2), rfl⟩)
