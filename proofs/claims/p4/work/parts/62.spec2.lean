theorem up_self {α : Type} {v : Nat → α} {k : Nat} {x : α} (h : v k = x) : va_up v k x = v := by
  funext j
  unfold va_up
  by_cases q : j = k
  · rw [if_pos q, q, h]
  · rw [if_neg q]
noncomputable def ff (P : Nat → Prop) : Nat → Option Nat
  | 0 => none
  | n + 1 => match ff P n with
    | some k => some k
    | none => cif (P n) (some n) none
theorem ff_none {P : Nat → Prop} : ∀ {n : Nat}, (∀ j, j < n → ¬ P j) → ff P n = none
  | 0, _ => rfl
  | n + 1, h => by
    unfold ff
    rw [ff_none (n := n) (fun j hj => h j (by omega))]
    exact cif_neg (h n (by omega))
theorem ff_some {P : Nat → Prop} : ∀ {n k : Nat}, k < n → P k → (∀ j, j < k → ¬ P j) → ff P n = some k
  | 0, _, h, _, _ => absurd h (Nat.not_lt_zero _)
  | n + 1, k, h, hp, hn => by
    unfold ff
    rcases Nat.lt_or_ge k n with q | q
    · rw [ff_some (n := n) q hp hn]
    · have e : k = n := by omega
      subst e
      rw [ff_none hn]
      exact cif_pos hp
theorem ff_or {P : Nat → Prop} : ∀ (n : Nat), (∃ k, k < n ∧ P k ∧ (∀ j, j < k → ¬ P j) ∧ ff P n = some k) ∨ ((∀ j, j < n → ¬ P j) ∧ ff P n = none)
  | 0 => Or.inr ⟨fun j hj => absurd hj (Nat.not_lt_zero _), rfl⟩
  | n + 1 => by
    rcases ff_or (P := P) n with ⟨k, h1, h2, h3, _⟩ | ⟨h1, _⟩
    · exact Or.inl ⟨k, by omega, h2, h3, ff_some (by omega) h2 h3⟩
    · by_cases h : P n
      · exact Or.inl ⟨n, by omega, h, h1, ff_some (by omega) h h1⟩
      · have h4 : ∀ j, j < n + 1 → ¬ P j := fun j hj => by
          rcases Nat.lt_or_ge j n with q | q
          · exact h1 j q
          · rw [show j = n by omega]; exact h
        exact Or.inr ⟨h4, ff_none h4⟩
theorem ff_is {P : Nat → Prop} {n k : Nat} (h : ff P n = some k) : k < n ∧ P k ∧ ∀ j, j < k → ¬ P j := by
  rcases ff_or (P := P) n with ⟨k2, h1, h2, h3, h4⟩ | ⟨_, h4⟩
  · rw [h] at h4
    rw [Option.some.inj h4]; exact ⟨h1, h2, h3⟩
  · rw [h] at h4; cases h4
theorem ff_no {P : Nat → Prop} {n : Nat} (h : ff P n = none) : ∀ j, j < n → ¬ P j := by
  rcases ff_or (P := P) n with ⟨k2, _, _, _, h4⟩ | ⟨h4, _⟩
  · rw [h] at h4; cases h4
  · exact h4
theorem ff_congr {P Q : Nat → Prop} {n : Nat} (h : ∀ j, j < n → (P j ↔ Q j)) : ff P n = ff Q n := by
  rcases ff_or (P := P) n with ⟨k, h1, h2, h3, h4⟩ | ⟨h3, h4⟩
  · rw [h4, ff_some h1 ((h k h1).mp h2) (fun j hj q => h3 j hj ((h j (by omega)).mpr q))]
  · rw [h4, ff_none (fun j hj q => h3 j hj ((h j hj).mpr q))]
def zMo : List Nat := [109, 111, 100, 117, 108, 101]
def zPa : List Nat := [112, 97, 99, 107, 97, 103, 101]
def zEx : List Nat := [101, 120, 112, 111, 114, 116, 115]
def zOp : List Nat := [111, 112, 101, 110, 115]
def zRe : List Nat := [114, 101, 113, 117, 105, 114, 101, 115]
def zUs : List Nat := [117, 115, 101, 115]
def zPr : List Nat := [112, 114, 111, 118, 105, 100, 101, 115]
def zTr : List Nat := [116, 114, 97, 110, 115, 105, 116, 105, 118, 101]
def zSt : List Nat := [115, 116, 97, 116, 105, 99]
def zTo : List Nat := [116, 111]
theorem q_Mo {t : Nat → Int32} {b e : Nat} (h : b ≤ e) : sQ t b e (cdV 109 111 100 117 108) (cdV 101 0 0 0 0) ↔ wE t b e zMo := sQ_l zMo h (by decide) (by decide) (by decide) (by decide)
theorem q_Pa {t : Nat → Int32} {b e : Nat} (h : b ≤ e) : sQ t b e (cdV 112 97 99 107 97) (cdV 103 101 0 0 0) ↔ wE t b e zPa := sQ_l zPa h (by decide) (by decide) (by decide) (by decide)
theorem q_Ex {t : Nat → Int32} {b e : Nat} (h : b ≤ e) : sQ t b e (cdV 101 120 112 111 114) (cdV 116 115 0 0 0) ↔ wE t b e zEx := sQ_l zEx h (by decide) (by decide) (by decide) (by decide)
theorem q_Op {t : Nat → Int32} {b e : Nat} (h : b ≤ e) : sQ t b e (cdV 111 112 101 110 115) 0 ↔ wE t b e zOp := sQ_l zOp h (by decide) (by decide) (by decide) (by decide)
theorem q_Re {t : Nat → Int32} {b e : Nat} (h : b ≤ e) : sQ t b e (cdV 114 101 113 117 105) (cdV 114 101 115 0 0) ↔ wE t b e zRe := sQ_l zRe h (by decide) (by decide) (by decide) (by decide)
theorem q_Us {t : Nat → Int32} {b e : Nat} (h : b ≤ e) : sQ t b e (cdV 117 115 101 115 0) 0 ↔ wE t b e zUs := sQ_l zUs h (by decide) (by decide) (by decide) (by decide)
theorem q_Pr {t : Nat → Int32} {b e : Nat} (h : b ≤ e) : sQ t b e (cdV 112 114 111 118 105) (cdV 100 101 115 0 0) ↔ wE t b e zPr := sQ_l zPr h (by decide) (by decide) (by decide) (by decide)
theorem q_Tr {t : Nat → Int32} {b e : Nat} (h : b ≤ e) : sQ t b e (cdV 116 114 97 110 115) (cdV 105 116 105 118 101) ↔ wE t b e zTr := sQ_l zTr h (by decide) (by decide) (by decide) (by decide)
theorem q_St {t : Nat → Int32} {b e : Nat} (h : b ≤ e) : sQ t b e (cdV 115 116 97 116 105) (cdV 99 0 0 0 0) ↔ wE t b e zSt := sQ_l zSt h (by decide) (by decide) (by decide) (by decide)
theorem q_To {t : Nat → Int32} {b e : Nat} (h : b ≤ e) : sQ t b e (cdV 116 111 0 0 0) 0 ↔ wE t b e zTo := sQ_l zTo h (by decide) (by decide) (by decide) (by decide)
abbrev gT : Type := Nat → Nat → Int32
noncomputable def fF (t : Nat → Int32) (wl : List (Nat × Nat)) : Int32 := cif (wS t wl 1 [48]) 0 1
def okD (t : Nat → Int32) (wl : List (Nat × Nat)) (nd : Nat) (g : gT) : Prop := wl.length = 3 ∧ (wS t wl 1 [48] ∨ wS t wl 1 [49]) ∧ ¬ wN t wl 2 = 0 ∧ (∀ j, j < nd → ¬ (g 3 j = fF t wl ∧ g 4 j = wN t wl 2)) ∧ nd < 12
noncomputable def lD (t : Nat → Int32) (wl : List (Nat × Nat)) (nd : Nat) (g : gT) : Nat × gT := cif (okD t wl nd g) (nd + 1, va_up (va_up g 3 (upd (g 3) nd (fF t wl))) 4 (upd (g 4) nd (wN t wl 2))) (nd, g)
def okP (t : Nat → Int32) (wl : List (Nat × Nat)) (nd : Nat) (g : gT) : Prop := wl.length = 2 ∧ ¬ wN t wl 1 = 0 ∧ 0 < nd ∧ (∀ j, 6 * (nd - 1) ≤ j → j < 6 * (nd - 1) + iN (g 5 (nd - 1)) → ¬ g 6 j = wN t wl 1) ∧ g 11 (nd - 1) = 0 ∧ iN (g 5 (nd - 1)) < 6
noncomputable def lP (t : Nat → Int32) (wl : List (Nat × Nat)) (nd : Nat) (g : gT) : gT := cif (okP t wl nd g) (va_up (va_up g 5 (upd (g 5) (nd - 1) (nI (iN (g 5 (nd - 1)) + 1)))) 6 (upd (g 6) (6 * (nd - 1) + iN (g 5 (nd - 1))) (wN t wl 1))) g
noncomputable def bI (C : Prop) : Int32 := cif C 1 0
theorem bI_nar {C : Prop} : vp_nar .boolean (bI C) = bI C := by
  by_cases h : C
  · unfold bI; rw [cif_pos h]; rfl
  · unfold bI; rw [cif_neg h]; rfl
def rqT (t : Nat → Int32) (wl : List (Nat × Nat)) : Prop := 2 < wl.length ∧ wS t wl 1 zTr
noncomputable def rqA (t : Nat → Int32) (wl : List (Nat × Nat)) : Nat := cif (rqT t wl) 2 1
def rqO (t : Nat → Int32) (wl : List (Nat × Nat)) : Prop := rqA t wl + 1 < wl.length ∧ wS t wl (rqA t wl) zSt
noncomputable def rqB (t : Nat → Int32) (wl : List (Nat × Nat)) : Nat := cif (rqO t wl) (rqA t wl + 1) (rqA t wl)
def okR (t : Nat → Int32) (wl : List (Nat × Nat)) (nd : Nat) (g : gT) : Prop := wl.length = rqB t wl + 1 ∧ ¬ wN t wl (rqB t wl) = 0 ∧ 0 < nd ∧ ¬ g 4 (nd - 1) = wN t wl (rqB t wl) ∧ (∀ j, 5 * (nd - 1) ≤ j → j < 5 * (nd - 1) + iN (g 12 (nd - 1)) → ¬ g 13 j = wN t wl (rqB t wl)) ∧ g 11 (nd - 1) = 0 ∧ iN (g 12 (nd - 1)) < 5
noncomputable def lR (t : Nat → Int32) (wl : List (Nat × Nat)) (nd : Nat) (g : gT) : gT := cif (okR t wl nd g) (va_up (va_up (va_up (va_up g 12 (upd (g 12) (nd - 1) (nI (iN (g 12 (nd - 1)) + 1)))) 13 (upd (g 13) (5 * (nd - 1) + iN (g 12 (nd - 1))) (wN t wl (rqB t wl)))) 16 (upd (g 16) (5 * (nd - 1) + iN (g 12 (nd - 1))) (bI (rqT t wl)))) 17 (upd (g 17) (5 * (nd - 1) + iN (g 12 (nd - 1))) (bI (rqO t wl)))) g
noncomputable def svF (f : Nat → Int32) (d : Nat) : Option Nat := ff (fun k => f (3 * d + k) = 0) 3
def okS (a : Nat) (t : Nat → Int32) (wl : List (Nat × Nat)) (nd : Nat) (g : gT) : Prop := wl.length = 2 ∧ ¬ wN t wl 1 = 0 ∧ 0 < nd ∧ (∀ k, k < 3 → ¬ g a (3 * (nd - 1) + k) = wN t wl 1) ∧ g 11 (nd - 1) = 0
noncomputable def lS (a : Nat) (t : Nat → Int32) (wl : List (Nat × Nat)) (nd : Nat) (g : gT) : gT := match svF (g a) (nd - 1) with
  | none => g
  | some k => cif (okS a t wl nd g) (va_up g a (upd (g a) (3 * (nd - 1) + k) (wN t wl 1))) g
noncomputable def pI (g : gT) (d : Nat) (n : Int32) : Option Nat := ff (fun i => g 6 (6 * d + i) = n) (iN (g 5 d))
noncomputable def gS (g : gT) (a b : Nat) (to : Int32) : gT := match ff (fun k => g a (b + k) = to ∨ g a (b + k) = 0) 3 with
  | none => g
  | some k => cif (¬ g a (b + k) = to) (va_up g a (upd (g a) (b + k) to)) g
def okG (t : Nat → Int32) (wl : List (Nat × Nat)) (nd : Nat) (g : gT) : Prop := (wl.length = 2 ∨ (wl.length = 4 ∧ wS t wl 2 zTo ∧ ¬ wN t wl 3 = 0)) ∧ ¬ wN t wl 1 = 0 ∧ 0 < nd ∧ g 11 (nd - 1) = 0
noncomputable def lG (a a2 : Nat) (t : Nat → Int32) (wl : List (Nat × Nat)) (nd : Nat) (g : gT) : gT := match pI g (nd - 1) (wN t wl 1) with
  | none => g
  | some i => cif (okG t wl nd g) (cif (wl.length = 2) (va_up g a2 (upd (g a2) (6 * (nd - 1) + i) 1)) (gS g a (3 * (6 * (nd - 1) + i)) (wN t wl 3))) g
noncomputable def lnF (t : Nat → Int32) (wl : List (Nat × Nat)) (nd : Nat) (g : gT) : Nat × gT := cif (wS t wl 0 zMo) (lD t wl nd g) (cif (wS t wl 0 zPa) (nd, lP t wl nd g) (cif (wS t wl 0 zEx) (nd, lG 7 9 t wl nd g) (cif (wS t wl 0 zOp) (nd, lG 8 10 t wl nd g) (cif (wS t wl 0 zRe) (nd, lR t wl nd g) (cif (wS t wl 0 zUs) (nd, lS 14 t wl nd g) (cif (wS t wl 0 zPr) (nd, lS 15 t wl nd g) (nd, g)))))))
theorem w1_at {t : Nat → Int32} {wl : List (Nat × Nat)} {i c : Nat} : wS t wl i [c] ↔ (i < wl.length ∧ we wl i - wb wl i = 1 ∧ t (wb wl i) = nI c) := by
  constructor
  · intro ⟨h1, h2, h3⟩
    exact ⟨h1, h2, h3 0 (Nat.zero_lt_one)⟩
  · intro ⟨h1, h2, h3⟩
    refine ⟨h1, h2, fun p hp => ?_⟩
    have e : p = 0 := by simp only [List.length_cons, List.length_nil] at hp; omega
    subst e; exact h3
theorem wd_iff {t : Nat → Int32} {wl : List (Nat × Nat)} (h1 : 1 < wl.length) (hw : wb wl 1 < we wl 1) : (wS t wl 1 [48] ∨ wS t wl 1 [49]) ↔ (we wl 1 = wb wl 1 + 1 ∧ ¬ sL t (wb wl 1) (we wl 1) 0 < 48 ∧ ¬ 49 < sL t (wb wl 1) (we wl 1) 0) := by
  have e : sL t (wb wl 1) (we wl 1) 0 = t (wb wl 1) := by unfold sL; rw [if_pos (by omega)]; rfl
  rw [w1_at, w1_at, e]
  constructor
  · rintro (⟨_, h2, h3⟩ | ⟨_, h2, h3⟩)
    · rw [h3]; exact ⟨by omega, by decide, by decide⟩
    · rw [h3]; exact ⟨by omega, by decide, by decide⟩
  · intro ⟨h2, h3, h4⟩
    have h0 : ¬ t (wb wl 1) < 0 := fun q => h3 (Int32.lt_trans q (by decide))
    obtain ⟨j, hj, ej⟩ := nI_of h0
    rw [ej, show (48 : Int32) = nI 48 from rfl, nI_ltI hj (by decide)] at h3
    rw [ej, show (49 : Int32) = nI 49 from rfl, nI_ltI (by decide) hj] at h4
    rcases (show j = 48 ∨ j = 49 by omega) with q | q
    · exact Or.inl ⟨h1, by omega, by rw [ej, q]⟩
    · exact Or.inr ⟨h1, by omega, by rw [ej, q]⟩
theorem wd_f {t : Nat → Int32} {wl : List (Nat × Nat)} (hw : wb wl 1 < we wl 1) (h : wS t wl 1 [48] ∨ wS t wl 1 [49]) : fF t wl = sL t (wb wl 1) (we wl 1) 0 - 48 := by
  have e : sL t (wb wl 1) (we wl 1) 0 = t (wb wl 1) := by unfold sL; rw [if_pos (by omega)]; rfl
  rw [e]
  by_cases q : wS t wl 1 [48]
  · unfold fF; rw [cif_pos q, (w1_at.mp q).2.2]; decide
  · unfold fF; rw [cif_neg q, (w1_at.mp (h.resolve_left q)).2.2]; decide
theorem lD_no {t : Nat → Int32} {wl : List (Nat × Nat)} {nd : Nat} {g : gT} {v : Nat → Int32} (hv : v 4 = nI nd) (h : ¬ okD t wl nd g) : (v, g) = (va_up v 4 (nI (lD t wl nd g).1), (lD t wl nd g).2) := by
  unfold lD; rw [cif_neg h]; rw [up_self hv]
theorem lD_ok {t : Nat → Int32} {wl : List (Nat × Nat)} {nd : Nat} {g : gT} {v : Nat → Int32} {x y : Int32} (h : okD t wl nd g) (hx : x = fF t wl) (hy : y = wN t wl 2) : (va_up v 4 (nI (nd + 1)), va_up (va_up g 3 (upd (g 3) nd x)) 4 (upd (g 4) nd y)) = (va_up v 4 (nI (lD t wl nd g).1), (lD t wl nd g).2) := by
  unfold lD; rw [cif_pos h, hx, hy]
theorem lP_no {t : Nat → Int32} {wl : List (Nat × Nat)} {nd : Nat} {g : gT} (h : ¬ okP t wl nd g) : g = lP t wl nd g := by unfold lP; rw [cif_neg h]
theorem lP_ok {t : Nat → Int32} {wl : List (Nat × Nat)} {nd pk : Nat} {g : gT} {y : Int32} (hpk : g 5 (nd - 1) = nI pk) (hk : pk < 2147483648) (h : okP t wl nd g) (hy : y = wN t wl 1) : va_up (va_up g 5 (upd (g 5) (nd - 1) (nI (pk + 1)))) 6 (upd (g 6) (6 * (nd - 1) + pk) y) = lP t wl nd g := by
  have e : iN (g 5 (nd - 1)) = pk := by rw [hpk, iN_nI hk]
  unfold lP; rw [cif_pos h, hy, e]
theorem lR_no {t : Nat → Int32} {wl : List (Nat × Nat)} {nd : Nat} {g : gT} (h : ¬ okR t wl nd g) : g = lR t wl nd g := by unfold lR; rw [cif_neg h]
theorem lR_ok {t : Nat → Int32} {wl : List (Nat × Nat)} {nd rq : Nat} {g : gT} {y th qt : Int32} (hrq : g 12 (nd - 1) = nI rq) (hk : rq < 2147483648) (h : okR t wl nd g) (hy : y = wN t wl (rqB t wl)) (ht : th = bI (rqT t wl)) (hq : qt = bI (rqO t wl)) : va_up (va_up (va_up (va_up g 12 (upd (g 12) (nd - 1) (nI (rq + 1)))) 13 (upd (g 13) (5 * (nd - 1) + rq) y)) 16 (upd (g 16) (5 * (nd - 1) + rq) (vp_nar .boolean th))) 17 (upd (g 17) (5 * (nd - 1) + rq) (vp_nar .boolean qt)) = lR t wl nd g := by
  have e : iN (g 12 (nd - 1)) = rq := by rw [hrq, iN_nI hk]
  unfold lR; rw [cif_pos h, hy, ht, hq, bI_nar, bI_nar, e]
theorem bI_1 {C : Prop} (h : C) : (1 : Int32) = bI C := (cif_pos h).symm
theorem bI_0 {C : Prop} (h : ¬ C) : (0 : Int32) = bI C := (cif_neg h).symm
theorem lG_no1 {a a2 : Nat} {t : Nat → Int32} {wl : List (Nat × Nat)} {nd : Nat} {g : gT} (h : ¬ okG t wl nd g) : g = lG a a2 t wl nd g := by
  unfold lG
  split
  · rfl
  · rw [cif_neg h]
theorem lG_no2 {a a2 : Nat} {t : Nat → Int32} {wl : List (Nat × Nat)} {nd : Nat} {g : gT} (h : pI g (nd - 1) (wN t wl 1) = none) : g = lG a a2 t wl nd g := by
  unfold lG; rw [h]
theorem lG_all {a a2 : Nat} {t : Nat → Int32} {wl : List (Nat × Nat)} {nd i k : Nat} {g : gT} {x : Int32} (hp : pI g (nd - 1) (wN t wl 1) = some i) (h : okG t wl nd g) (h2 : wl.length = 2) (hk : k = 6 * (nd - 1) + i) (hx : x = 1) : va_up g a2 (upd (g a2) k x) = lG a a2 t wl nd g := by
  unfold lG; rw [hp]; simp only; rw [cif_pos h, cif_pos h2, hk, hx]
theorem lG_to {a a2 : Nat} {t : Nat → Int32} {wl : List (Nat × Nat)} {nd i k : Nat} {g : gT} (hp : pI g (nd - 1) (wN t wl 1) = some i) (h : okG t wl nd g) (h4 : wl.length = 4) (hk : k = 6 * (nd - 1) + i) : gS g a (3 * k) (wN t wl 3) = lG a a2 t wl nd g := by
  unfold lG; rw [hp]; simp only; rw [cif_pos h, cif_neg (by omega), hk]
theorem gS_same {g : gT} {a b k : Nat} {to : Int32} (hk : k < 3) (h : g a (b + k) = to) (hn : ∀ j, j < k → ¬ g a (b + j) = to ∧ ¬ g a (b + j) = 0) : g = gS g a b to := by
  have e := ff_some (P := fun k => g a (b + k) = to ∨ g a (b + k) = 0) hk (Or.inl h) (fun j hj q => q.elim (hn j hj).1 (hn j hj).2)
  unfold gS; rw [e]; simp only; rw [cif_neg (fun q => q h)]
theorem gS_set {g : gT} {a b k : Nat} {to : Int32} (hk : k < 3) (h0 : g a (b + k) = 0) (h : ¬ g a (b + k) = to) (hn : ∀ j, j < k → ¬ g a (b + j) = to ∧ ¬ g a (b + j) = 0) : va_up g a (upd (g a) (b + k) to) = gS g a b to := by
  have e := ff_some (P := fun k => g a (b + k) = to ∨ g a (b + k) = 0) hk (Or.inr h0) (fun j hj q => q.elim (hn j hj).1 (hn j hj).2)
  unfold gS; rw [e]; simp only; rw [cif_pos h]
theorem gS_full {g : gT} {a b : Nat} {to : Int32} (hn : ∀ j, j < 3 → ¬ g a (b + j) = to ∧ ¬ g a (b + j) = 0) : g = gS g a b to := by
  have e := ff_none (P := fun k => g a (b + k) = to ∨ g a (b + k) = 0) (n := 3) (fun j hj q => q.elim (hn j hj).1 (hn j hj).2)
  unfold gS; rw [e]
theorem pI_some {g : gT} {d pk k : Nat} {n : Int32} (hpk : g 5 d = nI pk) (hk6 : pk < 2147483648) (h0 : 6 * d ≤ k) (h1 : k < 6 * d + pk) (h2 : g 6 k = n) (h3 : ∀ j, 6 * d ≤ j → j < k → ¬ g 6 j = n) : pI g d n = some (k - 6 * d) := by
  unfold pI
  rw [hpk, iN_nI hk6]
  refine ff_some (by omega) ?_ (fun j hj q => h3 (6 * d + j) (by omega) (by omega) q)
  show g 6 (6 * d + (k - 6 * d)) = n
  rw [show 6 * d + (k - 6 * d) = k by omega]; exact h2
theorem pI_none {g : gT} {d pk : Nat} {n : Int32} (hpk : g 5 d = nI pk) (hk6 : pk < 2147483648) (h3 : ∀ j, 6 * d ≤ j → j < 6 * d + pk → ¬ g 6 j = n) : pI g d n = none := by
  unfold pI
  rw [hpk, iN_nI hk6]
  exact ff_none (fun j hj q => h3 (6 * d + j) (by omega) (by omega) q)
theorem lS_no1 {a : Nat} {t : Nat → Int32} {wl : List (Nat × Nat)} {nd : Nat} {g : gT} (h : ¬ okS a t wl nd g) : g = lS a t wl nd g := by
  unfold lS
  split
  · rfl
  · rw [cif_neg h]
theorem lS_no2 {a : Nat} {t : Nat → Int32} {wl : List (Nat × Nat)} {nd : Nat} {g : gT} (h : svF (g a) (nd - 1) = none) : g = lS a t wl nd g := by
  unfold lS; rw [h]
theorem lS_ok {a : Nat} {t : Nat → Int32} {wl : List (Nat × Nat)} {nd k : Nat} {g : gT} {y : Int32} (hp : svF (g a) (nd - 1) = some k) (h : okS a t wl nd g) (hy : y = wN t wl 1) : va_up g a (upd (g a) (3 * (nd - 1) + k) y) = lS a t wl nd g := by
  unfold lS; rw [hp]; simp only; rw [cif_pos h, hy]
