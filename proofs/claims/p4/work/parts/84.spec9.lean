def opP (g : gT) (nl : Nat) (ly : Int32) : Prop := ∃ la, la < nl ∧ ly = nI la ∧ ¬ g 22 la = 0
noncomputable def clF (nl : Nat) (g : gT) (ly : Int32) : gT := cif (opP g nl ly ∧ ∀ j, j < nl → ¬ g 22 j = 0 → ¬ g 19 j = ly) (va_up g 22 (upd (g 22) (iN ly) 0)) g
theorem clF_no {nl : Nat} {g : gT} {ly : Int32} (h : ¬ (opP g nl ly ∧ ∀ j, j < nl → ¬ g 22 j = 0 → ¬ g 19 j = ly)) : g = clF nl g ly := by unfold clF; rw [cif_neg h]
theorem clF_ok {nl la : Nat} {g : gT} {x : Int32} (hl : la < 100) (h : opP g nl (nI la)) (h2 : ∀ j, j < nl → ¬ g 22 j = 0 → ¬ g 19 j = nI la) (hx : x = 0) : va_up g 22 (upd (g 22) la x) = clF nl g (nI la) := by unfold clF; rw [cif_pos ⟨h, h2⟩, iN_nI (by omega), hx]
theorem lkG_row2 {g g1 : gT} {nl lq np : Nat} {n : Int32} (hnp : np ≤ 6) (hpar : ∀ la, la < np → ∃ lq, lq ≤ la ∧ g 19 la = nI lq - 1) (hlq : lq ≤ np) (hlq2 : lq ≤ nl) (h : RW g g1 nl) (h4 : g1 4 = g 4) (h19 : ∀ la, la < nl → g1 19 la = g 19 la) (hmd : ∀ la, la < 6 → ∃ k, k ≤ 12 ∧ g 20 la = nI k ∧ ∀ j, j < k → ∃ d, d < 12 ∧ g 21 (12 * la + j) = nI d) : lkG g1 lq n = lkG g lq n := by
  unfold lkG lkU
  refine lkf_same _ _ _ (Nat.le_refl _) (Nat.le_refl _) (fun la hla => prv_le hnp hpar la (by omega)) (fun la hla => ?_)
  obtain ⟨k, h1, h2, _⟩ := hmd la (by omega)
  obtain ⟨r1, r2⟩ := h la (by omega)
  refine ⟨by unfold mcv; rw [r1], by unfold prv; rw [h19 la (by omega)], fun j hj => ?_⟩
  unfold mcv at hj
  rw [h2, iN_nI (by omega)] at hj
  refine ⟨by unfold mdv; rw [r2 j (by omega)], by rw [h4]⟩
theorem adG_eq {g g1 : gT} {nd lq : Nat} {fi : Int32} (e3 : g1 3 = g 3) (e4 : g1 4 = g 4) (e12 : g1 12 = g 12) (e13 : g1 13 = g 13) (e17 : g1 17 = g 17) (hlk : ∀ n, lkG g1 lq n = lkG g lq n) : adG g1 nd fi lq = adG g nd fi lq := by
  have h1 : dsG g1 nd fi = dsG g nd fi := by funext n; unfold dsG; rw [e3, e4]
  have h2 : upG g1 lq = upG g lq := by funext n; unfold upG; rw [hlk]
  have h3 : rqG g1 = rqG g := by funext d; unfold rqG; rw [e12, e13, e17]
  unfold adG
  rw [h1, h2, h3]
theorem bUg_eq {g g1 : gT} {nd lq : Nat} {fi : Int32} (hA : adG g1 nd fi lq = adG g nd fi lq) (e3 : g1 3 = g 3) (e4 : g1 4 = g 4) (e14 : g1 14 = g 14) (e15 : g1 15 = g 15) : bUg g1 nd fi lq = bUg g nd fi lq := by
  have h1 : bSv g1 nd fi lq = bSv g nd fi lq := by
    funext sv L
    unfold bSv
    rw [hA, e4]
    have : okB g1 fi sv = okB g fi sv := by funext d; unfold okB gvP; rw [e3, e15]
    rw [this]
  funext d L
  unfold bUg
  rw [h1, e14]
theorem bR_same {U : Nat → List Nat → List Nat} {md md2 : Nat → Nat} : ∀ (m k : Nat) (L : List Nat), (∀ j, k ≤ j → j < k + m → md2 j = md j) → bR U md2 m k L = bR U md m k L
  | 0, _, _, _ => rfl
  | m + 1, k, L, h => by
    show bR U md2 m (k + 1) (U (md2 k) L) = bR U md m (k + 1) (U (md k) L)
    rw [h k (by omega) (by omega)]
    exact bR_same m (k + 1) _ (fun j h1 h2 => h j (by omega) (by omega))
theorem bA_same {U : Nat → List Nat → List Nat} {mc mc2 : Nat → Nat} {md md2 : Nat → Nat → Nat} {pr pr2 : Nat → Nat} : ∀ (f lq : Nat) (L : List Nat), lq ≤ f → (∀ la, la < lq → pr la ≤ la) → (∀ la, la < lq → mc2 la = mc la ∧ pr2 la = pr la ∧ ∀ k, k < mc la → md2 la k = md la k) → bA U mc2 md2 pr2 f lq L = bA U mc md pr f lq L
  | f, 0, L, _, _, _ => by rw [bA_0, bA_0]
  | 0, la + 1, _, h, _, _ => absurd h (by omega)
  | f + 1, la + 1, L, h1, hp, he => by
    obtain ⟨e1, e2, e3⟩ := he la (by omega)
    have hpl := hp la (by omega)
    show bA U mc2 md2 pr2 f (pr2 la) (bR U (md2 la) (mc2 la) 0 L) = bA U mc md pr f (pr la) (bR U (md la) (mc la) 0 L)
    rw [e1, e2, bR_same (mc la) 0 L (fun j _ h => e3 j (by omega))]
    exact bA_same f (pr la) _ (by omega) (fun x hx => hp x (by omega)) (fun x hx => he x (by omega))
theorem bAU_row {U : Nat → List Nat → List Nat} {g g1 : gT} {nl lq np : Nat} {L : List Nat} (hnp : np ≤ 6) (hpar : ∀ la, la < np → ∃ lq, lq ≤ la ∧ g 19 la = nI lq - 1) (hlq : lq ≤ np) (hlq2 : lq ≤ nl) (h : RW g g1 nl) (h19 : ∀ la, la < nl → g1 19 la = g 19 la) (hmd : ∀ la, la < 6 → ∃ k, k ≤ 12 ∧ g 20 la = nI k ∧ ∀ j, j < k → ∃ d, d < 12 ∧ g 21 (12 * la + j) = nI d) : bAU U g1 lq L = bAU U g lq L := by
  unfold bAU
  refine bA_same lq lq L (Nat.le_refl _) (fun la hla => prv_le hnp hpar la (by omega)) (fun la hla => ?_)
  obtain ⟨k, h1, h2, _⟩ := hmd la (by omega)
  obtain ⟨r1, r2⟩ := h la (by omega)
  refine ⟨by unfold mcv; rw [r1], by unfold prv; rw [h19 la (by omega)], fun j hj => ?_⟩
  unfold mcv at hj
  rw [h2, iN_nI (by omega)] at hj
  unfold mdv; rw [r2 j (by omega)]
theorem bIt_row {U : Nat → List Nat → List Nat} {g g1 : gT} {nl lq np : Nat} (hnp : np ≤ 6) (hpar : ∀ la, la < np → ∃ lq, lq ≤ la ∧ g 19 la = nI lq - 1) (hlq : lq ≤ np) (hlq2 : lq ≤ nl) (h : RW g g1 nl) (h19 : ∀ la, la < nl → g1 19 la = g 19 la) (hmd : ∀ la, la < 6 → ∃ k, k ≤ 12 ∧ g 20 la = nI k ∧ ∀ j, j < k → ∃ d, d < 12 ∧ g 21 (12 * la + j) = nI d) : ∀ (n : Nat) (L : List Nat), bIt U g1 lq n L = bIt U g lq n L
  | 0, _ => rfl
  | n + 1, L => by
    show bIt U g1 lq n (bO U g1 lq L) = bIt U g lq n (bO U g lq L)
    have e : bO U g1 lq L = bO U g lq L := by unfold bO; exact bAU_row hnp hpar hlq hlq2 h h19 hmd
    rw [e]; exact bIt_row hnp hpar hlq hlq2 h h19 hmd n _
noncomputable def nmL (t : Nat → Int32) (wl : List (Nat × Nat)) : Nat → Nat → List Int32
  | 0, _ => []
  | m + 1, i => wN t wl i :: nmL t wl m (i + 1)
theorem nmL_s {t : Nat → Int32} {wl : List (Nat × Nat)} {w : Nat} (h : w < wl.length) : nmL t wl (wl.length - w) w = wN t wl w :: nmL t wl (wl.length - (w + 1)) (w + 1) := by
  rw [show wl.length - w = wl.length - (w + 1) + 1 by omega]; rfl
theorem aF_t {F : List Nat → Int32 → Bool × List Nat} {L L2 : List Nat} {n : Int32} {S : List Int32} (h : F L n = (true, L2)) : aF F L (n :: S) = aF F L2 S := by
  conv => lhs; unfold aF
  rw [h]
theorem aF_f {F : List Nat → Int32 → Bool × List Nat} {L L2 : List Nat} {n : Int32} {S : List Int32} (h : F L n = (false, L2)) : aF F L (n :: S) = (false, L2) := by
  conv => lhs; unfold aF
  rw [h]
def ok1 (g : gT) (t : Nat → Int32) (wl : List (Nat × Nat)) (nl : Nat) (fi pa : Int32) : Prop := 1 ≤ wl.length ∧ wl.length ≤ 3 ∧ (∀ w, w < wl.length → ¬ wN t wl w = 0) ∧ (¬ fi < 0 ∧ ¬ 1 < fi) ∧ (pa = -1 ∨ opP g nl pa)
def SQ (g g2 : gT) (nl : Nat) : Prop := (∀ j, j ≠ 1 → j ≠ 2 → j ≠ 18 → j ≠ 19 → j ≠ 20 → j ≠ 21 → j ≠ 23 → j ≠ 24 → g2 j = g j) ∧ (∀ la, la < nl → g2 19 la = g 19 la) ∧ RW g g2 nl
def DT (g : gT) (nl lq : Nat) (L : List Nat) (gD : gT) : Prop := SQ g gD nl ∧ gD 19 nl = nI lq - 1 ∧ LT (gD 20) (gD 21) nl L
def NW (g : gT) (nl lq : Nat) (L : List Nat) (g2 : gT) : Prop := (∀ j, j ≠ 1 → j ≠ 2 → j ≠ 11 → j ≠ 18 → j ≠ 19 → j ≠ 20 → j ≠ 21 → j ≠ 22 → j ≠ 23 → j ≠ 24 → g2 j = g j) ∧ (∀ la, la < nl → g2 19 la = g 19 la) ∧ RW g g2 nl ∧ g2 19 nl = nI lq - 1 ∧ LT (g2 20) (g2 21) nl L ∧ (∀ d, g2 11 d = cif (d ∈ L) 1 (g 11 d)) ∧ g2 22 = upd (g 22) nl 1
def lyR (g : gT) (t : Nat → Int32) (wl : List (Nat × Nat)) (nd nl : Nat) (fi pa bi : Int32) (code why : Nat) (r u5 : Int32) (u2 : gT) : Prop :=
  (¬ ok1 g t wl nl fi pa ∧ code = 1 ∧ why = 0 ∧ u5 = nI nl ∧ SQ g u2 nl) ∨
  (ok1 g t wl nl fi pa ∧ (∃ Lx, aF (adG g nd fi (iN (pa + 1))) [] (nmL t wl wl.length 0) = (false, Lx)) ∧ code = 2 ∧ why = 0 ∧ u5 = nI nl ∧ SQ g u2 nl) ∨
  (ok1 g t wl nl fi pa ∧ ∃ L1 L gD, aF (adG g nd fi (iN (pa + 1))) [] (nmL t wl wl.length 0) = (true, L1) ∧ L = cif (¬ bi = 0) (bIt (bUg g nd fi (iN (pa + 1))) g (iN (pa + 1)) 13 L1) L1 ∧ GL nd L ∧ DT g nl (iN (pa + 1)) L gD ∧ why = rsW gD nl L.length ∧ ((¬ why = 0 ∧ code = 3 ∧ u5 = nI nl ∧ SQ g u2 nl) ∨ (why = 0 ∧ code = 0 ∧ r = nI nl ∧ u5 = nI (nl + 1) ∧ NW g nl (iN (pa + 1)) L u2)))
theorem lq_m1 : iN ((-1 : Int32) + 1) = 0 := by decide
theorem lq_la {la : Nat} (h : la < 100) : iN (nI la + 1) = la + 1 := by
  rw [show (1 : Int32) = nI 1 from rfl, nI_add, iN_nI (by omega)]
theorem lk11 {f f11 : Nat → Int32} {L : List Nat} {i b kn : Nat} (h1 : b ≤ i) (hk : kn = L.getD (i - b) 0) (h : ∀ d, f d = cif (∃ k, k < i - b ∧ L.getD k 0 = d) 1 (f11 d)) : ∀ d, upd f kn (vp_nar .boolean 1) d = cif (∃ k, k < i + 1 - b ∧ L.getD k 0 = d) 1 (f11 d) := fun d => by
  by_cases e : d = kn
  · rw [e, pk_us, cif_pos ⟨i - b, by omega, hk.symm⟩]; rfl
  · rw [pk_un e, h d]
    by_cases q : ∃ k, k < i - b ∧ L.getD k 0 = d
    · obtain ⟨k, q1, q2⟩ := id q
      rw [cif_pos q, cif_pos ⟨k, by omega, q2⟩]
    · rw [cif_neg q, cif_neg]
      intro ⟨k, q1, q2⟩
      rcases Nat.lt_or_ge k (i - b) with z | z
      · exact q ⟨k, z, q2⟩
      · exact e (by rw [hk, ← q2, show k = i - b by omega])
theorem lk11_end {f f11 : Nat → Int32} {L : List Nat} {n : Nat} (hn : n = L.length) (h : ∀ d, f d = cif (∃ k, k < n ∧ L.getD k 0 = d) 1 (f11 d)) : ∀ d, f d = cif (d ∈ L) 1 (f11 d) := fun d => by
  rw [h d]
  by_cases q : d ∈ L
  · obtain ⟨k, q1, q2⟩ := mem_getD q
    rw [cif_pos q, cif_pos ⟨k, by omega, q2⟩]
  · rw [cif_neg q, cif_neg]
    intro ⟨k, q1, q2⟩
    exact q (by rw [← q2]; exact getD_mem (by omega))
