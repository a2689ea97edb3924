theorem adG_sm {g g1 : gT} {nd nl lq : Nat} (hnl : nl ≤ 5) (hpn : ∀ la, la < nl + 1 → ∃ lq, lq ≤ la ∧ g 19 la = nI lq - 1) (hlq : lq ≤ nl) (hmd : ∀ la, la < 6 → ∃ k, k ≤ 12 ∧ g 20 la = nI k ∧ ∀ j, j < k → ∃ d, d < 12 ∧ g 21 (12 * la + j) = nI d) (hfr : ∀ j, j ≠ 20 → j ≠ 21 → j ≠ 23 → g1 j = g j) (hRW : RW g g1 nl) : adG g1 nd (g1 18 nl) lq = adG g nd (g 18 nl) lq := by
  have e3 := hfr 3 (by decide) (by decide) (by decide)
  have e4 := hfr 4 (by decide) (by decide) (by decide)
  have e12 := hfr 12 (by decide) (by decide) (by decide)
  have e13 := hfr 13 (by decide) (by decide) (by decide)
  have e17 := hfr 17 (by decide) (by decide) (by decide)
  have e18 := hfr 18 (by decide) (by decide) (by decide)
  have e19 := hfr 19 (by decide) (by decide) (by decide)
  have h1 : dsG g1 nd (g1 18 nl) = dsG g nd (g 18 nl) := by funext n; unfold dsG; rw [e3, e4, e18]
  have h2 : upG g1 lq = upG g lq := by funext n; unfold upG; rw [lkG_row (np := nl + 1) (by omega) hpn (by omega) hlq hRW e4 e19 hmd]
  have h3 : rqG g1 = rqG g := by funext d; unfold rqG; rw [e12, e13, e17]
  unfold adG
  rw [h1, h2, h3]
def gvP (g : gT) (d : Nat) (sv : Int32) : Prop := g 15 (3 * d) = sv ∨ g 15 (3 * d + 1) = sv ∨ g 15 (3 * d + 2) = sv
def okB (g : gT) (fi sv : Int32) (d : Nat) : Prop := g 3 d = fi ∧ gvP g d sv
noncomputable def bE (A : List Nat → Int32 → Bool × List Nat) (nm : Nat → Int32) (ok : Nat → Prop) (d : Nat) (L : List Nat) : List Nat := cif (ok d ∧ d ∉ L) (if (A L (nm d)).1 = true then (A L (nm d)).2 else L) L
noncomputable def bD (A : List Nat → Int32 → Bool × List Nat) (nm : Nat → Int32) (ok : Nat → Prop) : Nat → Nat → List Nat → List Nat
  | 0, _, L => L
  | m + 1, d, L => bD A nm ok m (d + 1) (bE A nm ok d L)
noncomputable def bSv (g : gT) (nd : Nat) (fi : Int32) (lq : Nat) (sv : Int32) (L : List Nat) : List Nat := bD (adG g nd fi lq) (g 4) (okB g fi sv) nd 0 L
noncomputable def bUs (B : Int32 → List Nat → List Nat) (us : Nat → Int32) : Nat → Nat → List Nat → List Nat
  | 0, _, L => L
  | m + 1, k, L => bUs B us m (k + 1) (cif (0 < us k) (B (us k) L) L)
noncomputable def bUg (g : gT) (nd : Nat) (fi : Int32) (lq d : Nat) (L : List Nat) : List Nat := bUs (bSv g nd fi lq) (g 14) 3 (3 * d) L
theorem bE_no {A : List Nat → Int32 → Bool × List Nat} {nm : Nat → Int32} {ok : Nat → Prop} {d : Nat} {L : List Nat} (h : ¬ (ok d ∧ d ∉ L)) : bE A nm ok d L = L := by unfold bE; rw [cif_neg h]
theorem bE_f {A : List Nat → Int32 → Bool × List Nat} {nm : Nat → Int32} {ok : Nat → Prop} {d : Nat} {L L2 : List Nat} (h : A L (nm d) = (false, L2)) : bE A nm ok d L = L := by
  unfold bE
  by_cases q : ok d ∧ d ∉ L
  · rw [cif_pos q, h]; rfl
  · rw [cif_neg q]
theorem bE_t {A : List Nat → Int32 → Bool × List Nat} {nm : Nat → Int32} {ok : Nat → Prop} {d : Nat} {L L2 : List Nat} (q : ok d) (q2 : d ∉ L) (h : A L (nm d) = (true, L2)) : bE A nm ok d L = L2 := by
  unfold bE
  rw [cif_pos ⟨q, q2⟩, h]; rfl
theorem bD_s {A : List Nat → Int32 → Bool × List Nat} {nm : Nat → Int32} {ok : Nat → Prop} {nd d : Nat} {L : List Nat} (h : d < nd) : bD A nm ok (nd - d) d L = bD A nm ok (nd - (d + 1)) (d + 1) (bE A nm ok d L) := by
  rw [show nd - d = nd - (d + 1) + 1 by omega]; rfl
theorem bD_e {A : List Nat → Int32 → Bool × List Nat} {nm : Nat → Int32} {ok : Nat → Prop} {nd d : Nat} {L : List Nat} (h : nd ≤ d) : bD A nm ok (nd - d) d L = L := by
  rw [show nd - d = 0 by omega]; rfl
noncomputable def bL (U : Nat → List Nat → List Nat) : Nat → Nat → List Nat → List Nat
  | 0, _, L => L
  | f + 1, k, L => if k < L.length then bL U f (k + 1) (U (L.getD k 0) L) else L
noncomputable def bR (U : Nat → List Nat → List Nat) (md : Nat → Nat) : Nat → Nat → List Nat → List Nat
  | 0, _, L => L
  | m + 1, k, L => bR U md m (k + 1) (U (md k) L)
noncomputable def bA (U : Nat → List Nat → List Nat) (mc : Nat → Nat) (md : Nat → Nat → Nat) (pr : Nat → Nat) : Nat → Nat → List Nat → List Nat
  | 0, _, L => L
  | _ + 1, 0, L => L
  | f + 1, la + 1, L => bA U mc md pr f (pr la) (bR U (md la) (mc la) 0 L)
theorem bA_0 {U : Nat → List Nat → List Nat} {mc : Nat → Nat} {md : Nat → Nat → Nat} {pr : Nat → Nat} {L : List Nat} : ∀ f, bA U mc md pr f 0 L = L
  | 0 => rfl
  | _ + 1 => rfl
theorem bA_f {U : Nat → List Nat → List Nat} {mc : Nat → Nat} {md : Nat → Nat → Nat} {pr : Nat → Nat} : ∀ (f f2 lq : Nat) (L : List Nat), lq ≤ f → lq ≤ f2 → (∀ la, la < lq → pr la ≤ la) → bA U mc md pr f lq L = bA U mc md pr f2 lq L
  | f, f2, 0, L, _, _, _ => by rw [bA_0, bA_0]
  | 0, _, la + 1, _, h, _, _ => absurd h (by omega)
  | _ + 1, 0, la + 1, _, _, h, _ => absurd h (by omega)
  | f + 1, f2 + 1, la + 1, L, h1, h2, hp => by
    have hpl := hp la (by omega)
    exact bA_f f f2 (pr la) _ (by omega) (by omega) (fun x hx => hp x (by omega))
noncomputable def bAU (U : Nat → List Nat → List Nat) (g : gT) (lq : Nat) (L : List Nat) : List Nat := bA U (mcv g) (mdv g) (prv g) lq lq L
theorem bAU_s {U : Nat → List Nat → List Nat} {g : gT} {lq : Nat} {L : List Nat} (h0 : 0 < lq) (hp : ∀ la, la < lq → prv g la ≤ la) : bAU U g lq L = bAU U g (prv g (lq - 1)) (bR U (mdv g (lq - 1)) (mcv g (lq - 1)) 0 L) := by
  obtain ⟨la, rfl⟩ : ∃ la, lq = la + 1 := ⟨lq - 1, by omega⟩
  have h1 := hp la (by omega)
  exact bA_f la (prv g la) (prv g la) _ h1 (Nat.le_refl _) (fun x hx => hp x (by omega))
theorem bAU_0 {U : Nat → List Nat → List Nat} {g : gT} {L : List Nat} : bAU U g 0 L = L := rfl
noncomputable def bO (U : Nat → List Nat → List Nat) (g : gT) (lq : Nat) (L : List Nat) : List Nat := bAU U g lq (bL U 12 0 L)
noncomputable def bIt (U : Nat → List Nat → List Nat) (g : gT) (lq : Nat) : Nat → List Nat → List Nat
  | 0, L => L
  | n + 1, L => bIt U g lq n (bO U g lq L)
theorem bIt_fix {U : Nat → List Nat → List Nat} {g : gT} {lq : Nat} {L : List Nat} (h : bO U g lq L = L) : ∀ n, bIt U g lq n L = L
  | 0 => rfl
  | n + 1 => by
    show bIt U g lq n (bO U g lq L) = L
    rw [h]; exact bIt_fix h n
theorem bIt_s {U : Nat → List Nat → List Nat} {g : gT} {lq m : Nat} {L : List Nat} (h : 0 < m) : bIt U g lq m L = bIt U g lq (m - 1) (bO U g lq L) := by
  obtain ⟨n, rfl⟩ : ∃ n, m = n + 1 := ⟨m - 1, by omega⟩
  rfl
theorem bL_s {U : Nat → List Nat → List Nat} {k : Nat} {L : List Nat} (h : k < L.length) (hk : k < 12) : bL U (12 - k) k L = bL U (12 - (k + 1)) (k + 1) (U (L.getD k 0) L) := by
  rw [show 12 - k = 12 - (k + 1) + 1 by omega]; exact if_pos h
theorem bL_e {U : Nat → List Nat → List Nat} {f k : Nat} {L : List Nat} (h : L.length ≤ k) : bL U f k L = L := by
  cases f with
  | zero => rfl
  | succ f => exact if_neg (by omega)
theorem bR_s {U : Nat → List Nat → List Nat} {md : Nat → Nat} {m k : Nat} {L : List Nat} (h : k < m) : bR U md (m - k) k L = bR U md (m - (k + 1)) (k + 1) (U (md k) L) := by
  rw [show m - k = m - (k + 1) + 1 by omega]; rfl
theorem bR_e {U : Nat → List Nat → List Nat} {md : Nat → Nat} {m k : Nat} {L : List Nat} (h : m ≤ k) : bR U md (m - k) k L = L := by
  rw [show m - k = 0 by omega]; rfl
theorem bUs_s {B : Int32 → List Nat → List Nat} {us : Nat → Int32} {n k : Nat} {L : List Nat} (h : k < n) : bUs B us (n - k) k L = bUs B us (n - (k + 1)) (k + 1) (cif (0 < us k) (B (us k) L) L) := by
  rw [show n - k = n - (k + 1) + 1 by omega]; rfl
theorem bUs_e {B : Int32 → List Nat → List Nat} {us : Nat → Int32} {n k : Nat} {L : List Nat} (h : n ≤ k) : bUs B us (n - k) k L = L := by
  rw [show n - k = 0 by omega]; rfl
theorem bUg_sm {g g1 : gT} {nd nl lq : Nat} (hA : adG g1 nd (g1 18 nl) lq = adG g nd (g 18 nl) lq) (hfr : ∀ j, j ≠ 20 → j ≠ 21 → j ≠ 23 → g1 j = g j) : bUg g1 nd (g1 18 nl) lq = bUg g nd (g 18 nl) lq := by
  have e3 := hfr 3 (by decide) (by decide) (by decide)
  have e4 := hfr 4 (by decide) (by decide) (by decide)
  have e14 := hfr 14 (by decide) (by decide) (by decide)
  have e15 := hfr 15 (by decide) (by decide) (by decide)
  have e18 := hfr 18 (by decide) (by decide) (by decide)
  have h1 : bSv g1 nd (g1 18 nl) lq = bSv g nd (g 18 nl) lq := by
    funext sv L
    unfold bSv
    rw [hA, e4]
    have : okB g1 (g1 18 nl) sv = okB g (g 18 nl) sv := by funext d; unfold okB gvP; rw [e3, e15, e18]
    rw [this]
  funext d L
  unfold bUg
  rw [h1, e14]
