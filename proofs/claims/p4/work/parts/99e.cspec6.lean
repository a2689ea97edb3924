def eR (e : va_E) : Nat → Option Nat := match e with
  | .inl (_, _, .inr (.inr (.inr (.inr f)))) => f
  | _ => fun _ => none
def TLa (g : gT) (ad : Nat → Nat → Nat) (e : Nat → va_E) (nd n : Nat) : Prop := eI (e 0) 3 = g 22 n ∧ (∃ lq, lq ≤ n ∧ g 19 n = nI lq - 1 ∧ eV (e 0) 1 = lyv ad lq) ∧ g 20 n = nI (eL (e 1)) ∧ ∀ k, k < eL (e 1) → ∃ d, d < nd ∧ g 21 (12 * n + k) = nI d ∧ eV (e (10 + 10 * k)) 1 = .ref (ad (1 + d) 0)
def TLas (g : gT) (ad : Nat → Nat → Nat) (E : Nat → Nat → va_E) (nd nL : Nat) : Prop := ∀ n, n < nL → TLa g ad (E (20 + n)) nd n
theorem TLa_get {g : gT} {ad : Nat → Nat → Nat} {e : Nat → va_E} {nd n mk : Nat} {v0 v2 pv : Value} {op : Int32} {ka : ClassId} {x : (Nat → Int32) ⊕ (Nat → Int64) ⊕ (Nat → UInt32) ⊕ (Nat → UInt64) ⊕ (Nat → Option Nat)} (c0 : e 0 = .inr (5, [v0, pv, v2, .int op])) (c1 : e 1 = .inl (ka, mk, x)) (h : TLa g ad e nd n) : op = g 22 n ∧ (∃ lq, lq ≤ n ∧ g 19 n = nI lq - 1 ∧ pv = lyv ad lq) ∧ g 20 n = nI mk ∧ ∀ k, k < mk → ∃ d, d < nd ∧ g 21 (12 * n + k) = nI d ∧ eV (e (10 + 10 * k)) 1 = .ref (ad (1 + d) 0) := by
  obtain ⟨h1, h2, h3, h4⟩ := h
  rw [c0] at h1 h2
  rw [c1] at h3 h4
  exact ⟨h1, h2, h3, h4⟩
theorem prv_T {g : gT} {ad : Nat → Nat → Nat} {E : Nat → Nat → va_E} {nd nL : Nat} (hL : nL ≤ 6) (h : TLas g ad E nd nL) : ∀ x, x < nL → prv g x ≤ x := fun x hx => by
  obtain ⟨_, ⟨lq, h1, h2, _⟩, _⟩ := h x hx
  rw [prv_of h2 (by omega)]; exact h1
def CX (ad : Nat → Nat → Nat) (E : Nat → Nat → va_E) (nd : Nat) (fi : Int32) (lq : Nat) (L : List Nat) : Prop := eI (E 0 7) 3 = fi ∧ eV (E 0 7) 4 = lyv ad lq ∧ (∀ k, k < L.length → eR (E 0 8) k = some (ad (1 + L.getD k 0) 0)) ∧ GL nd L
def F78 (E E' : Nat → Nat → va_E) : Prop := ∀ b2 o2, ¬ (b2 = 0 ∧ o2 = 7) → ¬ (b2 = 0 ∧ o2 = 8) → E' b2 o2 = E b2 o2
theorem F78_rf {E : Nat → Nat → va_E} : F78 E E := fun _ _ _ _ => rfl
theorem F78_tr {E E' E2 : Nat → Nat → va_E} (h : F78 E E') (h2 : F78 E' E2) : F78 E E2 := fun b o h7 h8 => (h2 b o h7 h8).trans (h b o h7 h8)
theorem TDs_78 {g : gT} {E E' : Nat → Nat → va_E} {nd : Nat} (h : F78 E E') (ht : TDs g E nd) : TDs g E' nd := TDs_same (fun d _ => fun2 fun o => h (1 + d) o (by omega) (by omega)) ht
theorem TLas_same {g : gT} {ad ad' : Nat → Nat → Nat} {E E' : Nat → Nat → va_E} {nd nd' nL : Nat} (hn : nd ≤ nd') (hE : ∀ n, n < nL → E' (20 + n) = E (20 + n)) (h1 : ∀ d, d < nd → ad' (1 + d) 0 = ad (1 + d) 0) (h2 : ∀ n, n < nL → ad' (20 + n) 0 = ad (20 + n) 0) (h : TLas g ad E nd nL) : TLas g ad' E' nd' nL := fun n hn9 => by
  obtain ⟨q1, ⟨lq, q2, q3, q4⟩, q5, q6⟩ := h n hn9
  rw [hE n hn9]
  refine ⟨q1, ⟨lq, q2, q3, ?_⟩, q5, fun k hk => ?_⟩
  · rw [q4]
    cases lq with
    | zero => rfl
    | succ y => show Value.ref (ad (20 + y) 0) = .ref (ad' (20 + y) 0); rw [h2 y (by omega)]
  · obtain ⟨d, r1, r2, r3⟩ := q6 k hk
    exact ⟨d, by omega, r2, by rw [r3, h1 d r1]⟩
theorem TLas_78 {g : gT} {ad : Nat → Nat → Nat} {E E' : Nat → Nat → va_E} {nd nL : Nat} (h : F78 E E') (ht : TLas g ad E nd nL) : TLas g ad E' nd nL := TLas_same (Nat.le_refl _) (fun n _ => fun2 fun o => h (20 + n) o (by omega) (by omega)) (fun _ _ => rfl) (fun _ _ => rfl) ht
theorem lkG_hitT {g : gT} {y k mk : Nat} {n : Int32} (hm : g 20 y = nI mk) (hmk : mk ≤ 12) (hk : k < mk) (h : g 4 (mdv g y k) = n) (hno : ∀ j, j < k → ¬ g 4 (mdv g y j) = n) : lkG g (y + 1) n = some (y, mdv g y k) := lkU_hit (by unfold mcv; rw [hm, iN_nI (by omega)]; exact hk) h hno
theorem lkG_missT {g : gT} {y lq mk : Nat} {n : Int32} (hp : ∀ x, x < y + 1 → prv g x ≤ x) (hm : g 20 y = nI mk) (hmk : mk ≤ 12) (h19 : g 19 y = nI lq - 1) (hlq : lq ≤ 6) (hno : ∀ j, j < mk → ¬ g 4 (mdv g y j) = n) : lkG g (y + 1) n = lkG g lq n := by
  have q := lkU_miss (nm := g 4) (mc := mcv g) (md := mdv g) (pr := prv g) (la := y) (n := n) hp (by unfold mcv; rw [hm, iN_nI (by omega)]; exact hno)
  rw [prv_of h19 (by omega)] at q
  exact q
theorem lyv_s {ad : Nat → Nat → Nat} {lq y : Nat} (h : lq = y + 1) : lyv ad lq = .ref (ad (20 + y) 0) := by rw [h]; rfl
theorem lyv_0 {ad : Nat → Nat → Nat} {lq : Nat} (h : lq = 0) : lyv ad lq = .null := by rw [h]; rfl
