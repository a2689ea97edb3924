def F134 (E E' : Nat → Nat → va_E) : Prop := ∀ b2 o2, ¬ (b2 = 0 ∧ o2 = 1) → ¬ (b2 = 0 ∧ o2 = 3) → ¬ (b2 = 0 ∧ o2 = 4) → E' b2 o2 = E b2 o2
theorem we_le {t : Nat → Int32} {n i : Nat} (h : i < (w_all t n).length) : we (w_all t n) i ≤ n := by
  have q := w_all_ok t (n := n) ((w_all t n).getD i (0, 0)) (by rw [List.getD_eq_getElem?_getD, List.getElem?_eq_getElem h]; exact List.getElem_mem h)
  exact q.2
theorem LW_mk {g : gT} {E : Nat → Nat → va_E} {len : Nat} {wl : List (Nat × Nat)} {tx fb fe : Nat → Int32} {ka kb kc : ClassId} {na nb nc : Nat} {zz : Nat → Nat → Int32} (hwl : wl = w_all (g 0) len) (hl : len ≤ 40) (c2 : E 0 2 = .inl (ka, na, .inl tx)) (c3 : E 0 3 = .inl (kb, nb, .inl fb)) (c4 : E 0 4 = .inl (kc, nc, .inl fe)) (hT : ∀ i, i < len → tx i = g 0 i) (hf : fT zz fb fe wl) : LW g E len wl := by
  refine ⟨by rw [hwl]; exact WL_all _ hl, hl, fun i hi => ⟨?_, ?_, ?_⟩, fun i hi => ?_⟩
  · rw [c3]; exact (hf i hi).1
  · rw [c4]; exact (hf i hi).2
  · rw [hwl] at hi ⊢; exact we_le hi
  · rw [c2]; exact hT i hi
theorem FRL_c {ml nd : Nat} {ad ad' : Nat → Nat → Nat} {E E1 E' : Nat → Nat → va_E} (h : F134 E E1) (h2 : FRL ml nd ad ad' E1 E') : FRL ml nd ad ad' E E' := ⟨fun n hn => ⟨(h2.1 n hn).1.trans (fun2 fun o => h (20 + n) o (by omega) (by omega) (by omega)), (h2.1 n hn).2⟩, h2.2.1, h2.2.2.trans (h 0 0 (by omega) (by omega) (by omega))⟩
theorem m1_ne {n : Nat} (h : n < 100) : ¬ (nI 0 - 1 = nI n) := fun e => by
  have q : nI n < 0 := by rw [← e]; decide
  exact absurd q (nI_pos (by rw [xb_31]; omega))
theorem s1_eq {n : Nat} (h : n < 100) : nI (n + 1) - 1 = nI n := by
  have q : nI (n + 1) - nI 1 = nI (n + 1 - 1) := pk_sub (a := n + 1) (b := 1) (by omega)
  rw [show n + 1 - 1 = n by omega] at q; exact q
def clQ (g : gT) (ml : Nat) (ix : Int32) : Prop := opP g ml ix ∧ ∀ j, j < ml → ¬ g 22 j = 0 → ¬ g 19 j = ix
theorem TLas_cl {g : gT} {ad : Nat → Nat → Nat} {E E' : Nat → Nat → va_E} {nd ml x : Nat} {v0 v2 pv : Value} {lo : Int32} (c0 : E (20 + x) 0 = .inr (5, [v0, pv, v2, .int lo])) (c1 : E' (20 + x) 0 = .inr (5, [v0, pv, v2, .int 0])) (hf : ∀ b o, ¬ (b = 20 + x ∧ o = 0) → E' b o = E b o) (h : TLas g ad E nd ml) : TLas (va_up g 22 (upd (g 22) x 0)) ad E' nd ml := fun n hn => by
  obtain ⟨q1, q2, q3, q4⟩ := h n hn
  have e19 : va_up g 22 (upd (g 22) x 0) 19 = g 19 := vu_ne (by decide)
  have e20 : va_up g 22 (upd (g 22) x 0) 20 = g 20 := vu_ne (by decide)
  have e21 : va_up g 22 (upd (g 22) x 0) 21 = g 21 := vu_ne (by decide)
  unfold TLa
  rw [e19, e20, e21, vu_eq, hf (20 + n) 1 (by omega)]
  have q4 : ∀ k, k < eL (E (20 + n) 1) → ∃ d, d < nd ∧ g 21 (12 * n + k) = nI d ∧ eV (E' (20 + n) (10 + 10 * k)) 1 = .ref (ad (1 + d) 0) := fun k hk => by rw [hf (20 + n) (10 + 10 * k) (by omega)]; exact q4 k hk
  by_cases e : n = x
  · subst e
    rw [c0] at q2
    refine ⟨by rw [c1, pk_us]; rfl, by rw [c1]; exact q2, q3, q4⟩
  · rw [hf (20 + n) 0 (by omega), pk_un e]
    exact ⟨q1, q2, q3, q4⟩
