theorem fin_iff {fi : Int32} : (¬ fi < 0 ∧ ¬ 1 < fi) ↔ (fi = 0 ∨ fi = 1) := by
  constructor
  · intro ⟨h1, h2⟩
    have h1 := Int32.not_lt.mp h1
    have h2 := Int32.not_lt.mp h2
    have e1 := Int32.le_iff_toInt_le.mp h1
    have e2 := Int32.le_iff_toInt_le.mp h2
    have z0 : (0 : Int32).toInt = 0 := by decide
    have z1 : (1 : Int32).toInt = 1 := by decide
    rw [z0] at e1
    rw [z1] at e2
    rcases (show fi.toInt = 0 ∨ fi.toInt = 1 by omega) with q | q
    · exact Or.inl (Int32.toInt.inj (q.trans z0.symm))
    · exact Or.inr (Int32.toInt.inj (q.trans z1.symm))
  · rintro (h | h)
    · rw [h]; decide
    · rw [h]; decide
def FRX (ml nd : Nat) (ad ad' : Nat → Nat → Nat) (E E' : Nat → Nat → va_E) : Prop := (∀ n, n < ml → E' (20 + n) = E (20 + n)) ∧ (∀ n, n < ml → ad' (20 + n) 0 = ad (20 + n) 0) ∧ (∀ d, d < nd → E' (1 + d) = E (1 + d)) ∧ ∀ d, d < nd → ad' (1 + d) 0 = ad (1 + d) 0
theorem FRX_tr {ml nd : Nat} {ad ad1 ad2 : Nat → Nat → Nat} {E E1 E2 : Nat → Nat → va_E} (h : FRX ml nd ad ad1 E E1) (h2 : FRX ml nd ad1 ad2 E1 E2) : FRX ml nd ad ad2 E E2 := ⟨fun n hn => (h2.1 n hn).trans (h.1 n hn), fun n hn => (h2.2.1 n hn).trans (h.2.1 n hn), fun d hd => (h2.2.2.1 d hd).trans (h.2.2.1 d hd), fun d hd => (h2.2.2.2 d hd).trans (h.2.2.2 d hd)⟩
theorem FRX_B {ml nd : Nat} {ad : Nat → Nat → Nat} {E E' : Nat → Nat → va_E} (h : ∀ b o, ¬ b = 0 → E' b o = E b o) : FRX ml nd ad ad E E' := ⟨fun n _ => fun2 fun o => h (20 + n) o (by omega), fun _ _ => rfl, fun d _ => fun2 fun o => h (1 + d) o (by omega), fun _ _ => rfl⟩
theorem FRX_78 {ml nd : Nat} {ad : Nat → Nat → Nat} {E E' : Nat → Nat → va_E} (h : F78 E E') : FRX ml nd ad ad E E' := FRX_B (fun b o hb => h b o (by omega) (by omega))
theorem FRX_D {ml nd : Nat} {ad ad' : Nat → Nat → Nat} {E E' : Nat → Nat → va_E} (hnd : nd ≤ 12) (h : ∀ b o, ¬ b = 20 + ml → E' b o = E b o) (h2 : ∀ b o, ¬ b = 20 + ml → ad' b o = ad b o) : FRX ml nd ad ad' E E' := ⟨fun n _ => fun2 fun o => h (20 + n) o (by omega), fun n _ => h2 (20 + n) 0 (by omega), fun d _ => fun2 fun o => h (1 + d) o (by omega), fun d _ => h2 (1 + d) 0 (by omega)⟩
theorem gDr_mc {g : gT} {ml lq : Nat} {L : List Nat} (h : L.length ≤ 12) : mcv (gDr g ml lq L) ml = L.length := by
  unfold mcv
  rw [gDr_20, pk_us, iN_nI (by omega)]
theorem NZ_gDr {g : gT} {nd ml lq : Nat} {L : List Nat} (h : NZ g nd) : NZ (gDr g ml lq L) nd := fun d hd => by
  rw [gDr_o (by decide) (by decide) (by decide) (by decide)]; exact h d hd
theorem ND_gDr {g : gT} {nd ml lq : Nat} {L : List Nat} (hk : LKP g ml) (hG : GL nd L) (hnd : nd ≤ 12) (hl : L.length ≤ 12) (h : NDq g ml) : NDq (gDr g ml lq L) (ml + 1) := fun la hla a b ha hb e => by
  by_cases q : la = ml
  · subst q
    rw [gDr_mc hl] at ha hb
    rw [gDr_md hG hnd ha, gDr_md hG hnd hb] at e
    exact getD_inj hG.2 ha hb e
  · obtain ⟨e1, _, e3⟩ := VQ_gDr (lq := lq) (L := L) hk la (by omega)
    rw [e1] at ha hb
    rw [(e3 a ha).1, (e3 b hb).1] at e
    exact h la (by omega) a b ha hb e
theorem UQ_gDr {g : gT} {kA : Nat → ClassId} {ad : Nat → Nat → Nat} {E : Nat → Nat → va_E} {RL : List (Nat × Nat)} {nd ml lq : Nat} {L : List Nat} (hnd : nd ≤ 12) (hI : LIs kA ad E RL nd (ml + 1)) (hT : TLas (gDr g ml lq L) ad E nd (ml + 1)) (h : ∀ d, d < nd → UQ1 g d) : ∀ la, la < ml + 1 → ∀ k, k < mcv (gDr g ml lq L) la → UQ1 (gDr g ml lq L) (mdv (gDr g ml lq L) la k) := fun la hla k hk => by
  have q : mdv (gDr g ml lq L) la k < nd := by
    obtain ⟨_, _, q3, q4⟩ := hT la hla
    have q5 := LIs_12 hI la hla
    unfold mcv at hk
    rw [q3, iN_nI (by omega)] at hk
    obtain ⟨d, q6, q7, _⟩ := q4 k hk
    unfold mdv
    rw [q7, iN_nI (by omega)]; exact q6
  generalize mdv (gDr g ml lq L) la k = d at q
  have z := h d q
  unfold UQ1
  rw [gDr_o (j := 5) (by decide) (by decide) (by decide) (by decide), gDr_o (j := 6) (by decide) (by decide) (by decide) (by decide)]
  exact z
def yN (g : gT) (wl : List (Nat × Nat)) (nd ml : Nat) (fi pa : Int32) : Prop := ok1 g (g 0) wl ml fi pa ∧ ∃ Lx, aF (adG g nd fi (iN (pa + 1))) [] (nmL (g 0) wl wl.length 0) = (false, Lx)
def yL (g : gT) (wl : List (Nat × Nat)) (nd ml : Nat) (fi pa bi : Int32) (L : List Nat) : Prop := ok1 g (g 0) wl ml fi pa ∧ ∃ L1, aF (adG g nd fi (iN (pa + 1))) [] (nmL (g 0) wl wl.length 0) = (true, L1) ∧ L = cif (¬ bi = 0) (bIt (bUg g nd fi (iN (pa + 1))) g (iN (pa + 1)) 13 L1) L1 ∧ GL nd L
noncomputable def yW (g : gT) (ml : Nat) (pa : Int32) (L : List Nat) : Nat := rsW (gDr g ml (iN (pa + 1)) L) ml L.length
