noncomputable def srf (T : Nat → Nat → Prop) (mc pr : Nat → Nat) : Nat → Nat → Option (Nat × Nat)
  | 0, _ => none
  | _ + 1, 0 => none
  | f + 1, la + 1 => match ff (T la) (mc la) with
    | some k => some (la, k)
    | none => srf T mc pr f (pr la)
theorem srf_0 {T : Nat → Nat → Prop} {mc pr : Nat → Nat} : ∀ f, srf T mc pr f 0 = none
  | 0 => rfl
  | _ + 1 => rfl
theorem srf_f {T : Nat → Nat → Prop} {mc pr : Nat → Nat} : ∀ (f f2 lq : Nat), lq ≤ f → lq ≤ f2 → (∀ la, la < lq → pr la ≤ la) → srf T mc pr f2 lq = srf T mc pr f lq
  | f, f2, 0, _, _, _ => by rw [srf_0, srf_0]
  | 0, _, la + 1, h, _, _ => absurd h (by omega)
  | _ + 1, 0, la + 1, _, h, _ => absurd h (by omega)
  | f + 1, f2 + 1, la + 1, h1, h2, hp => by
    have hpl := hp la (by omega)
    have ih := srf_f (T := T) (mc := mc) (pr := pr) f f2 (pr la) (by omega) (by omega) (fun x hx => hp x (by omega))
    unfold srf
    cases hq : ff (T la) (mc la) with
    | none => simp only; exact ih
    | some k => rfl
noncomputable def srU (T : Nat → Nat → Prop) (mc pr : Nat → Nat) (lq : Nat) : Option (Nat × Nat) := srf T mc pr lq lq
theorem srU_hit {T : Nat → Nat → Prop} {mc pr : Nat → Nat} {la k : Nat} (hk : k < mc la) (h : T la k) (hn : ∀ j, j < k → ¬ T la j) : srU T mc pr (la + 1) = some (la, k) := by
  unfold srU srf
  rw [ff_some hk h hn]
theorem srU_miss {T : Nat → Nat → Prop} {mc pr : Nat → Nat} {la : Nat} (hp : ∀ x, x < la + 1 → pr x ≤ x) (hn : ∀ j, j < mc la → ¬ T la j) : srU T mc pr (la + 1) = srU T mc pr (pr la) := by
  have h1 := hp la (by omega)
  show srf T mc pr (la + 1) (la + 1) = srf T mc pr (pr la) (pr la)
  conv => lhs; unfold srf
  rw [ff_none hn]
  exact srf_f _ _ _ (Nat.le_refl _) (by omega) (fun x hx => hp x (by omega))
def chF (pr : Nat → Nat) : Nat → Nat → Nat → Prop
  | 0, _, _ => False
  | f + 1, lq, la => 0 < lq ∧ (la = lq - 1 ∨ chF pr f (pr (lq - 1)) la)
def Ch (pr : Nat → Nat) (lq la : Nat) : Prop := ∃ f, chF pr f lq la
theorem Ch_0 {pr : Nat → Nat} {la : Nat} : ¬ Ch pr 0 la := fun ⟨f, h⟩ => by
  cases f with
  | zero => exact h
  | succ f => exact absurd h.1 (Nat.lt_irrefl _)
theorem Ch_s {pr : Nat → Nat} {y la : Nat} : Ch pr (y + 1) la ↔ (la = y ∨ Ch pr (pr y) la) := by
  constructor
  · intro ⟨f, h⟩
    cases f with
    | zero => exact h.elim
    | succ f =>
      rcases h.2 with q | q
      · exact Or.inl q
      · exact Or.inr ⟨f, q⟩
  · rintro (q | ⟨f, q⟩)
    · exact ⟨1, by omega, Or.inl q⟩
    · exact ⟨f + 1, by omega, Or.inr q⟩
theorem chF_lt {pr : Nat → Nat} : ∀ (f lq la : Nat), (∀ x, x < lq → pr x ≤ x) → chF pr f lq la → la < lq
  | 0, _, _, _, h => h.elim
  | f + 1, lq, la, hp, h => by
    rcases h.2 with q | q
    · have := h.1; omega
    · have h0 := h.1
      have h1 := hp (lq - 1) (by omega)
      have h2 := chF_lt f _ la (fun x hx => hp x (by omega)) q
      omega
theorem Ch_lt {pr : Nat → Nat} {lq la : Nat} (hp : ∀ x, x < lq → pr x ≤ x) (h : Ch pr lq la) : la < lq := by
  obtain ⟨f, hf⟩ := h
  exact chF_lt f lq la hp hf
theorem chF_tr {pr : Nat → Nat} : ∀ (f lq la la2 : Nat), chF pr f lq la → Ch pr (la + 1) la2 → Ch pr lq la2
  | 0, _, _, _, h, _ => h.elim
  | f + 1, lq, la, la2, h, h2 => by
    have h0 := h.1
    rcases h.2 with q | q
    · rw [show lq = la + 1 by omega]; exact h2
    · rw [show lq = (lq - 1) + 1 by omega]
      exact Ch_s.mpr (Or.inr (chF_tr f _ la la2 q h2))
theorem Ch_tr {pr : Nat → Nat} {lq la la2 : Nat} (h : Ch pr lq la) (h2 : Ch pr (la + 1) la2) : Ch pr lq la2 := by
  obtain ⟨f, hf⟩ := h
  exact chF_tr f lq la la2 hf h2
theorem srf_none {T : Nat → Nat → Prop} {mc pr : Nat → Nat} : ∀ (f lq : Nat), lq ≤ f → (∀ x, x < lq → pr x ≤ x) → srf T mc pr f lq = none → ∀ la, Ch pr lq la → ∀ k, k < mc la → ¬ T la k
  | f, 0, _, _, _ => fun la hc => absurd hc Ch_0
  | 0, la + 1, h, _, _ => absurd h (by omega)
  | f + 1, y + 1, h, hp, he => fun la hc k hk => by
    have h1 := hp y (by omega)
    unfold srf at he
    cases hq : ff (T y) (mc y) with
    | some j => rw [hq] at he; simp only at he; cases he
    | none =>
      rw [hq] at he
      simp only at he
      rcases Ch_s.mp hc with q | q
      · rw [q] at hk ⊢; exact ff_no hq k hk
      · exact srf_none f (pr y) (by omega) (fun x hx => hp x (by omega)) he la q k hk
theorem srf_some {T : Nat → Nat → Prop} {mc pr : Nat → Nat} : ∀ (f lq : Nat) {la k : Nat}, srf T mc pr f lq = some (la, k) → Ch pr lq la ∧ k < mc la ∧ T la k
  | 0, _, _, _, h => by cases h
  | _ + 1, 0, _, _, h => by cases h
  | f + 1, y + 1, la, k, h => by
    unfold srf at h
    cases hq : ff (T y) (mc y) with
    | some j =>
      rw [hq] at h
      simp only at h
      have q1 := congrArg Prod.fst (Option.some.inj h)
      have q2 := congrArg Prod.snd (Option.some.inj h)
      simp only at q1 q2
      subst q1
      subst q2
      exact ⟨Ch_s.mpr (Or.inl rfl), (ff_is hq).1, (ff_is hq).2.1⟩
    | none =>
      rw [hq] at h
      simp only at h
      obtain ⟨z1, z2⟩ := srf_some f (pr y) h
      exact ⟨Ch_s.mpr (Or.inr z1), z2⟩
theorem lkf_ch {nm : Nat → Int32} {mc : Nat → Nat} {md : Nat → Nat → Nat} {pr : Nat → Nat} {n : Int32} : ∀ (f lq : Nat) {la b : Nat}, lkf nm mc md pr f lq n = some (la, b) → Ch pr lq la ∧ ∃ k, k < mc la ∧ md la k = b
  | 0, _, _, _, h => by cases h
  | _ + 1, 0, _, _, h => by cases h
  | f + 1, y + 1, la, b, h => by
    unfold lkf at h
    cases hq : ff (fun k => nm (md y k) = n) (mc y) with
    | some j =>
      rw [hq] at h
      simp only at h
      have q1 := congrArg Prod.fst (Option.some.inj h)
      have q2 := congrArg Prod.snd (Option.some.inj h)
      simp only at q1 q2
      subst q1
      exact ⟨Ch_s.mpr (Or.inl rfl), j, (ff_is hq).1, q2⟩
    | none =>
      rw [hq] at h
      simp only at h
      obtain ⟨z1, z2⟩ := lkf_ch f (pr y) h
      exact ⟨Ch_s.mpr (Or.inr z1), z2⟩
def SRT (g : gT) (R : Nat → Prop) (pn rd : Int32) (la j : Nat) : Prop := R (12 * la + mdv g la j) ∧ ∃ i, pI g (mdv g la j) pn = some i ∧ exP g (6 * mdv g la j + i) rd
noncomputable def srG (g : gT) (R : Nat → Prop) (pn rd : Int32) (lq : Nat) : Option (Nat × Nat) := srU (SRT g R pn rd) (mcv g) (prv g) lq
def SBi (g : gT) (R : Nat → Prop) (n d n2 k2 i : Nat) : Prop := (∃ q, pI g (mdv g n2 k2) (g 6 (6 * mdv g n2 k2 + i)) = some q ∧ exP g (6 * mdv g n2 k2 + q) (g 4 d)) ∧ ((∃ q, pI g d (g 6 (6 * mdv g n2 k2 + i)) = some q) ∨ ¬ srG g R (g 6 (6 * mdv g n2 k2 + i)) (g 4 d) (n + 1) = some (n2, k2))
def SB (g : gT) (R : Nat → Prop) (n d n2 k2 : Nat) : Prop := R (12 * n2 + mdv g n2 k2) ∧ ∃ i, i < iN (g 5 (mdv g n2 k2)) ∧ SBi g R n d n2 k2 i
def RWb (E : Nat → Nat → va_E) (n k : Nat) : Nat → Prop := fun t => BS (eA (E (20 + n) (17 + 10 * k))) t
def NDq (g : gT) (np : Nat) : Prop := ∀ la, la < np → ∀ a b, a < mcv g la → b < mcv g la → mdv g la a = mdv g la b → a = b
def UQ1 (g : gT) (d : Nat) : Prop := ∀ i j, i < iN (g 5 d) → j < iN (g 5 d) → g 6 (6 * d + i) = g 6 (6 * d + j) → i = j
theorem pI_is {g : gT} {d i : Nat} {n : Int32} (h : pI g d n = some i) : i < iN (g 5 d) ∧ g 6 (6 * d + i) = n := by
  have q := ff_is h
  exact ⟨q.1, q.2.1⟩
theorem pI_u {g : gT} {d i : Nat} (hu : UQ1 g d) (hi : i < iN (g 5 d)) : pI g d (g 6 (6 * d + i)) = some i := ff_some hi rfl (fun j hj e => by have q := hu j i (by omega) hi e; omega)
theorem pI_ex {g : gT} {d k0 : Nat} {f0 : Nat → Int32} {n : Int32} (b0 : k0 ≤ 6) (h4 : nI k0 = g 5 d) (h5 : ∀ i, i < k0 → f0 i = g 6 (6 * d + i)) (h : ∃ k, k < k0 ∧ f0 k = n) : ∃ q, pI g d n = some q := by
  rcases ff_or (P := fun i => g 6 (6 * d + i) = n) (iN (g 5 d)) with ⟨k, _, _, _, q⟩ | ⟨q, _⟩
  · exact ⟨k, q⟩
  · obtain ⟨k, h1, h2⟩ := h
    exact absurd ((h5 k h1).symm.trans h2) (q k (by rw [← h4, iN_nI (by omega)]; exact h1))
theorem rd_ch {g : gT} {n d m : Nat} (hk : LKP g (n + 1)) (h : rdP g n d m) : ∃ la, Ch (prv g) (n + 1) la ∧ ∃ k, k < mcv g la ∧ m = 12 * la + mdv g la k := by
  refine rdP_min (S := fun m => ∃ la, Ch (prv g) (n + 1) la ∧ ∃ k, k < mcv g la ∧ m = 12 * la + mdv g la k) ?_ ?_ h
  · intro b ⟨i, _, _, la, e, h2, h3⟩
    obtain ⟨q1, k, q2, q3⟩ := lkf_ch _ _ h2
    exact ⟨la, q1, k, q2, by rw [h3]; exact congrArg (fun x => 12 * la + x) q3.symm⟩
  · intro b c ⟨la, h1, k, h2, h3⟩ ⟨i, _, _, _, la2, e2, h5, h6⟩
    obtain ⟨q1, k2, q2, q3⟩ := lkf_ch _ _ h5
    have hm := (hk.2 la (Ch_lt hk.1 h1)).2 k h2
    rw [show b / 12 = la by omega] at q1
    exact ⟨la2, Ch_tr h1 q1, k2, q2, by rw [h6]; exact congrArg (fun x => 12 * la2 + x) q3.symm⟩
theorem SPL_iff {g : gT} {R : Nat → Nat → Prop} {n : Nat} (hn : n < 6) (hk : LKP g (n + 1)) (hN : NDq g (n + 1)) (hU : ∀ la, la < n + 1 → ∀ k, k < mcv g la → UQ1 g (mdv g la k)) (h21 : ∀ k, k < mcv g n → g 21 (12 * n + k) = nI (mdv g n k)) (hR : ∀ k, k < mcv g n → ∀ t, t < 72 → (R k t ↔ rdQ g n (mdv g n k) t)) : (∃ k, k < mcv g n ∧ ∃ la, Ch (prv g) (n + 1) la ∧ ∃ k3, k3 < mcv g la ∧ SB g (R k) n (mdv g n k) la k3) ↔ SPL g n (mcv g n) := by
  constructor
  · intro ⟨k, hk1, la, hc, k3, hk3, hRm, i, hi, ⟨j, hj, hex⟩, hor⟩
    have hla := Ch_lt hk.1 hc
    have hd12 := (hk.2 la hla).2 k3 hk3
    have hb12 := (hk.2 n (by omega)).2 k hk1
    have hji : j = i := by
      have q := pI_is hj
      exact hU la hla k3 hk3 j i q.1 hi q.2
    subst hji
    refine ⟨mdv g n k, ⟨hb12, 12 * n + k, by omega, by omega, h21 k hk1⟩, 12 * la + mdv g la k3, by omega, (hR k hk1 _ (by omega)).mp hRm, ?_⟩
    rw [show (12 * la + mdv g la k3) % 12 = mdv g la k3 by omega]
    refine ⟨6 * mdv g la k3 + j, by omega, by omega, hex, ?_⟩
    rcases hor with q | q
    · exact Or.inl q
    · right
      have hT : SRT g (R k) (g 6 (6 * mdv g la k3 + j)) (g 4 (mdv g n k)) la k3 := ⟨hRm, j, hj, hex⟩
      cases hs : srG g (R k) (g 6 (6 * mdv g la k3 + j)) (g 4 (mdv g n k)) (n + 1) with
      | none => exact absurd hT (srf_none (n + 1) (n + 1) (Nat.le_refl _) hk.1 hs la hc k3 hk3)
      | some x =>
        obtain ⟨x1, x2⟩ := x
        obtain ⟨z1, z2, ⟨z3, i2, z4, z5⟩⟩ := srf_some (n + 1) (n + 1) hs
        have hx1 := Ch_lt hk.1 z1
        have hx12 := (hk.2 x1 hx1).2 x2 z2
        refine ⟨12 * x1 + mdv g x1 x2, by omega, fun e => ?_, (hR k hk1 _ (by omega)).mp z3, i2, ?_⟩
        · have e1 : x1 = la := by omega
          subst e1
          have e2 := hN x1 hx1 x2 k3 z2 hk3 (by omega)
          subst e2
          exact q hs
        · rw [show (12 * x1 + mdv g x1 x2) % 12 = mdv g x1 x2 by omega]
          exact ⟨z4, z5⟩
  · intro ⟨b, ⟨hb12, j, hj1, hj2, hj3⟩, m, hm, hQ, p, hp1, hp2, hex, hor⟩
    have hkb : mdv g n (j - 12 * n) = b := by
      unfold mdv
      rw [show 12 * n + (j - 12 * n) = j by omega, hj3, iN_nI (by omega)]
    have hk1 : j - 12 * n < mcv g n := by omega
    generalize hkk : j - 12 * n = k at hkb hk1
    subst hkb
    obtain ⟨la, hc, k3, hk3, hmm⟩ := rd_ch hk hQ.1
    have hla := Ch_lt hk.1 hc
    have hd12 := (hk.2 la hla).2 k3 hk3
    subst hmm
    rw [show (12 * la + mdv g la k3) % 12 = mdv g la k3 by omega] at hp1 hp2
    obtain ⟨i, hpi⟩ : ∃ i, p = 6 * mdv g la k3 + i := ⟨p - 6 * mdv g la k3, by omega⟩
    subst hpi
    have hi : i < iN (g 5 (mdv g la k3)) := by omega
    have hpI := pI_u (hU la hla k3 hk3) hi
    have hRm := (hR k hk1 _ hm).mpr hQ
    rcases hor with q | ⟨m2, hm2, hne, hQ2, i2, hi2, hex2⟩
    · exact ⟨k, hk1, la, hc, k3, hk3, hRm, i, hi, ⟨i, hpI, hex⟩, Or.inl q⟩
    · by_cases hs : srG g (R k) (g 6 (6 * mdv g la k3 + i)) (g 4 (mdv g n k)) (n + 1) = some (la, k3)
      · obtain ⟨la2, hc2, k4, hk4, hmm2⟩ := rd_ch hk hQ2.1
        have hla2 := Ch_lt hk.1 hc2
        have hd2 := (hk.2 la2 hla2).2 k4 hk4
        subst hmm2
        rw [show (12 * la2 + mdv g la2 k4) % 12 = mdv g la2 k4 by omega] at hi2 hex2
        obtain ⟨q1, q2⟩ := pI_is hi2
        refine ⟨k, hk1, la2, hc2, k4, hk4, (hR k hk1 _ hm2).mpr hQ2, i2, q1, ?_⟩
        unfold SBi
        rw [q2]
        refine ⟨⟨i2, hi2, hex2⟩, Or.inr (fun e => ?_)⟩
        rw [hs] at e
        have e1 := congrArg Prod.fst (Option.some.inj e)
        have e2 := congrArg Prod.snd (Option.some.inj e)
        simp only at e1 e2
        subst e1
        subst e2
        exact hne rfl
      · exact ⟨k, hk1, la, hc, k3, hk3, hRm, i, hi, ⟨i, hpI, hex⟩, Or.inr hs⟩
theorem CYC_iff {g : gT} {R : Nat → Nat → Prop} {n : Nat} (hk : LKP g (n + 1)) (h21 : ∀ k, k < mcv g n → g 21 (12 * n + k) = nI (mdv g n k)) (hR : ∀ k, k < mcv g n → (R k (12 * n + mdv g n k) ↔ tc (stp g n) (mdv g n k) (mdv g n k))) : (∃ k, k < mcv g n ∧ R k (12 * n + mdv g n k)) ↔ CYC g n (mcv g n) := by
  constructor
  · intro ⟨k, h1, h2⟩
    exact ⟨mdv g n k, ⟨(hk.2 n (by omega)).2 k h1, 12 * n + k, by omega, by omega, h21 k h1⟩, (hR k h1).mp h2⟩
  · intro ⟨b, ⟨hb12, j, hj1, hj2, hj3⟩, h⟩
    have hkb : mdv g n (j - 12 * n) = b := by
      unfold mdv
      rw [show 12 * n + (j - 12 * n) = j by omega, hj3, iN_nI (by omega)]
    have hk1 : j - 12 * n < mcv g n := by omega
    exact ⟨j - 12 * n, hk1, (hR _ hk1).mpr (by rw [hkb]; exact h)⟩
