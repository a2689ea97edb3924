def pth (R : Nat → Nat → Prop) : Nat → Nat → Nat → Prop
  | 0, a, b => R a b
  | k + 1, a, b => ∃ c, pth R k a c ∧ R c b
def tc (R : Nat → Nat → Prop) (a b : Nat) : Prop := ∃ k, pth R k a b
theorem tc_1 {R : Nat → Nat → Prop} {a b : Nat} (h : R a b) : tc R a b := ⟨0, h⟩
theorem tc_s {R : Nat → Nat → Prop} {a b c : Nat} (h : tc R a b) (h2 : R b c) : tc R a c := by
  obtain ⟨k, hk⟩ := h
  exact ⟨k + 1, b, hk, h2⟩
theorem pth_min {R : Nat → Nat → Prop} {S : Nat → Prop} {a : Nat} (h1 : ∀ b, R a b → S b) (h2 : ∀ b c, S b → R b c → S c) : ∀ k b, pth R k a b → S b
  | 0, b, h => h1 b h
  | k + 1, b, ⟨c, hc, hr⟩ => h2 c b (pth_min h1 h2 k c hc) hr
theorem tc_min {R : Nat → Nat → Prop} {S : Nat → Prop} {a b : Nat} (h1 : ∀ b, R a b → S b) (h2 : ∀ b c, S b → R b c → S c) (h : tc R a b) : S b := by
  obtain ⟨k, hk⟩ := h
  exact pth_min h1 h2 k b hk
theorem tc_tr {R : Nat → Nat → Prop} {a b c : Nat} (h : tc R a b) (h2 : tc R b c) : tc R a c := tc_min (S := fun x => tc R a x) (fun _ hx => tc_s h hx) (fun _ _ hx hr => tc_s hx hr) h2
theorem lkf_lt {nm : Nat → Int32} {mc : Nat → Nat} {md : Nat → Nat → Nat} {pr : Nat → Nat} {n : Int32} : ∀ (f lq : Nat) {la b : Nat}, (∀ x, x < lq → pr x ≤ x) → lkf nm mc md pr f lq n = some (la, b) → la < lq ∧ ∃ k, k < mc la ∧ md la k = b ∧ nm b = n
  | 0, _, _, _, _, h => by cases h
  | _ + 1, 0, _, _, _, h => by cases h
  | f + 1, l + 1, la, b, hp, h => by
    unfold lkf at h
    cases hq : ff (fun k => nm (md l k) = n) (mc l) with
    | none =>
      rw [hq] at h
      have h1 := hp l (by omega)
      have ih := lkf_lt f (pr l) (fun x hx => hp x (by omega)) h
      exact ⟨by omega, ih.2⟩
    | some k =>
      rw [hq] at h
      have h2 := Option.some.inj h
      have h3 := ff_is hq
      have e1 : l = la := congrArg Prod.fst h2
      have e2 : md l k = b := congrArg Prod.snd h2
      subst e1
      exact ⟨by omega, k, h3.1, e2, by rw [← e2]; exact h3.2.1⟩
theorem lkG_lt {g : gT} {np lq la b : Nat} {n : Int32} (hnp : np ≤ 6) (hpar : ∀ la, la < np → ∃ lq, lq ≤ la ∧ g 19 la = nI lq - 1) (hl : lq ≤ np) (h : lkG g lq n = some (la, b)) : la < lq ∧ ∃ k, k < mcv g la ∧ mdv g la k = b ∧ g 4 b = n := lkf_lt lq lq (fun x hx => prv_le hnp hpar x (by omega)) h
def stp (g : gT) (nl a b : Nat) : Prop := ∃ i, 5 * a ≤ i ∧ i < 5 * a + iN (g 12 a) ∧ g 17 i = 0 ∧ lkG g (nl + 1) (g 13 i) = some (nl, b)
def MB (g : gT) (nl md b : Nat) : Prop := b < 12 ∧ ∃ j, 12 * nl ≤ j ∧ j < 12 * nl + md ∧ g 21 j = nI b
theorem lkG_MB {g : gT} {nl md b : Nat} {n : Int32} (hnl : nl ≤ 5) (hpn : ∀ la, la < nl + 1 → ∃ lq, lq ≤ la ∧ g 19 la = nI lq - 1) (hmd : g 20 nl = nI md) (hmd12 : md ≤ 12) (hent : ∀ i, 12 * nl ≤ i → i < 12 * nl + md → ∃ d, d < 12 ∧ g 21 i = nI d) (h : lkG g (nl + 1) n = some (nl, b)) : MB g nl md b := by
  obtain ⟨_, k, h1, h2, _⟩ := lkG_lt (np := nl + 1) (by omega) hpn (Nat.le_refl _) h
  unfold mcv at h1
  rw [hmd, iN_nI (by omega)] at h1
  obtain ⟨d, h3, h4⟩ := hent (12 * nl + k) (by omega) (by omega)
  unfold mdv at h2
  rw [h4, iN_nI (by omega)] at h2
  subst h2
  exact ⟨h3, 12 * nl + k, by omega, by omega, h4⟩
def cyS (g : gT) (nl md d : Nat) (f : Nat → Int32) : Prop := ∀ t, t < 72 → ¬ f t = 0 → ∃ b, t = 12 * nl + b ∧ MB g nl md b ∧ tc (stp g nl) d b
theorem cyS_0 {g : gT} {nl md d : Nat} {f : Nat → Int32} (h : ∀ j, j < 72 → f j = vp_nar .boolean 0) : cyS g nl md d f := fun t ht hn => absurd ((h t ht).trans (by decide)) hn
theorem cyS_up {g : gT} {nl md d b m t0 : Nat} {f : Nat → Int32} {x : Int32} (h : cyS g nl md d f) (e0 : t0 = 12 * nl + b) (hb : MB g nl md b) (hm : m = d ∨ tc (stp g nl) d m) (hs : stp g nl m b) : cyS g nl md d (upd f t0 x) := fun t ht hn => by
  by_cases e : t = t0
  · refine ⟨b, e.trans e0, hb, ?_⟩
    rcases hm with q | q
    · rw [q] at hs; exact tc_1 hs
    · exact tc_s q hs
  · rw [pk_un e] at hn
    exact h t ht hn
theorem stp_MB {g : gT} {nl md a b : Nat} (hnl : nl ≤ 5) (hpn : ∀ la, la < nl + 1 → ∃ lq, lq ≤ la ∧ g 19 la = nI lq - 1) (hmd : g 20 nl = nI md) (hmd12 : md ≤ 12) (hent : ∀ i, 12 * nl ≤ i → i < 12 * nl + md → ∃ d, d < 12 ∧ g 21 i = nI d) (h : stp g nl a b) : MB g nl md b := by
  obtain ⟨i, _, _, _, h4⟩ := h
  exact lkG_MB hnl hpn hmd hmd12 hent h4
theorem lkG_72 {g : gT} {np lq la b : Nat} {n : Int32} (hnp : np ≤ 6) (hpar : ∀ la, la < np → ∃ lq, lq ≤ la ∧ g 19 la = nI lq - 1) (hmd : ∀ la, la < 6 → ∃ k, k ≤ 12 ∧ g 20 la = nI k ∧ ∀ j, j < k → ∃ d, d < 12 ∧ g 21 (12 * la + j) = nI d) (hl : lq ≤ np) (h : lkG g lq n = some (la, b)) : la < np ∧ b < 12 := by
  obtain ⟨h1, k, h2, h3, _⟩ := lkG_lt hnp hpar hl h
  obtain ⟨mk, q1, q2, q3⟩ := hmd la (by omega)
  unfold mcv at h2
  rw [q2, iN_nI (by omega)] at h2
  obtain ⟨d, q4, q5⟩ := q3 k h2
  unfold mdv at h3
  rw [q5, iN_nI (by omega)] at h3
  omega
theorem up_mono {f f2 : Nat → Int32} {k : Nat} {x : Int32} (hx : ¬ x = 0) (h : ∀ t, ¬ f t = 0 → ¬ f2 t = 0) : ∀ t, ¬ f t = 0 → ¬ upd f2 k x t = 0 := fun t ht => by
  by_cases e : t = k
  · rw [e, pk_us]; exact hx
  · rw [pk_un e]; exact h t ht
def pst (g : gT) (a b : Nat) : Prop := ∃ i, 5 * (a % 12) ≤ i ∧ i < 5 * (a % 12) + iN (g 12 (a % 12)) ∧ ¬ g 16 i = 0 ∧ ∃ la e, lkG g (a / 12 + 1) (g 13 i) = some (la, e) ∧ b = 12 * la + e
def rd0 (g : gT) (ly d k b : Nat) : Prop := ∃ i, 5 * d ≤ i ∧ i < k ∧ ∃ la e, lkG g (ly + 1) (g 13 i) = some (la, e) ∧ b = 12 * la + e
def rdP (g : gT) (ly d b : Nat) : Prop := rd0 g ly d (5 * d + iN (g 12 d)) b ∨ ∃ c, rd0 g ly d (5 * d + iN (g 12 d)) c ∧ tc (pst g) c b
theorem rdP_s {g : gT} {ly d b c : Nat} (h : rdP g ly d b) (h2 : pst g b c) : rdP g ly d c := by
  rcases h with q | ⟨x, q1, q2⟩
  · exact Or.inr ⟨b, q, tc_1 h2⟩
  · exact Or.inr ⟨x, q1, tc_s q2 h2⟩
theorem rdP_min {g : gT} {ly d b : Nat} {S : Nat → Prop} (h1 : ∀ b, rd0 g ly d (5 * d + iN (g 12 d)) b → S b) (h2 : ∀ b c, S b → pst g b c → S c) (h : rdP g ly d b) : S b := by
  rcases h with q | ⟨x, q1, q2⟩
  · exact h1 b q
  · exact tc_min (S := S) (fun c hc => h2 x c (h1 x q1) hc) h2 q2
theorem rd0_s {g : gT} {ly d k b : Nat} (h : rd0 g ly d k b) : rd0 g ly d (k + 1) b := by
  obtain ⟨i, h1, h2, h3⟩ := h
  exact ⟨i, h1, by omega, h3⟩
theorem rd0_c {g : gT} {ly d k b : Nat} (h : rd0 g ly d (k + 1) b) (hk : ∀ la e, lkG g (ly + 1) (g 13 k) = some (la, e) → ¬ b = 12 * la + e) : rd0 g ly d k b := by
  obtain ⟨i, h1, h2, la, e, h3, h4⟩ := h
  rcases Nat.lt_or_ge i k with q | q
  · exact ⟨i, h1, q, la, e, h3, h4⟩
  · rw [show i = k by omega] at h3
    exact absurd h4 (hk la e h3)
