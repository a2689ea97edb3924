def RDp (g : gT) (n d k t : Nat) : Prop := ∃ i, i < k ∧ ∃ la e, lkG g (n + 1) (g 13 (5 * d + i)) = some (la, e) ∧ (t = 12 * la + e ∨ tc (pst g) (12 * la + e) t)
theorem RDp_0 {g : gT} {n d t : Nat} : ¬ RDp g n d 0 t := fun ⟨j, h, _⟩ => by omega
theorem RDp_y {g : gT} {n d i t la e : Nat} (hl : lkG g (n + 1) (g 13 (5 * d + i)) = some (la, e)) : RDp g n d (i + 1) t ↔ (RDp g n d i t ∨ (t = 12 * la + e ∨ tc (pst g) (12 * la + e) t)) := by
  constructor
  · intro ⟨j, h1, la2, e2, h3, h4⟩
    rcases Nat.lt_or_ge j i with q | q
    · exact Or.inl ⟨j, q, la2, e2, h3, h4⟩
    · rw [show j = i by omega, hl] at h3
      have q1 := congrArg Prod.fst (Option.some.inj h3)
      have q2 := congrArg Prod.snd (Option.some.inj h3)
      simp only at q1 q2
      subst q1
      subst q2
      exact Or.inr h4
  · rintro (⟨j, h1, h2⟩ | q)
    · exact ⟨j, by omega, h2⟩
    · exact ⟨i, by omega, la, e, hl, q⟩
theorem RDp_n {g : gT} {n d i t : Nat} (h : lkG g (n + 1) (g 13 (5 * d + i)) = none) : RDp g n d (i + 1) t ↔ RDp g n d i t := by
  constructor
  · intro ⟨j, h1, la2, e2, h3, h4⟩
    rcases Nat.lt_or_ge j i with q | q
    · exact ⟨j, q, la2, e2, h3, h4⟩
    · rw [show j = i by omega] at h3
      rw [h] at h3; cases h3
  · intro ⟨j, h1, h2⟩
    exact ⟨j, by omega, h2⟩
theorem RDp_rd {g : gT} {n d t : Nat} : RDp g n d (iN (g 12 d)) t ↔ rdP g n d t := by
  constructor
  · intro ⟨i, h1, la, e, h2, h3⟩
    have hr : rd0 g n d (5 * d + iN (g 12 d)) (12 * la + e) := ⟨5 * d + i, by omega, by omega, la, e, h2, rfl⟩
    rcases h3 with q | q
    · rw [q]; exact Or.inl hr
    · exact Or.inr ⟨_, hr, q⟩
  · rintro (⟨i, h0, h1, la, e, h2, h3⟩ | ⟨c, ⟨i, h0, h1, la, e, h2, h3⟩, h4⟩)
    · refine ⟨i - 5 * d, by omega, la, e, ?_, Or.inl h3⟩
      rw [show 5 * d + (i - 5 * d) = i by omega]; exact h2
    · refine ⟨i - 5 * d, by omega, la, e, ?_, Or.inr (by rw [← h3]; exact h4)⟩
      rw [show 5 * d + (i - 5 * d) = i by omega]; exact h2
def LKH (g : gT) (n : Nat) : Prop := (∀ x, x < n + 1 → prv g x ≤ x) ∧ ∀ la, la < n + 1 → ∀ k, k < mcv g la → mdv g la k < 12
theorem LKH_T {g : gT} {ad : Nat → Nat → Nat} {E : Nat → Nat → va_E} {nd nL n : Nat} (hL : nL ≤ 6) (hnd : nd ≤ 12) (hm : ∀ la, la < nL → eL (E (20 + la) 1) ≤ 12) (hn : n < nL) (h : TLas g ad E nd nL) : LKH g n := by
  refine ⟨fun x hx => prv_T hL h x (by omega), fun la hl k hk => ?_⟩
  obtain ⟨_, _, h3, h4⟩ := h la (by omega)
  unfold mcv at hk
  rw [h3, iN_nI (by have q := hm la (by omega); omega)] at hk
  obtain ⟨d, q1, q2, _⟩ := h4 k hk
  unfold mdv
  rw [q2, iN_nI (by omega)]; omega
theorem lkG_ltP {g : gT} {n lq la b : Nat} {nm : Int32} (hk : LKH g n) (hl : lq ≤ n + 1) (h : lkG g lq nm = some (la, b)) : la < lq ∧ b < 12 ∧ ∃ k, k < mcv g la ∧ mdv g la k = b := by
  obtain ⟨q1, k, q2, q3, _⟩ := lkf_lt lq lq (fun x hx => hk.1 x (by omega)) h
  exact ⟨q1, by rw [← q3]; exact hk.2 la (by omega) k q2, k, q2, q3⟩
theorem tc_last {R : Nat → Nat → Prop} {a b : Nat} (h : tc R a b) : R a b ∨ ∃ x, tc R a x ∧ R x b := by
  obtain ⟨k, hk⟩ := h
  cases k with
  | zero => exact Or.inl hk
  | succ j => obtain ⟨c, h1, h2⟩ := hk; exact Or.inr ⟨c, ⟨j, h1⟩, h2⟩
theorem PW_congr {F F2 : Nat → Nat → Prop} {nf : Nat → Nat} {mk : Nat} (hn : ∀ a, a < mk → nf a < 72) (h : ∀ a, a < mk → ∀ t, t < 72 → (F a t ↔ F2 a t)) : ∀ v, v ≤ mk → ∀ a, a < mk → ∀ t, t < 72 → (PW F nf v a t ↔ PW F2 nf v a t)
  | 0, _, a, ha, t, ht => h a ha t ht
  | v + 1, hv, a, ha, t, ht => by
    have i1 := PW_congr hn h v (by omega) a ha t ht
    have i2 := PW_congr hn h v (by omega) a ha (nf v) (hn v (by omega))
    have i3 := PW_congr hn h v (by omega) v (by omega) t ht
    constructor
    · rintro (q | ⟨q1, q2⟩)
      · exact Or.inl (i1.mp q)
      · exact Or.inr ⟨i2.mp q1, i3.mp q2⟩
    · rintro (q | ⟨q1, q2⟩)
      · exact Or.inl (i1.mpr q)
      · exact Or.inr ⟨i2.mpr q1, i3.mpr q2⟩
def LSr (g : gT) (n a t : Nat) : Prop := LSp g n (mdv g n a) (iN (g 12 (mdv g n a))) t
def CSr (g : gT) (n a t : Nat) : Prop := CSp g n (mdv g n a) (iN (g 12 (mdv g n a))) t
theorem LS_tc {g : gT} {n mk a e : Nat} (hk : LKH g n) (hm : mcv g n = mk) (ha : a < mk) (he : e < 12) : tc (RN (LSr g n) (fun b => 12 * n + mdv g n b) mk) (12 * n + mdv g n a) (12 * n + e) ↔ tc (stp g n) (mdv g n a) e := by
  have hst : ∀ b t, b < mk → LSr g n b t → ∀ e2, e2 < 12 → t = 12 * n + e2 → stp g n (mdv g n b) e2 := fun b t hb ⟨i, h1, h2, la, e3, h3, h4⟩ e2 he2 ht => by
    obtain ⟨_, q2, _⟩ := lkG_ltP hk (Nat.le_refl _) h3
    have ela : la = n := by omega
    have ee : e3 = e2 := by omega
    rw [ela, ee] at h3
    exact ⟨5 * mdv g n b + i, by omega, by omega, h2, h3⟩
  constructor
  · intro h
    refine tc_min (S := fun t => ∀ e2, e2 < 12 → t = 12 * n + e2 → tc (stp g n) (mdv g n a) e2) ?_ ?_ h e he rfl
    · intro t ⟨b, hb, hx, hF⟩ e2 he2 ht
      have hx : 12 * n + mdv g n a = 12 * n + mdv g n b := hx
      rw [show mdv g n a = mdv g n b by omega]
      exact tc_1 (hst b t hb hF e2 he2 ht)
    · intro x t hS ⟨b, hb, hx, hF⟩ e2 he2 ht
      exact tc_s (hS (mdv g n b) (hk.2 n (by omega) b (by omega)) hx) (hst b t hb hF e2 he2 ht)
  · intro h
    have hR : ∀ b c, b < mk → stp g n (mdv g n b) c → RN (LSr g n) (fun b => 12 * n + mdv g n b) mk (12 * n + mdv g n b) (12 * n + c) := fun b c hb ⟨i, h1, h2, h3, h4⟩ => ⟨b, hb, rfl, i - 5 * mdv g n b, by omega, by rw [show 5 * mdv g n b + (i - 5 * mdv g n b) = i by omega]; exact h3, n, c, by rw [show 5 * mdv g n b + (i - 5 * mdv g n b) = i by omega]; exact h4, rfl⟩
    have hMB : ∀ b c, stp g n b c → ∃ k, k < mk ∧ mdv g n k = c := fun b c ⟨i, _, _, _, h4⟩ => by
      obtain ⟨_, _, k, q1, q2⟩ := lkG_ltP hk (Nat.le_refl _) h4
      exact ⟨k, by omega, q2⟩
    refine (tc_min (S := fun x => tc (RN (LSr g n) (fun b => 12 * n + mdv g n b) mk) (12 * n + mdv g n a) (12 * n + x) ∧ ∃ k, k < mk ∧ mdv g n k = x) ?_ ?_ h).1
    · intro c hs
      exact ⟨tc_1 (hR a c ha hs), hMB _ c hs⟩
    · intro b c ⟨h1, k, hk9, hb⟩ hs
      subst hb
      exact ⟨tc_s h1 (hR k c hk9 hs), hMB _ c hs⟩
theorem pst_at {g : gT} {n d t : Nat} (hd : d < 12) : pst g (12 * n + d) t ↔ ∃ i, i < iN (g 12 d) ∧ ¬ g 16 (5 * d + i) = 0 ∧ ∃ la e, lkG g (n + 1) (g 13 (5 * d + i)) = some (la, e) ∧ t = 12 * la + e := by
  unfold pst
  rw [show (12 * n + d) % 12 = d by omega, show (12 * n + d) / 12 = n by omega]
  constructor
  · intro ⟨i, h1, h2, h3, la, e, h4, h5⟩
    exact ⟨i - 5 * d, by omega, by rw [show 5 * d + (i - 5 * d) = i by omega]; exact h3, la, e, by rw [show 5 * d + (i - 5 * d) = i by omega]; exact h4, h5⟩
  · intro ⟨i, h1, h3, la, e, h4, h5⟩
    exact ⟨5 * d + i, by omega, by omega, h3, la, e, h4, h5⟩
theorem CS_tc {g : gT} {n mk a t : Nat} (hk : LKH g n) (hm : mcv g n = mk) (ha : a < mk) : tc (RN (CSr g n) (fun b => 12 * n + mdv g n b) mk) (12 * n + mdv g n a) t ↔ tc (pst g) (12 * n + mdv g n a) t := by
  have hR : ∀ x t, RN (CSr g n) (fun b => 12 * n + mdv g n b) mk x t → tc (pst g) x t := fun x t ⟨b, hb, hx, i, h1, h2, la, e, h3, h4⟩ => by
    have hx : x = 12 * n + mdv g n b := hx
    have hp : pst g x (12 * la + e) := by rw [hx]; exact (pst_at (hk.2 n (by omega) b (by omega))).mpr ⟨i, h1, h2, la, e, h3, rfl⟩
    rcases h4 with q | ⟨_, q⟩
    · rw [q]; exact tc_1 hp
    · exact tc_tr (tc_1 hp) q
  constructor
  · intro h
    exact tc_min (S := fun x => tc (pst g) (12 * n + mdv g n a) x) (fun b hb => hR _ b hb) (fun b c h1 h2 => tc_tr h1 (hR b c h2)) h
  · intro h
    have hM : ∀ b c, b < mk → pst g (12 * n + mdv g n b) c → RN (CSr g n) (fun b => 12 * n + mdv g n b) mk (12 * n + mdv g n b) c := fun b c hb hp => by
      obtain ⟨i, h1, h2, la, e, h3, h4⟩ := (pst_at (hk.2 n (by omega) b (by omega))).mp hp
      exact ⟨b, hb, rfl, i, h1, h2, la, e, h3, Or.inl h4⟩
    have hL : ∀ b c, b < 12 * (n + 1) → pst g b c → c / 12 < b / 12 + 1 ∧ (c / 12 = n → ∃ k, k < mk ∧ c = 12 * n + mdv g n k) := fun b c hb hp => by
      obtain ⟨i, _, _, _, la, e, h4, h5⟩ := hp
      obtain ⟨q1, q2, k, q3, q4⟩ := lkG_ltP hk (by omega) h4
      refine ⟨by omega, fun hc => ⟨k, ?_, ?_⟩⟩
      · have : la = n := by omega
        rw [this] at q3; omega
      · have : la = n := by omega
        rw [this] at q4; omega
    have hlast : ∀ x b c, RN (CSr g n) (fun b => 12 * n + mdv g n b) mk x b → ¬ b / 12 = n → pst g b c → RN (CSr g n) (fun b => 12 * n + mdv g n b) mk x c := fun x b c ⟨y, hy, hx, i, h1, h2, la, e, h3, h4⟩ hbn hp => by
      refine ⟨y, hy, hx, i, h1, h2, la, e, h3, Or.inr ?_⟩
      obtain ⟨_, q2, _⟩ := lkG_ltP hk (Nat.le_refl _) h3
      rcases h4 with q | ⟨q, q9⟩
      · refine ⟨by omega, tc_1 ?_⟩
        rw [← q]; exact hp
      · exact ⟨q, tc_s q9 hp⟩
    refine (tc_min (S := fun x => tc (RN (CSr g n) (fun b => 12 * n + mdv g n b) mk) (12 * n + mdv g n a) x ∧ x < 12 * (n + 1) ∧ (x / 12 = n → ∃ k, k < mk ∧ x = 12 * n + mdv g n k)) ?_ ?_ h).1
    · intro c hp
      have q0 := hk.2 n (by omega) a (by omega)
      obtain ⟨q1, q2⟩ := hL _ c (by omega) hp
      exact ⟨tc_1 (hM a c ha hp), by omega, q2⟩
    · intro b c ⟨h1, h2, h3⟩ hp
      obtain ⟨q1, q2⟩ := hL b c h2 hp
      refine ⟨?_, by omega, q2⟩
      by_cases hbn : b / 12 = n
      · obtain ⟨k, hk9, hb⟩ := h3 hbn
        subst hb
        exact tc_s h1 (hM k c hk9 hp)
      · rcases tc_last h1 with q | ⟨x, q3, q4⟩
        · exact tc_1 (hlast _ b c q hbn hp)
        · exact tc_s q3 (hlast x b c q4 hbn hp)
