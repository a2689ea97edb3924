theorem nI_iN_of {x : Int32} {k : Nat} (h : nI k = x) (hk : k < 2147483648) : x = nI (iN x) := by rw [← h, iN_nI hk]
def CN1 (g : gT) (E : Nat → Nat → va_E) (n j : Nat) : Prop := ∀ t, t < 72 → (BS (eA (E (20 + n) (15 + 10 * j))) t ↔ LSr g n j t) ∧ (BS (eA (E (20 + n) (16 + 10 * j))) t ↔ CSr g n j t)
def CN0 (g : gT) (E : Nat → Nat → va_E) (n j : Nat) : Prop := eL (E (20 + n) (11 + 10 * j)) = iN (g 12 (mdv g n j)) ∧ ∀ t, t < 72 → ¬ BS (eA (E (20 + n) (15 + 10 * j))) t ∧ ¬ BS (eA (E (20 + n) (16 + 10 * j))) t
def CN7 (E : Nat → Nat → va_E) (n j : Nat) : Prop := ∀ t, t < 72 → ¬ BS (eA (E (20 + n) (17 + 10 * j))) t
def CNd (g : gT) (kA : Nat → ClassId) (ad : Nat → Nat → Nat) (E : Nat → Nat → va_E) (RL : List (Nat × Nat)) (nd n j : Nat) : Prop := ∃ fr, E (20 + n) (11 + 10 * j) = .inl (kA 6, iN (g 12 (mdv g n j)), .inr (.inr (.inr (.inr fr)))) ∧ RQX g kA ad E RL nd n (mdv g n j) (iN (g 12 (mdv g n j))) fr
theorem CN1_fr {g : gT} {E E' : Nat → Nat → va_E} {n j : Nat} (h5 : E' (20 + n) (15 + 10 * j) = E (20 + n) (15 + 10 * j)) (h6 : E' (20 + n) (16 + 10 * j) = E (20 + n) (16 + 10 * j)) (h : CN1 g E n j) : CN1 g E' n j := fun t ht => by rw [h5, h6]; exact h t ht
theorem CN0_fr {g : gT} {E E' : Nat → Nat → va_E} {n j : Nat} (h1 : E' (20 + n) (11 + 10 * j) = E (20 + n) (11 + 10 * j)) (h5 : E' (20 + n) (15 + 10 * j) = E (20 + n) (15 + 10 * j)) (h6 : E' (20 + n) (16 + 10 * j) = E (20 + n) (16 + 10 * j)) (h : CN0 g E n j) : CN0 g E' n j := by
  unfold CN0
  rw [h1, h5, h6]; exact h
theorem CN7_fr {E E' : Nat → Nat → va_E} {n j : Nat} (h7 : E' (20 + n) (17 + 10 * j) = E (20 + n) (17 + 10 * j)) (h : CN7 E n j) : CN7 E' n j := fun t ht => by rw [h7]; exact h t ht
theorem CNd_RU {g : gT} {kA : Nat → ClassId} {ad : Nat → Nat → Nat} {E E' : Nat → Nat → va_E} {RL : List (Nat × Nat)} {nd n j : Nat} (hR : RU kA E E') (h1 : E' (20 + n) (11 + 10 * j) = E (20 + n) (11 + 10 * j)) (h : CNd g kA ad E RL nd n j) : CNd g kA ad E' RL nd n j := by
  obtain ⟨fr, q1, q2⟩ := h
  exact ⟨fr, h1.trans q1, RQX_RU hR q2⟩
theorem RQX_23 {g : gT} {kA : Nat → ClassId} {ad : Nat → Nat → Nat} {E E' : Nat → Nat → va_E} {RL : List (Nat × Nat)} {nd n x d m : Nat} {fr : Nat → Option Nat} (hR : R23 n E E') (h : RQX g kA ad E RL nd x d m fr) : RQX g kA ad E' RL nd x d m fr := fun j hj => by
  rcases h j hj with q | ⟨x, k, q1, q2, q3, q4⟩
  · exact Or.inl q
  · exact Or.inr ⟨x, k, q1, q2, MEI_23 hR (fun _ _ _ => rfl) (fun _ h => h) q3, q4⟩
theorem CNd_23 {g : gT} {kA : Nat → ClassId} {ad : Nat → Nat → Nat} {E E' : Nat → Nat → va_E} {RL : List (Nat × Nat)} {nd n j : Nat} (hR : R23 n E E') (h : CNd g kA ad E RL nd n j) : CNd g kA ad E' RL nd n j := by
  obtain ⟨fr, q1, q2⟩ := h
  exact ⟨fr, (hR _ _ (by omega)).trans q1, RQX_23 hR q2⟩
theorem CN1_23 {g : gT} {E E' : Nat → Nat → va_E} {n j : Nat} (hR : R23 n E E') (h : CN1 g E n j) : CN1 g E' n j := CN1_fr (hR _ _ (by omega)) (hR _ _ (by omega)) h
theorem CN0_23 {g : gT} {E E' : Nat → Nat → va_E} {n j : Nat} (hR : R23 n E E') (h : CN0 g E n j) : CN0 g E' n j := CN0_fr (hR _ _ (by omega)) (hR _ _ (by omega)) (hR _ _ (by omega)) h
theorem CN7_23 {E E' : Nat → Nat → va_E} {n j : Nat} (hR : R23 n E E') (h : CN7 E n j) : CN7 E' n j := CN7_fr (hR _ _ (by omega)) h
theorem TLas_23 {g : gT} {ad ad' : Nat → Nat → Nat} {E E' : Nat → Nat → va_E} {nd n nL : Nat} (hE : R23 n E E') (ha : R23 n ad ad') (h : TLas g ad E nd nL) (hnd : nd ≤ 12) : TLas g ad' E' nd nL := TLas_same (E := E') (ad := ad) (Nat.le_refl _) (fun _ _ => rfl) (fun d hd => ha _ _ (by omega)) (fun n9 _ => ha _ _ (by omega)) (TLas_ro (fun n9 o9 hn9 ho9 => hE _ _ (by rcases ho9 with q | q | ⟨k, q⟩ <;> omega)) h)
theorem CNd_cel {g : gT} {kA : Nat → ClassId} {ad : Nat → Nat → Nat} {E : Nat → Nat → va_E} {RL : List (Nat × Nat)} {nd n j d rs : Nat} {c : ClassId} {fr : Nat → Option Nat} (h : CNd g kA ad E RL nd n j) (hd : mdv g n j = d) (hc : E (20 + n) (11 + 10 * j) = .inl (c, rs, .inr (.inr (.inr (.inr fr))))) : RQX g kA ad E RL nd n d rs fr ∧ rs = iN (g 12 d) := by
  obtain ⟨fr9, q1, q2⟩ := h
  rw [q1] at hc
  have e1 := congrArg (fun x : va_E => eL x) hc
  have e2 := congrArg (fun x : va_E => eR x) hc
  have e1 : iN (g 12 (mdv g n j)) = rs := e1
  have e2 : fr9 = fr := e2
  rw [hd, e2] at q2
  rw [hd] at e1
  rw [e1] at q2
  exact ⟨q2, e1.symm⟩
theorem LKH_L {g : gT} {kA : Nat → ClassId} {ad : Nat → Nat → Nat} {E : Nat → Nat → va_E} {RL : List (Nat × Nat)} {nd nL n : Nat} (hL : nL ≤ 6) (hnd : nd ≤ 12) (hn : n < nL) (hI : LIs kA ad E RL nd nL) (h : TLas g ad E nd nL) : LKH g n := LKH_T hL hnd (fun la hla => by
  obtain ⟨_, _, pv, op, mk, fm, hm, _, _, c1, _⟩ := hI la hla
  rw [c1]; exact hm) hn h
theorem T_20 {g : gT} {ad : Nat → Nat → Nat} {E : Nat → Nat → va_E} {nd nL n mk : Nat} {c : ClassId} {fm : Nat → Option Nat} (hn : n < nL) (h : TLas g ad E nd nL) (hc : E (20 + n) 1 = .inl (c, mk, .inr (.inr (.inr (.inr fm))))) : g 20 n = nI mk := by
  obtain ⟨_, _, h3, _⟩ := h n hn
  rw [hc] at h3; exact h3
def LBs (g : gT) (E : Nat → Nat → va_E) (n : Nat) : Prop := ∀ k, k < iN (g 20 n) → (BS (eA (E (20 + n) (15 + 10 * k))) (12 * n + mdv g n k) ↔ tc (stp g n) (mdv g n k) (mdv g n k))
def RBs (g : gT) (E : Nat → Nat → va_E) (n : Nat) : Prop := ∀ k, k < iN (g 20 n) → ∀ t, t < 72 → (BS (eA (E (20 + n) (17 + 10 * k))) t ↔ rdQ g n (mdv g n k) t)
theorem LBs_of {g : gT} {E : Nat → Nat → va_E} {n mk : Nat} (hk : LKH g n) (hm : iN (g 20 n) = mk) (hn : n < 6) (hinj : ∀ a b, a < mk → b < mk → mdv g n a = mdv g n b → a = b) (h : ∀ k, k < mk → ∀ t, t < 72 → (BS (eA (E (20 + n) (15 + 10 * k))) t ↔ PW (LSr g n) (fun b => 12 * n + mdv g n b) mk k t)) : LBs g E n := fun k hk9 => by
  have q := hk.2 n (by omega) k (by unfold mcv; omega)
  rw [h k (by omega) _ (by omega), PW_iff (fun a b ha hb e => hinj a b ha hb (by omega)) (by omega), LS_tc hk (by unfold mcv; exact hm) (by omega) q]
theorem CBs_of {g : gT} {E : Nat → Nat → va_E} {n mk : Nat} (hk : LKH g n) (hm : iN (g 20 n) = mk) (hinj : ∀ a b, a < mk → b < mk → mdv g n a = mdv g n b → a = b) (h0 : CBs g E n) (h : ∀ k, k < mk → ∀ t, t < 72 → (BS (eA (E (20 + n) (16 + 10 * k))) t ↔ PW (CSr g n) (fun b => 12 * n + mdv g n b) mk k t)) : CBs g E (n + 1) := fun la hl k hk9 t ht => by
  by_cases q : la = n
  · subst q
    rw [h k (by omega) t ht, PW_iff (fun a b ha hb e => hinj a b ha hb (by omega)) (by omega), CS_tc hk (by unfold mcv; exact hm) (by omega)]
  · exact h0 la (by omega) k hk9 t ht
