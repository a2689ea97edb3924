def LKP (g : gT) (np : Nat) : Prop := (∀ x, x < np → prv g x ≤ x) ∧ ∀ la, la < np → mcv g la ≤ 12 ∧ ∀ k, k < mcv g la → mdv g la k < 12
theorem LKP_L {g : gT} {kA : Nat → ClassId} {ad : Nat → Nat → Nat} {E : Nat → Nat → va_E} {RL : List (Nat × Nat)} {nd nL : Nat} (hL : nL ≤ 6) (hnd : nd ≤ 12) (hI : LIs kA ad E RL nd nL) (h : TLas g ad E nd nL) : LKP g nL := ⟨prv_T hL h, fun la hl => ⟨by
  obtain ⟨_, _, pv, op, mk, fm, hm, _, _, c1, _⟩ := hI la hl
  obtain ⟨_, _, h3, _⟩ := h la hl
  rw [c1] at h3
  have h3 : g 20 la = nI mk := h3
  unfold mcv
  rw [h3, iN_nI (by omega)]; exact hm, fun k hk => (LKH_L hL hnd hl hI h).2 la (by omega) k hk⟩⟩
def AQ (g g2 : gT) (d : Nat) : Prop := g2 4 d = g 4 d ∧ g2 12 d = g 12 d ∧ ∀ i, i < iN (g 12 d) → g2 13 (5 * d + i) = g 13 (5 * d + i) ∧ g2 16 (5 * d + i) = g 16 (5 * d + i) ∧ g2 17 (5 * d + i) = g 17 (5 * d + i)
def VQ (g g2 : gT) (np : Nat) : Prop := ∀ la, la < np → mcv g2 la = mcv g la ∧ prv g2 la = prv g la ∧ ∀ k, k < mcv g la → mdv g2 la k = mdv g la k ∧ AQ g g2 (mdv g la k)
theorem lkG_VQ {g g2 : gT} {np lq : Nat} {n : Int32} (hk : LKP g np) (hv : VQ g g2 np) (hl : lq ≤ np) : lkG g2 lq n = lkG g lq n := lkf_same lq lq lq (Nat.le_refl _) (Nat.le_refl _) (fun x hx => hk.1 x (by omega)) (fun la hla => ⟨(hv la (by omega)).1, (hv la (by omega)).2.1, fun k hk9 => ⟨((hv la (by omega)).2.2 k hk9).1, ((hv la (by omega)).2.2 k hk9).2.1⟩⟩)
def PM (g : gT) (np a : Nat) : Prop := a / 12 < np ∧ ∃ k, k < mcv g (a / 12) ∧ mdv g (a / 12) k = a % 12
theorem PM_of {g : gT} {np la k : Nat} (hk : LKP g np) (hl : la < np) (h : k < mcv g la) : PM g np (12 * la + mdv g la k) := by
  have q := (hk.2 la hl).2 k h
  unfold PM
  rw [show (12 * la + mdv g la k) / 12 = la by omega, show (12 * la + mdv g la k) % 12 = mdv g la k by omega]
  exact ⟨hl, k, h, rfl⟩
theorem lkG_ltQ {g : gT} {np lq la b : Nat} {nm : Int32} (hk : LKP g np) (hl : lq ≤ np) (h : lkG g lq nm = some (la, b)) : la < lq ∧ b < 12 ∧ PM g np (12 * la + b) := by
  obtain ⟨q1, k, q2, q3, _⟩ := lkf_lt lq lq (fun x hx => hk.1 x (by omega)) h
  subst q3
  exact ⟨q1, (hk.2 la (by omega)).2 k q2, PM_of hk (by omega) q2⟩
theorem AQ_at {g g2 : gT} {np a : Nat} (hv : VQ g g2 np) (ha : PM g np a) : AQ g g2 (a % 12) := by
  obtain ⟨h1, k, h2, h3⟩ := ha
  have q := ((hv _ h1).2.2 k h2).2
  rw [h3] at q; exact q
theorem pst_VQ {g g2 : gT} {np a b : Nat} (hk : LKP g np) (hv : VQ g g2 np) (ha : PM g np a) : pst g2 a b ↔ pst g a b := by
  obtain ⟨_, q2, q3⟩ := AQ_at hv ha
  unfold pst
  rw [q2]
  have e : ∀ i, 5 * (a % 12) ≤ i → i < 5 * (a % 12) + iN (g 12 (a % 12)) → g2 13 i = g 13 i ∧ g2 16 i = g 16 i := fun i h1 h2 => by
    have z := q3 (i - 5 * (a % 12)) (by omega)
    rw [show 5 * (a % 12) + (i - 5 * (a % 12)) = i by omega] at z
    exact ⟨z.1, z.2.1⟩
  have hl : ∀ n, lkG g2 (a / 12 + 1) n = lkG g (a / 12 + 1) n := fun n => lkG_VQ hk hv (by have z := ha.1; omega)
  constructor
  · intro ⟨i, h1, h2, h3, la, x, h4, h5⟩
    rw [(e i h1 h2).2] at h3
    rw [(e i h1 h2).1, hl] at h4
    exact ⟨i, h1, h2, h3, la, x, h4, h5⟩
  · intro ⟨i, h1, h2, h3, la, x, h4, h5⟩
    rw [← (e i h1 h2).2] at h3
    rw [← (e i h1 h2).1, ← hl] at h4
    exact ⟨i, h1, h2, h3, la, x, h4, h5⟩
theorem pst_PM {g : gT} {np a b : Nat} (hk : LKP g np) (ha : PM g np a) (h : pst g a b) : PM g np b := by
  obtain ⟨i, _, _, _, la, x, h4, h5⟩ := h
  rw [h5]; exact (lkG_ltQ hk (by have z := ha.1; omega) h4).2.2
theorem tc_VQ {g g2 : gT} {np a b : Nat} (hk : LKP g np) (hv : VQ g g2 np) (ha : PM g np a) : tc (pst g2) a b ↔ tc (pst g) a b := by
  constructor
  · intro h
    refine (tc_min (S := fun x => tc (pst g) a x ∧ PM g np x) ?_ ?_ h).1
    · intro x hx
      have hx := (pst_VQ hk hv ha).mp hx
      exact ⟨tc_1 hx, pst_PM hk ha hx⟩
    · intro x y ⟨h1, h2⟩ hx
      have hx := (pst_VQ hk hv h2).mp hx
      exact ⟨tc_s h1 hx, pst_PM hk h2 hx⟩
  · intro h
    refine (tc_min (S := fun x => tc (pst g2) a x ∧ PM g np x) ?_ ?_ h).1
    · intro x hx
      exact ⟨tc_1 ((pst_VQ hk hv ha).mpr hx), pst_PM hk ha hx⟩
    · intro x y ⟨h1, h2⟩ hx
      exact ⟨tc_s h1 ((pst_VQ hk hv h2).mpr hx), pst_PM hk h2 hx⟩
theorem rd0_VQ {g g2 : gT} {np ly k b : Nat} (hk : LKP g np) (hv : VQ g g2 np) (hl : ly < np) (hm : k < mcv g ly) : rd0 g2 ly (mdv g ly k) (5 * mdv g ly k + iN (g 12 (mdv g ly k))) b ↔ rd0 g ly (mdv g ly k) (5 * mdv g ly k + iN (g 12 (mdv g ly k))) b := by
  obtain ⟨_, _, q3⟩ := ((hv ly hl).2.2 k hm).2
  have e : ∀ i, 5 * mdv g ly k ≤ i → i < 5 * mdv g ly k + iN (g 12 (mdv g ly k)) → g2 13 i = g 13 i := fun i h1 h2 => by
    have z := q3 (i - 5 * mdv g ly k) (by omega)
    rw [show 5 * mdv g ly k + (i - 5 * mdv g ly k) = i by omega] at z
    exact z.1
  have hlk : ∀ n, lkG g2 (ly + 1) n = lkG g (ly + 1) n := fun n => lkG_VQ hk hv (by omega)
  constructor
  · intro ⟨i, h1, h2, la, x, h4, h5⟩
    rw [e i h1 h2, hlk] at h4
    exact ⟨i, h1, h2, la, x, h4, h5⟩
  · intro ⟨i, h1, h2, la, x, h4, h5⟩
    rw [← e i h1 h2, ← hlk] at h4
    exact ⟨i, h1, h2, la, x, h4, h5⟩
theorem rdQ_VQ {g g2 : gT} {np ly k b : Nat} (hk : LKP g np) (hv : VQ g g2 np) (hl : ly < np) (hm : k < mcv g ly) : rdQ g2 ly (mdv g ly k) b ↔ rdQ g ly (mdv g ly k) b := by
  have e12 := ((hv ly hl).2.2 k hm).2.2.1
  unfold rdQ rdP
  rw [e12]
  have hP : ∀ c, rd0 g ly (mdv g ly k) (5 * mdv g ly k + iN (g 12 (mdv g ly k))) c → PM g np c := fun c ⟨i, _, _, la, x, h4, h5⟩ => by rw [h5]; exact (lkG_ltQ hk (by omega) h4).2.2
  constructor
  · rintro ⟨q | ⟨c, q1, q2⟩, q3⟩
    · exact ⟨Or.inl ((rd0_VQ hk hv hl hm).mp q), q3⟩
    · have q1 := (rd0_VQ hk hv hl hm).mp q1
      exact ⟨Or.inr ⟨c, q1, (tc_VQ hk hv (hP c q1)).mp q2⟩, q3⟩
  · rintro ⟨q | ⟨c, q1, q2⟩, q3⟩
    · exact ⟨Or.inl ((rd0_VQ hk hv hl hm).mpr q), q3⟩
    · exact ⟨Or.inr ⟨c, (rd0_VQ hk hv hl hm).mpr q1, (tc_VQ hk hv (hP c q1)).mpr q2⟩, q3⟩
theorem stp_VQ {g g2 : gT} {np ly k b : Nat} (hk : LKP g np) (hv : VQ g g2 np) (hl : ly < np) (hm : k < mcv g ly) : stp g2 ly (mdv g ly k) b ↔ stp g ly (mdv g ly k) b := by
  obtain ⟨_, q2, q3⟩ := ((hv ly hl).2.2 k hm).2
  unfold stp
  rw [q2]
  have e : ∀ i, 5 * mdv g ly k ≤ i → i < 5 * mdv g ly k + iN (g 12 (mdv g ly k)) → g2 13 i = g 13 i ∧ g2 17 i = g 17 i := fun i h1 h2 => by
    have z := q3 (i - 5 * mdv g ly k) (by omega)
    rw [show 5 * mdv g ly k + (i - 5 * mdv g ly k) = i by omega] at z
    exact ⟨z.1, z.2.2⟩
  have hlk : ∀ n, lkG g2 (ly + 1) n = lkG g (ly + 1) n := fun n => lkG_VQ hk hv (by omega)
  constructor
  · intro ⟨i, h1, h2, h3, h4⟩
    rw [(e i h1 h2).2] at h3
    rw [(e i h1 h2).1, hlk] at h4
    exact ⟨i, h1, h2, h3, h4⟩
  · intro ⟨i, h1, h2, h3, h4⟩
    rw [← (e i h1 h2).2] at h3
    rw [← (e i h1 h2).1, ← hlk] at h4
    exact ⟨i, h1, h2, h3, h4⟩
theorem stp_mem {g : gT} {np ly a b : Nat} (hk : LKP g np) (hl : ly < np) (h : stp g ly a b) : ∃ k, k < mcv g ly ∧ mdv g ly k = b := by
  obtain ⟨i, _, _, _, h4⟩ := h
  obtain ⟨_, k, q2, q3, _⟩ := lkf_lt (ly + 1) (ly + 1) (fun x hx => hk.1 x (by omega)) h4
  exact ⟨k, q2, q3⟩
theorem tcs_VQ {g g2 : gT} {np ly k b : Nat} (hk : LKP g np) (hv : VQ g g2 np) (hl : ly < np) (hm : k < mcv g ly) : tc (stp g2 ly) (mdv g ly k) b ↔ tc (stp g ly) (mdv g ly k) b := by
  constructor
  · intro h
    refine (tc_min (S := fun x => tc (stp g ly) (mdv g ly k) x ∧ ∃ j, j < mcv g ly ∧ mdv g ly j = x) ?_ ?_ h).1
    · intro x hx
      have hx := (stp_VQ hk hv hl hm).mp hx
      exact ⟨tc_1 hx, stp_mem hk hl hx⟩
    · intro x y ⟨h1, j, h2, h3⟩ hx
      subst h3
      have hx := (stp_VQ hk hv hl h2).mp hx
      exact ⟨tc_s h1 hx, stp_mem hk hl hx⟩
  · intro h
    refine (tc_min (S := fun x => tc (stp g2 ly) (mdv g ly k) x ∧ ∃ j, j < mcv g ly ∧ mdv g ly j = x) ?_ ?_ h).1
    · intro x hx
      exact ⟨tc_1 ((stp_VQ hk hv hl hm).mpr hx), stp_mem hk hl hx⟩
    · intro x y ⟨h1, j, h2, h3⟩ hx
      subst h3
      exact ⟨tc_s h1 ((stp_VQ hk hv hl h2).mpr hx), stp_mem hk hl hx⟩
theorem CBs_VQ {g g2 : gT} {E : Nat → Nat → va_E} {np : Nat} (hk : LKP g np) (hv : VQ g g2 np) (h : CBs g E np) : CBs g2 E np := fun la hl k hk9 t ht => by
  obtain ⟨e1, _, e3⟩ := hv la hl
  have hm : k < mcv g la := by rw [← e1]; exact hk9
  rw [(e3 k hm).1, tc_VQ hk hv (PM_of hk hl hm)]
  exact h la hl k hm t ht
theorem RBs_VQ {g g2 : gT} {E : Nat → Nat → va_E} {np n : Nat} (hk : LKP g np) (hv : VQ g g2 np) (hl : n < np) (h : RBs g E n) : RBs g2 E n := fun k hk9 t ht => by
  obtain ⟨e1, _, e3⟩ := hv n hl
  have hm : k < mcv g n := by rw [← e1]; exact hk9
  rw [(e3 k hm).1, rdQ_VQ hk hv hl hm]
  exact h k hm t ht
def gDr (g : gT) (ml lq : Nat) (L : List Nat) : gT := va_up (va_up (va_up (va_up g 19 (upd (g 19) ml (nI lq - 1))) 20 (upd (g 20) ml (nI L.length))) 21 (fun i => if 12 * ml ≤ i ∧ i < 12 * ml + L.length then nI (L.getD (i - 12 * ml) 0) else g 21 i)) 22 (upd (g 22) ml 1)
theorem gDr_o {g : gT} {ml lq j : Nat} {L : List Nat} (h1 : j ≠ 19) (h2 : j ≠ 20) (h3 : j ≠ 21) (h4 : j ≠ 22) : gDr g ml lq L j = g j := by unfold gDr; rw [vu_ne h4, vu_ne h3, vu_ne h2, vu_ne h1]
theorem gDr_19 {g : gT} {ml lq : Nat} {L : List Nat} : gDr g ml lq L 19 = upd (g 19) ml (nI lq - 1) := by unfold gDr; rw [vu_ne (by decide), vu_ne (by decide), vu_ne (by decide), vu_eq]
theorem gDr_20 {g : gT} {ml lq : Nat} {L : List Nat} : gDr g ml lq L 20 = upd (g 20) ml (nI L.length) := by unfold gDr; rw [vu_ne (by decide), vu_ne (by decide), vu_eq]
theorem gDr_21 {g : gT} {ml lq i : Nat} {L : List Nat} : gDr g ml lq L 21 i = if 12 * ml ≤ i ∧ i < 12 * ml + L.length then nI (L.getD (i - 12 * ml) 0) else g 21 i := by unfold gDr; rw [vu_ne (by decide), vu_eq]
theorem gDr_22 {g : gT} {ml lq : Nat} {L : List Nat} : gDr g ml lq L 22 = upd (g 22) ml 1 := by unfold gDr; rw [vu_eq]
theorem gDr_21n {g : gT} {ml lq k : Nat} {L : List Nat} (h : k < L.length) : gDr g ml lq L 21 (12 * ml + k) = nI (L.getD k 0) := by rw [gDr_21, if_pos (by omega), show 12 * ml + k - 12 * ml = k by omega]
theorem gDr_21o {g : gT} {ml lq i : Nat} {L : List Nat} (h : i < 12 * ml) : gDr g ml lq L 21 i = g 21 i := by rw [gDr_21, if_neg (by omega)]
theorem gDr_md {g : gT} {ml lq k nd : Nat} {L : List Nat} (hG : GL nd L) (hnd : nd ≤ 12) (h : k < L.length) : mdv (gDr g ml lq L) ml k = L.getD k 0 := by
  unfold mdv
  rw [gDr_21n h, iN_nI (by have q := hG.1 _ (getD_mem h); omega)]
theorem AQ_of {g g2 : gT} {d : Nat} (h : ∀ j, 3 ≤ j → j ≤ 17 → j ≠ 11 → g2 j = g j) : AQ g g2 d := ⟨congrFun (h 4 (by omega) (by omega) (by omega)) d, congrFun (h 12 (by omega) (by omega) (by omega)) d, fun i _ => ⟨congrFun (h 13 (by omega) (by omega) (by omega)) _, congrFun (h 16 (by omega) (by omega) (by omega)) _, congrFun (h 17 (by omega) (by omega) (by omega)) _⟩⟩
theorem VQ_of {g g2 : gT} {np : Nat} (hk : LKP g np) (h : ∀ j, 3 ≤ j → j ≤ 17 → j ≠ 11 → g2 j = g j) (h19 : ∀ la, la < np → g2 19 la = g 19 la) (h20 : ∀ la, la < np → g2 20 la = g 20 la) (h21 : ∀ la, la < np → ∀ k, k < iN (g 20 la) → g2 21 (12 * la + k) = g 21 (12 * la + k)) : VQ g g2 np := fun la hl => by
  refine ⟨by unfold mcv; rw [h20 la hl], by unfold prv; rw [h19 la hl], fun k hk9 => ⟨?_, AQ_of h⟩⟩
  unfold mdv
  rw [h21 la hl k hk9]
theorem VQ_gDr {g : gT} {ml lq : Nat} {L : List Nat} (hk : LKP g ml) : VQ g (gDr g ml lq L) ml := VQ_of hk (fun j h1 h2 _ => gDr_o (by omega) (by omega) (by omega) (by omega)) (fun la hl => by rw [gDr_19, pk_un (by omega)]) (fun la hl => by rw [gDr_20, pk_un (by omega)]) (fun la hl k hk9 => gDr_21o (by have q := (hk.2 la hl).1; unfold mcv at q; omega))
theorem TLas_row {g g2 : gT} {ad : Nat → Nat → Nat} {E : Nat → Nat → va_E} {nd nL : Nat} (h : ∀ n, n < nL → g2 22 n = g 22 n ∧ g2 19 n = g 19 n ∧ g2 20 n = g 20 n ∧ ∀ k, k < iN (g 20 n) → g2 21 (12 * n + k) = g 21 (12 * n + k)) (hm : ∀ n, n < nL → eL (E (20 + n) 1) ≤ 12) (ht : TLas g ad E nd nL) : TLas g2 ad E nd nL := fun n hn => by
  obtain ⟨q1, q2, q3, q4⟩ := ht n hn
  obtain ⟨e1, e2, e3, e4⟩ := h n hn
  refine ⟨by rw [e1]; exact q1, by rw [e2]; exact q2, by rw [e3]; exact q3, fun k hk => ?_⟩
  rw [e4 k (by rw [q3, iN_nI (by have z := hm n hn; omega)]; exact hk)]
  exact q4 k hk
theorem LIs_12 {kA : Nat → ClassId} {ad : Nat → Nat → Nat} {E : Nat → Nat → va_E} {RL : List (Nat × Nat)} {nd nL : Nat} (hI : LIs kA ad E RL nd nL) : ∀ n, n < nL → eL (E (20 + n) 1) ≤ 12 := fun la hla => by
  obtain ⟨_, _, pv, op, mk, fm, hm, _, _, c1, _⟩ := hI la hla
  rw [c1]; exact hm
theorem AG_of {g g2 : gT} {d : Nat} (h : ∀ j, 3 ≤ j → j ≤ 17 → g2 j = g j) : AG g g2 d := ⟨congrFun (h 3 (by omega) (by omega)) d, congrFun (h 4 (by omega) (by omega)) d, congrFun (h 5 (by omega) (by omega)) d, congrFun (h 11 (by omega) (by omega)) d, congrFun (h 12 (by omega) (by omega)) d, fun i _ => ⟨congrFun (h 6 (by omega) (by omega)) _, congrFun (h 9 (by omega) (by omega)) _, congrFun (h 10 (by omega) (by omega)) _, fun j _ => ⟨congrFun (h 7 (by omega) (by omega)) _, congrFun (h 8 (by omega) (by omega)) _⟩⟩, fun i _ => ⟨congrFun (h 13 (by omega) (by omega)) _, congrFun (h 16 (by omega) (by omega)) _, congrFun (h 17 (by omega) (by omega)) _⟩, fun i _ => ⟨congrFun (h 14 (by omega) (by omega)) _, congrFun (h 15 (by omega) (by omega)) _⟩⟩
theorem TDs_AG {g g2 : gT} {kA : Nat → ClassId} {ad : Nat → Nat → Nat} {E : Nat → Nat → va_E} {RL : List (Nat × Nat)} {nd : Nat} (hD : DIs kA ad E RL nd) (hA : ∀ d, d < nd → AG g g2 d) (h : TDs g E nd) : TDs g2 E nd := fun d hd => TD_AG (hD d hd) (hA d hd) (h d hd)
theorem TDs_gDr {g : gT} {kA : Nat → ClassId} {ad : Nat → Nat → Nat} {E : Nat → Nat → va_E} {RL : List (Nat × Nat)} {nd ml lq : Nat} {L : List Nat} (hD : DIs kA ad E RL nd) (h : TDs g E nd) : TDs (gDr g ml lq L) E nd := TDs_AG hD (fun d _ => AG_of (fun j h1 h2 => gDr_o (by omega) (by omega) (by omega) (by omega))) h
theorem TLas_gDr {g : gT} {kA : Nat → ClassId} {ad : Nat → Nat → Nat} {E : Nat → Nat → va_E} {RL : List (Nat × Nat)} {nd ml lq : Nat} {L : List Nat} (hI : LIs kA ad E RL nd ml) (h : TLas g ad E nd ml) : TLas (gDr g ml lq L) ad E nd ml := TLas_row (fun n hn => ⟨by rw [gDr_22, pk_un (by omega)], by rw [gDr_19, pk_un (by omega)], by rw [gDr_20, pk_un (by omega)], fun k hk => gDr_21o (by
  obtain ⟨_, _, q3, _⟩ := h n hn
  have q := LIs_12 hI n hn
  rw [q3, iN_nI (by omega)] at hk; omega)⟩) (LIs_12 hI) h
theorem getD_inj : ∀ {L : List Nat}, L.Nodup → ∀ {a b : Nat}, a < L.length → b < L.length → L.getD a 0 = L.getD b 0 → a = b
  | [], _, a, _, ha, _, _ => absurd ha (Nat.not_lt_zero _)
  | x :: L, h, 0, 0, _, _, _ => rfl
  | x :: L, h, 0, b + 1, _, hb, e => by
    have e : x = L.getD b 0 := e
    exact absurd (by rw [e]; exact getD_mem (by simp only [List.length_cons] at hb; omega)) (List.nodup_cons.mp h).1
  | x :: L, h, a + 1, 0, ha, _, e => by
    have e : L.getD a 0 = x := e
    exact absurd (by rw [← e]; exact getD_mem (by simp only [List.length_cons] at ha; omega)) (List.nodup_cons.mp h).1
  | x :: L, h, a + 1, b + 1, ha, hb, e => by
    have e : L.getD a 0 = L.getD b 0 := e
    have q := getD_inj (List.nodup_cons.mp h).2 (a := a) (b := b) (by simp only [List.length_cons] at ha; omega) (by simp only [List.length_cons] at hb; omega) e
    omega
def DX (g : gT) (ad : Nat → Nat → Nat) (E : Nat → Nat → va_E) (L : List Nat) (ml j : Nat) : Prop := eV (E (20 + ml) (10 + 10 * j)) 1 = .ref (ad (1 + L.getD j 0) 0) ∧ eL (E (20 + ml) (11 + 10 * j)) = iN (g 12 (L.getD j 0)) ∧ eA (E (20 + ml) (15 + 10 * j)) = (fun _ => 0) ∧ eA (E (20 + ml) (16 + 10 * j)) = (fun _ => 0) ∧ eA (E (20 + ml) (17 + 10 * j)) = (fun _ => 0)
theorem DX_at {g : gT} {ad ad' : Nat → Nat → Nat} {E E' : Nat → Nat → va_E} {L : List Nat} {ml j : Nat} (hE : ∀ j9, j9 < 8 → E' (20 + ml) (10 + j9 + 10 * j) = E (20 + ml) (10 + j9 + 10 * j)) (ha : ad' (1 + L.getD j 0) 0 = ad (1 + L.getD j 0) 0) (h : DX g ad E L ml j) : DX g ad' E' L ml j := by
  obtain ⟨q1, q2, q3, q4, q5⟩ := h
  have e0 := hE 0 (by omega)
  have e1 := hE 1 (by omega)
  have e5 := hE 5 (by omega)
  have e6 := hE 6 (by omega)
  have e7 := hE 7 (by omega)
  exact ⟨by rw [ha]; rw [show E' (20 + ml) (10 + 10 * j) = E (20 + ml) (10 + 10 * j) from e0]; exact q1, by rw [show E' (20 + ml) (11 + 10 * j) = E (20 + ml) (11 + 10 * j) from e1]; exact q2, by rw [show E' (20 + ml) (15 + 10 * j) = E (20 + ml) (15 + 10 * j) from e5]; exact q3, by rw [show E' (20 + ml) (16 + 10 * j) = E (20 + ml) (16 + 10 * j) from e6]; exact q4, by rw [show E' (20 + ml) (17 + 10 * j) = E (20 + ml) (17 + 10 * j) from e7]; exact q5⟩
theorem lyv_same {ad ad' : Nat → Nat → Nat} {lq : Nat} (h : ∀ x, x < lq → ad' (20 + x) 0 = ad (20 + x) 0) : lyv ad' lq = lyv ad lq := by
  cases lq with
  | zero => rfl
  | succ y => show Value.ref (ad' (20 + y) 0) = .ref (ad (20 + y) 0); rw [h y (by omega)]
theorem TLas_gDn {g : gT} {kA : Nat → ClassId} {ad : Nat → Nat → Nat} {E : Nat → Nat → va_E} {RL : List (Nat × Nat)} {nd ml lq : Nat} {L : List Nat} {v0 v2 : Value} {fm : Nat → Option Nat} {c : ClassId} (hI : LIs kA ad E RL nd ml) (h : TLas g ad E nd ml) (hG : GL nd L) (hlq : lq ≤ ml) (c0 : E (20 + ml) 0 = .inr (5, [v0, lyv ad lq, v2, .int 1])) (c1 : E (20 + ml) 1 = .inl (c, L.length, .inr (.inr (.inr (.inr fm))))) (hX : ∀ j, j < L.length → DX g ad E L ml j) : TLas (gDr g ml lq L) ad E nd (ml + 1) := fun n hn => by
  by_cases q : n = ml
  · subst q
    unfold TLa
    rw [c0, c1]
    refine ⟨by rw [gDr_22, pk_us]; rfl, ⟨lq, hlq, by rw [gDr_19, pk_us], rfl⟩, by rw [gDr_20, pk_us]; rfl, fun k hk => ?_⟩
    have hk : k < L.length := hk
    exact ⟨L.getD k 0, hG.1 _ (getD_mem hk), gDr_21n hk, (hX k hk).1⟩
  · exact TLas_gDr hI h n (by omega)
theorem CN0_DX {g : gT} {ad : Nat → Nat → Nat} {E : Nat → Nat → va_E} {nd ml lq j : Nat} {L : List Nat} (hG : GL nd L) (hnd : nd ≤ 12) (hj : j < L.length) (h : DX g ad E L ml j) : CN0 (gDr g ml lq L) E ml j ∧ CN7 E ml j := by
  obtain ⟨_, q2, q3, q4, q5⟩ := h
  refine ⟨⟨?_, fun t _ => ⟨?_, ?_⟩⟩, fun t _ => ?_⟩
  · rw [gDr_md hG hnd hj, gDr_o (by decide) (by decide) (by decide) (by decide)]; exact q2
  · rw [q3]; exact BS_0
  · rw [q4]; exact BS_0
  · rw [q5]; exact BS_0
