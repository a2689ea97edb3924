def LKd (g : gT) (ml nd : Nat) : Prop := ∀ la, la < ml → ∀ k, k < mcv g la → mdv g la k < nd ∧ ¬ g 11 (mdv g la k) = 0
def XT (g : gT) (ad : Nat → Nat → Nat) (E : Nat → Nat → va_E) (nd ml len : Nat) : Prop := (∀ i, i < len → eA (E 0 2) i = g 0 i) ∧ TDs g E nd ∧ TLas g ad E nd ml ∧ CBs g E ml ∧ (∀ n, n < ml → RBs g E n) ∧ ZI g nd ∧ NZ g nd ∧ (∀ d, d < nd → UQ1 g d) ∧ NDq g ml ∧ LKd g ml nd
def XQ (g g2 : gT) (np : Nat) : Prop := (∀ j, 3 ≤ j → j ≤ 17 → g2 j = g j) ∧ ∀ la, la < np → g2 22 la = g 22 la ∧ g2 19 la = g 19 la ∧ g2 20 la = g 20 la ∧ ∀ k, k < iN (g 20 la) → g2 21 (12 * la + k) = g 21 (12 * la + k)
theorem XQ_VQ {g g2 : gT} {np : Nat} (hk : LKP g np) (h : XQ g g2 np) : VQ g g2 np := VQ_of hk (fun j h1 h2 _ => h.1 j h1 h2) (fun la hl => (h.2 la hl).2.1) (fun la hl => (h.2 la hl).2.2.1) (fun la hl => (h.2 la hl).2.2.2)
theorem ZI_c {g g2 : gT} {nd : Nat} (h : ∀ j, 5 ≤ j → j ≤ 15 → j ≠ 13 → g2 j = g j) (hz : ZI g nd) : ZI g2 nd := by
  unfold ZI
  rw [h 5 (by omega) (by omega) (by omega), h 7 (by omega) (by omega) (by omega), h 8 (by omega) (by omega) (by omega), h 9 (by omega) (by omega) (by omega), h 10 (by omega) (by omega) (by omega), h 11 (by omega) (by omega) (by omega), h 12 (by omega) (by omega) (by omega), h 14 (by omega) (by omega) (by omega), h 15 (by omega) (by omega) (by omega)]
  exact hz
theorem NDq_V {g g2 : gT} {np : Nat} (hv : VQ g g2 np) (h : NDq g np) : NDq g2 np := fun la hl a b ha hb e => by
  obtain ⟨e1, _, e3⟩ := hv la hl
  rw [e1] at ha hb
  rw [(e3 a ha).1, (e3 b hb).1] at e
  exact h la hl a b ha hb e
theorem LKd_V {g g2 : gT} {np nd nd2 : Nat} (hn : nd ≤ nd2) (hv : VQ g g2 np) (h11 : ∀ d, ¬ g 11 d = 0 → ¬ g2 11 d = 0) (h : LKd g np nd) : LKd g2 np nd2 := fun la hl k hk => by
  obtain ⟨e1, _, e3⟩ := hv la hl
  rw [e1] at hk
  rw [(e3 k hk).1]
  obtain ⟨q1, q2⟩ := h la hl k hk
  exact ⟨by omega, h11 _ q2⟩
theorem XT_XQ {g g2 : gT} {kA : Nat → ClassId} {ad : Nat → Nat → Nat} {E : Nat → Nat → va_E} {RL : List (Nat × Nat)} {nd ml len : Nat} (hnd : nd ≤ 12) (hml : ml ≤ 6) (hD : DIs kA ad E RL nd) (hI : LIs kA ad E RL nd ml) (hq : XQ g g2 ml) (ht : ∀ i, i < len → eA (E 0 2) i = g2 0 i) (h : XT g ad E nd ml len) : XT g2 ad E nd ml len := by
  obtain ⟨h1, h2, h3, h4, h5, h6, h7, h8, h9, h10⟩ := h
  have hk : LKP g ml := LKP_L hml hnd hI h3
  have hv := XQ_VQ hk hq
  refine ⟨ht, TDs_AG hD (fun d _ => AG_of (fun j a b => hq.1 j a b)) h2, TLas_row hq.2 (LIs_12 hI) h3, CBs_VQ hk hv h4, fun n hn => RBs_VQ hk hv hn (h5 n hn), ZI_c (fun j a b _ => hq.1 j (by omega) (by omega)) h6, fun d hd => by rw [hq.1 4 (by omega) (by omega)]; exact h7 d hd, fun d hd => UQ1_c (hq.1 5 (by omega) (by omega)) (hq.1 6 (by omega) (by omega)) (h8 d hd), NDq_V hv h9, LKd_V (Nat.le_refl _) hv (fun d q => by rw [hq.1 11 (by omega) (by omega)]; exact q) h10⟩
theorem XT_E {g : gT} {ad ad' : Nat → Nat → Nat} {E E' : Nat → Nat → va_E} {nd ml len len2 : Nat} (hF : FRX ml nd ad ad' E E') (ht : ∀ i, i < len2 → eA (E' 0 2) i = g 0 i) (h : XT g ad E nd ml len) : XT g ad' E' nd ml len2 := by
  obtain ⟨h1, h2, h3, h4, h5, h6, h7, h8, h9, h10⟩ := h
  exact ⟨ht, TDs_same hF.2.2.1 h2, TLas_same (Nat.le_refl _) hF.1 hF.2.2.2 hF.2.1 h3, CBs_same (fun la o hl => by rw [hF.1 la hl]) h4, fun n hn k hk t ht => by rw [hF.1 n hn]; exact h5 n hn k hk t ht, h6, h7, h8, h9, h10⟩
theorem XT_line {g : gT} {kA : Nat → ClassId} {ad ad' : Nat → Nat → Nat} {E E' : Nat → Nat → va_E} {RL : List (Nat × Nat)} {nd ml len : Nat} {t : Nat → Int32} {wl : List (Nat × Nat)} (hnd : nd ≤ 12) (hml : ml ≤ 6) (h5 : ∀ d, d < 12 → ∃ k, k ≤ 6 ∧ g 5 d = nI k) (h12 : ∀ d, d < 12 → ∃ k, k ≤ 5 ∧ g 12 d = nI k) (hI : LIs kA ad E RL nd ml) (hF : FRL ml nd ad ad' E E') (hT : TDs (lnF t wl nd g).2 E' (lnF t wl nd g).1) (h : XT g ad E nd ml len) : XT (lnF t wl nd g).2 ad' E' (lnF t wl nd g).1 ml 0 := by
  obtain ⟨h1, h2, h3, h4, h5b, h6, h7, h8, h9, h10⟩ := h
  have hk : LKP g ml := LKP_L hml hnd hI h3
  have e18 := lnF_row (nd := nd) (t := t) (wl := wl) (g := g)
  have h56 : iN (g 5 (nd - 1)) ≤ 6 := by
    obtain ⟨k, q1, q2⟩ := h5 (nd - 1) (by omega)
    rw [q2, iN_nI (by omega)]; exact q1
  have hv : VQ g (lnF t wl nd g).2 ml := fun la hl => by
    refine ⟨by unfold mcv; rw [e18 20 (by omega)], by unfold prv; rw [e18 19 (by omega)], fun k hk9 => ⟨by unfold mdv; rw [e18 21 (by omega)], ?_⟩⟩
    obtain ⟨q1, q2⟩ := h10 la hl k hk9
    obtain ⟨_, a4, _, _, a12, _, a13, _⟩ := lnF_AG (t := t) (wl := wl) h56 _ q1 q2
    obtain ⟨kd, q3, q4⟩ := h12 (mdv g la k) (by omega)
    refine ⟨a4, a12, fun i hi => a13 i ?_⟩
    rw [q4, iN_nI (by omega)] at hi; omega
  have hTL : TLas (lnF t wl nd g).2 ad E nd ml := TLas_row (fun n hn => ⟨by rw [e18 22 (by omega)], by rw [e18 19 (by omega)], by rw [e18 20 (by omega)], fun k hk => by rw [e18 21 (by omega)]⟩) (LIs_12 hI) h3
  refine ⟨fun i hi => absurd hi (Nat.not_lt_zero _), hT, TLas_same lnF_nd (fun n hn => (hF.1 n hn).1) hF.2.1 (fun n hn => by rw [(hF.1 n hn).2]) hTL, CBs_same (fun la o hl => by rw [(hF.1 la hl).1]) (CBs_VQ hk hv h4), fun n hn k hk t ht => by rw [(hF.1 n hn).1]; exact RBs_VQ (by assumption) hv hn (h5b n hn) k hk t ht, lnF_ZI h5 hnd h6, lnF_NZ h7, lnF_UQ hnd h5 h6 h8, NDq_V hv h9, LKd_V lnF_nd hv (fun d q => by rw [e18 11 (by omega)]; exact q) h10⟩
theorem gKl_o {g : gT} {L : List Nat} {j : Nat} (h : j ≠ 11) : gKl g L j = g j := by unfold gKl; rw [vu_ne h]
theorem XT_keep {g : gT} {kA : Nat → ClassId} {ad ad' : Nat → Nat → Nat} {E E' : Nat → Nat → va_E} {RL RL' : List (Nat × Nat)} {nd ml len lq : Nat} {L : List Nat} (hnd : nd ≤ 12) (hml : ml < 5) (hG : GL nd L) (hI : LIs kA ad E RL nd ml) (hI2 : LIs kA ad' E' RL' nd (ml + 1)) (hT : TDs (gKl (gDr g ml lq L) L) E' nd) (hTL : TLas (gDr g ml lq L) ad' E' nd (ml + 1)) (hC : CBs (gDr g ml lq L) E' (ml + 1)) (hR : RBs (gDr g ml lq L) E' ml) (hF : ∀ n, n < ml → E' (20 + n) = E (20 + n)) (h : XT g ad E nd ml len) : XT (gKl (gDr g ml lq L) L) ad' E' nd (ml + 1) 0 := by
  obtain ⟨h1, h2, h3, h4, h5, h6, h7, h8, h9, h10⟩ := h
  have hk : LKP g ml := LKP_L (by omega) hnd hI h3
  have hk2 : LKP (gDr g ml lq L) (ml + 1) := LKP_L (by omega) hnd hI2 hTL
  have hl12 : L.length ≤ 12 := by have q := GL_len hG; omega
  have hv1 : VQ g (gDr g ml lq L) ml := VQ_gDr hk
  have hv : VQ (gDr g ml lq L) (gKl (gDr g ml lq L) L) (ml + 1) := VQ_of hk2 (fun j _ _ h11 => gKl_o h11) (fun la _ => by rw [gKl_o (by decide)]) (fun la _ => by rw [gKl_o (by decide)]) (fun la _ k _ => by rw [gKl_o (by decide)])
  have e11 : ∀ d, gKl (gDr g ml lq L) L 11 d = cif (d ∈ L) 1 (g 11 d) := fun d => by unfold gKl; rw [vu_eq, gDr_o (by decide) (by decide) (by decide) (by decide)]
  have en : ∀ d, ¬ g 11 d = 0 → ¬ gKl (gDr g ml lq L) L 11 d = 0 := fun d hd => by
    rw [e11]
    by_cases q : d ∈ L
    · rw [cif_pos q]; decide
    · rw [cif_neg q]; exact hd
  refine ⟨fun i hi => absurd hi (Nat.not_lt_zero _), hT, TLas_row (fun n hn => ⟨by rw [gKl_o (by decide)], by rw [gKl_o (by decide)], by rw [gKl_o (by decide)], fun k hk => by rw [gKl_o (by decide)]⟩) (LIs_12 hI2) hTL, CBs_VQ hk2 hv hC, fun n hn => ?_, ?_, ?_, ?_, NDq_V hv (ND_gDr hk hG hnd hl12 h9), ?_⟩
  · refine RBs_VQ hk2 hv hn ?_
    by_cases q : n = ml
    · rw [q]; exact hR
    · intro k hk9 t ht
      rw [hF n (by omega)]
      exact RBs_VQ hk hv1 (by omega) (h5 n (by omega)) k hk9 t ht
  · have z : ZI (gDr g ml lq L) nd := ZI_c (fun j _ _ _ => gDr_o (by omega) (by omega) (by omega) (by omega)) h6
    intro d hd
    refine ⟨fun hn => ?_, (z d hd).2⟩
    obtain ⟨z1, z2, z3, z4⟩ := (z d hd).1 hn
    refine ⟨z1, z2, ?_, z4⟩
    rw [e11, cif_neg (fun q => by have := hG.1 d q; omega)]
    exact ((h6 d hd).1 hn).2.2.1
  · intro d hd
    rw [gKl_o (by decide), gDr_o (by decide) (by decide) (by decide) (by decide)]; exact h7 d hd
  · intro d hd
    exact UQ1_c ((gKl_o (by decide)).trans (gDr_o (by decide) (by decide) (by decide) (by decide))) ((gKl_o (by decide)).trans (gDr_o (by decide) (by decide) (by decide) (by decide))) (h8 d hd)
  · intro la hla k hk9
    obtain ⟨v1, _, v3⟩ := hv la hla
    rw [v1] at hk9
    rw [(v3 k hk9).1]
    by_cases q : la = ml
    · subst q
      rw [gDr_mc hl12] at hk9
      rw [gDr_md hG hnd hk9]
      have hm := getD_mem hk9
      exact ⟨hG.1 _ hm, by rw [e11, cif_pos hm]; decide⟩
    · obtain ⟨w1, _, w3⟩ := hv1 la (by omega)
      rw [w1] at hk9
      rw [(w3 k hk9).1]
      obtain ⟨q1, q2⟩ := h10 la (by omega) k hk9
      exact ⟨q1, en _ q2⟩
theorem XT_close {g g2 : gT} {kA : Nat → ClassId} {ad : Nat → Nat → Nat} {E E' : Nat → Nat → va_E} {RL : List (Nat × Nat)} {nd ml len : Nat} (hnd : nd ≤ 12) (hml : ml ≤ 6) (hD : DIs kA ad E' RL nd) (hI : LIs kA ad E RL nd ml) (hg : ∀ j, j ≠ 22 → g2 j = g j) (hF : ∀ b2 o2, (¬ o2 = 0 ∨ b2 < 20) → E' b2 o2 = E b2 o2) (hT : TLas g2 ad E' nd ml) (h : XT g ad E nd ml len) : XT g2 ad E' nd ml len := by
  obtain ⟨h1, h2, h3, h4, h5, h6, h7, h8, h9, h10⟩ := h
  have hk : LKP g ml := LKP_L hml hnd hI h3
  have hv : VQ g g2 ml := VQ_of hk (fun j _ _ _ => hg j (by omega)) (fun la _ => by rw [hg 19 (by omega)]) (fun la _ => by rw [hg 20 (by omega)]) (fun la _ k _ => by rw [hg 21 (by omega)])
  refine ⟨fun i hi => by rw [hF 0 2 (by omega), hg 0 (by omega)]; exact h1 i hi, TDs_AG hD (fun d _ => AG_of (fun j _ _ => hg j (by omega))) (TDs_same (fun d hd => fun2 fun o => hF (1 + d) o (by omega)) h2), hT, fun la hl k hk9 t ht => by rw [hF (20 + la) (16 + 10 * k) (by omega)]; exact CBs_VQ hk hv h4 la hl k hk9 t ht, fun n hn k hk9 t ht => by rw [hF (20 + n) (17 + 10 * k) (by omega)]; exact RBs_VQ hk hv hn (h5 n hn) k hk9 t ht, ZI_c (fun j _ _ _ => hg j (by omega)) h6, fun d hd => by rw [hg 4 (by omega)]; exact h7 d hd, fun d hd => UQ1_c (hg 5 (by omega)) (hg 6 (by omega)) (h8 d hd), NDq_V hv h9, LKd_V (Nat.le_refl _) hv (fun d q => by rw [hg 11 (by omega)]; exact q) h10⟩
theorem clF_o {g : gT} {nl j : Nat} {ly : Int32} (h : j ≠ 22) : clF nl g ly j = g j := by
  unfold clF
  by_cases q : opP g nl ly ∧ ∀ j, j < nl → ¬ g 22 j = 0 → ¬ g 19 j = ly
  · rw [cif_pos q, vu_ne h]
  · rw [cif_neg q]
theorem LKP_gDr {g : gT} {nd ml lq : Nat} {L : List Nat} (hnd : nd ≤ 12) (hlq : lq ≤ ml) (hm : ml ≤ 5) (hG : GL nd L) (hk : LKP g ml) : LKP (gDr g ml lq L) (ml + 1) := by
  have hl12 : L.length ≤ 12 := by have q := GL_len hG; omega
  have hv1 : VQ g (gDr g ml lq L) ml := VQ_gDr hk
  refine ⟨fun x hx => ?_, fun la hla => ?_⟩
  · by_cases q : x = ml
    · subst q
      unfold prv
      rw [gDr_19, pk_us, nI_prs, iN_nI (by omega)]; exact hlq
    · rw [(hv1 x (by omega)).2.1]; exact hk.1 x (by omega)
  · by_cases q : la = ml
    · subst q
      rw [gDr_mc hl12]
      refine ⟨hl12, fun k hk9 => ?_⟩
      rw [gDr_md hG hnd hk9]
      have z := hG.1 _ (getD_mem hk9)
      omega
    · obtain ⟨w1, _, w3⟩ := hv1 la (by omega)
      rw [w1]
      refine ⟨(hk.2 la (by omega)).1, fun k hk9 => ?_⟩
      rw [(w3 k hk9).1]
      exact (hk.2 la (by omega)).2 k hk9
theorem spQ_g {g g2 : gT} {Q : Nat → Prop} {d : Nat} (h : ∀ j, 3 ≤ j → j ≤ 17 → g2 j = g j) : spQ g2 Q d ↔ spQ g Q d := by
  unfold spQ spB elK exP pI
  rw [h 4 (by omega) (by omega), h 5 (by omega) (by omega), h 6 (by omega) (by omega), h 7 (by omega) (by omega), h 9 (by omega) (by omega)]
theorem rsW_V {g g2 : gT} {nl md : Nat} (hk : LKP g (nl + 1)) (hm : mcv g nl = md) (h21 : ∀ k, k < md → g 21 (12 * nl + k) = nI (mdv g nl k)) (hj : ∀ j, 3 ≤ j → j ≤ 17 → g2 j = g j) (hv : VQ g g2 (nl + 1)) (h21b : ∀ k, k < md → g2 21 (12 * nl + k) = g 21 (12 * nl + k)) : rsW g2 nl md = rsW g nl md := by
  have hMB : ∀ b, MB g2 nl md b ↔ MB g nl md b := fun b => by
    constructor
    · intro ⟨h1, j, h2, h3, h4⟩
      refine ⟨h1, j, h2, h3, ?_⟩
      have z := h21b (j - 12 * nl) (by omega)
      rw [show 12 * nl + (j - 12 * nl) = j by omega] at z
      rw [← z]; exact h4
    · intro ⟨h1, j, h2, h3, h4⟩
      refine ⟨h1, j, h2, h3, ?_⟩
      have z := h21b (j - 12 * nl) (by omega)
      rw [show 12 * nl + (j - 12 * nl) = j by omega] at z
      rw [z]; exact h4
  have hMk : ∀ b, MB g nl md b → ∃ k, k < mcv g nl ∧ mdv g nl k = b := fun b ⟨h1, j, h2, h3, h4⟩ => by
    refine ⟨j - 12 * nl, by omega, ?_⟩
    unfold mdv
    rw [show 12 * nl + (j - 12 * nl) = j by omega, h4, iN_nI (by omega)]
  have hC : CYC g2 nl md ↔ CYC g nl md := by
    constructor
    · intro ⟨b, h1, h2⟩
      have h1 := (hMB b).mp h1
      obtain ⟨k, q1, q2⟩ := hMk b h1
      subst q2
      exact ⟨_, h1, (tcs_VQ hk hv (by omega) q1).mp h2⟩
    · intro ⟨b, h1, h2⟩
      obtain ⟨k, q1, q2⟩ := hMk b h1
      subst q2
      exact ⟨_, (hMB _).mpr h1, (tcs_VQ hk hv (by omega) q1).mpr h2⟩
  have hS : SPL g2 nl md ↔ SPL g nl md := by
    constructor
    · intro ⟨b, h1, h2⟩
      have h1 := (hMB b).mp h1
      obtain ⟨k, q1, q2⟩ := hMk b h1
      subst q2
      exact ⟨_, h1, (spQ_iff (fun m _ => rdQ_VQ hk hv (by omega) q1)).mp ((spQ_g hj).mp h2)⟩
    · intro ⟨b, h1, h2⟩
      obtain ⟨k, q1, q2⟩ := hMk b h1
      subst q2
      exact ⟨_, (hMB _).mpr h1, (spQ_g hj).mpr ((spQ_iff (fun m _ => rdQ_VQ hk hv (by omega) q1)).mpr h2)⟩
  unfold rsW
  rw [propext hC, propext hS]
theorem DT_XQ {g gD : gT} {ml lq : Nat} {L : List Nat} (hk : LKP g ml) (hl : L.length ≤ 12) (h : DT g ml lq L gD) : (∀ j, 3 ≤ j → j ≤ 17 → gD j = gDr g ml lq L j) ∧ (∀ la, la < ml + 1 → gD 19 la = gDr g ml lq L 19 la) ∧ (∀ la, la < ml + 1 → gD 20 la = gDr g ml lq L 20 la) ∧ ∀ la, la < ml + 1 → ∀ k, k < iN (gDr g ml lq L 20 la) → gD 21 (12 * la + k) = gDr g ml lq L 21 (12 * la + k) := by
  obtain ⟨⟨h1, h2, h3⟩, h4, h5, h6⟩ := h
  refine ⟨fun j a b => by rw [gDr_o (by omega) (by omega) (by omega) (by omega)]; exact h1 j (by omega) (by omega) (by omega) (by omega) (by omega) (by omega) (by omega) (by omega), fun la hla => ?_, fun la hla => ?_, fun la hla k hk9 => ?_⟩
  · by_cases q : la = ml
    · rw [q, gDr_19, pk_us]; exact h4
    · rw [gDr_19, pk_un q]; exact h2 la (by omega)
  · by_cases q : la = ml
    · rw [q, gDr_20, pk_us]; exact h5
    · rw [gDr_20, pk_un q]; exact (h3 la (by omega)).1
  · by_cases q : la = ml
    · rw [q] at hk9 ⊢
      rw [gDr_20, pk_us, iN_nI (by omega)] at hk9
      rw [gDr_21n hk9]; exact h6 k hk9
    · rw [gDr_20, pk_un q] at hk9
      have z := (hk.2 la (by omega)).1
      unfold mcv at z
      rw [gDr_21o (by omega)]; exact (h3 la (by omega)).2 k (by omega)
theorem rsW_DT {g gD : gT} {nd ml lq : Nat} {L : List Nat} (hnd : nd ≤ 12) (hlq : lq ≤ ml) (hm : ml ≤ 5) (hG : GL nd L) (hk : LKP g ml) (h : DT g ml lq L gD) : rsW gD ml L.length = rsW (gDr g ml lq L) ml L.length := by
  have hl12 : L.length ≤ 12 := by have q := GL_len hG; omega
  obtain ⟨e1, e2, e3, e4⟩ := DT_XQ hk hl12 h
  have hk2 := LKP_gDr hnd hlq hm hG hk
  exact rsW_V hk2 (gDr_mc hl12) (fun k hk9 => by rw [gDr_md hG hnd hk9]; exact gDr_21n hk9) e1 (VQ_of hk2 (fun j a b _ => e1 j a b) e2 e3 e4) (fun k hk9 => e4 ml (by omega) k (by rw [gDr_20, pk_us, iN_nI (by omega)]; exact hk9))
theorem SQ_XQ {g g2 : gT} {ml : Nat} (hk : LKP g ml) (h : SQ g g2 ml) : XQ g g2 ml := by
  obtain ⟨h1, h2, h3⟩ := h
  refine ⟨fun j a b => h1 j (by omega) (by omega) (by omega) (by omega) (by omega) (by omega) (by omega) (by omega), fun la hla => ⟨by rw [h1 22 (by omega) (by omega) (by omega) (by omega) (by omega) (by omega) (by omega) (by omega)], h2 la hla, (h3 la hla).1, fun k hk9 => (h3 la hla).2 k ?_⟩⟩
  have z := (hk.2 la hla).1
  unfold mcv at z
  omega
theorem NW_XQ {g g2 : gT} {ml lq : Nat} {L : List Nat} (hk : LKP g ml) (hl : L.length ≤ 12) (h : NW g ml lq L g2) : XQ (gKl (gDr g ml lq L) L) g2 (ml + 1) := by
  obtain ⟨h1, h2, h3, h4, ⟨h5, h5b⟩, h6, h7⟩ := h
  refine ⟨fun j a b => ?_, fun la hla => ⟨?_, ?_, ?_, fun k hk9 => ?_⟩⟩
  · by_cases q : j = 11
    · subst q
      funext d
      unfold gKl
      rw [vu_eq, gDr_o (by decide) (by decide) (by decide) (by decide)]
      exact h6 d
    · rw [gKl_o q, gDr_o (by omega) (by omega) (by omega) (by omega)]
      exact h1 j (by omega) (by omega) (by omega) (by omega) (by omega) (by omega) (by omega) (by omega) (by omega) (by omega)
  · rw [gKl_o (by decide), gDr_22, h7]
  · rw [gKl_o (by decide), gDr_19]
    by_cases q : la = ml
    · rw [q, pk_us]; exact h4
    · rw [pk_un q]; exact h2 la (by omega)
  · rw [gKl_o (by decide), gDr_20]
    by_cases q : la = ml
    · rw [q, pk_us]; exact h5
    · rw [pk_un q]; exact (h3 la (by omega)).1
  · rw [gKl_o (by decide), gDr_20] at hk9
    rw [gKl_o (by decide)]
    by_cases q : la = ml
    · rw [q] at hk9 ⊢
      rw [pk_us, iN_nI (by omega)] at hk9
      rw [gDr_21n hk9]; exact h5b k hk9
    · rw [pk_un q] at hk9
      have z := (hk.2 la (by omega)).1
      unfold mcv at z
      rw [gDr_21o (by omega)]; exact (h3 la (by omega)).2 k (by omega)
theorem ok1_lq {g : gT} {t : Nat → Int32} {wl : List (Nat × Nat)} {ml : Nat} {fi pa : Int32} (hm : ml ≤ 6) (h : ok1 g t wl ml fi pa) : iN (pa + 1) ≤ ml := by
  rcases h.2.2.2.2 with q | ⟨la, q1, q2, _⟩
  · rw [q, lq_m1]; exact Nat.zero_le _
  · rw [q2, lq_la (by omega)]; exact q1
