def STQ (kA : Nat → ClassId) (ml nd : Nat) (ad : Nat → Nat → Nat) (E : Nat → Nat → va_E) (ad' : Nat → Nat → Nat) (E' : Nat → Nat → va_E) (RL' : List (Nat × Nat)) : Prop := (∃ wn2 cs2, CI kA ad' E' RL' ml nd 0 wn2 cs2) ∧ ad' 0 0 = ad 0 0 ∧ FRX ml nd ad ad' E E'
def YP (kA : Nat → ClassId) (g : gT) (ad : Nat → Nat → Nat) (E : Nat → Nat → va_E) (ml nd len : Nat) (fi px bi k : Int32) (ad' : Nat → Nat → Nat) (E' : Nat → Nat → va_E) (RL' : List (Nat × Nat)) (o : Int64) : Prop :=
  (k = 1 ∧ ¬ ok1 g (g 0) (w_all (g 0) len) ml fi px ∧ STQ kA ml nd ad E ad' E' RL' ∧ eI (E' 0 0) 5 = 0) ∨
  (k = 2 ∧ yN g (w_all (g 0) len) nd ml fi px ∧ STQ kA ml nd ad E ad' E' RL' ∧ eI (E' 0 0) 5 = 0) ∨
  (k = 3 ∧ STQ kA ml nd ad E ad' E' RL' ∧ ∃ L9, yL g (w_all (g 0) len) nd ml fi px bi L9 ∧ ¬ yW g ml px L9 = 0 ∧ eI (E' 0 0) 5 = nI (yW g ml px L9)) ∨
  (k = 0 ∧ o = (nI ml).toInt64 ∧ ml < 5 ∧ ad' 0 0 = ad 0 0 ∧ eI (E' 0 0) 5 = 0 ∧ ∃ L9 wn2 cs2, yL g (w_all (g 0) len) nd ml fi px bi L9 ∧ yW g ml px L9 = 0 ∧ CI kA ad' E' RL' (ml + 1) nd 0 wn2 cs2 ∧ TDs (gKl (gDr g ml (iN (px + 1)) L9) L9) E' nd ∧ TLas (gDr g ml (iN (px + 1)) L9) ad' E' nd (ml + 1) ∧ CBs (gDr g ml (iN (px + 1)) L9) E' (ml + 1) ∧ RBs (gDr g ml (iN (px + 1)) L9) E' ml ∧ ∀ n9, n9 < ml → E' (20 + n9) = E (20 + n9))
def YX (g : gT) (E' : Nat → Nat → va_E) (ml nd len : Nat) (fi px bi : Int32) : Prop := (¬ ok1 g (g 0) (w_all (g 0) len) ml fi px ∧ eI (E' 0 0) 5 = 0) ∨ (yN g (w_all (g 0) len) nd ml fi px ∧ eI (E' 0 0) 5 = 0) ∨ ∃ L9, yL g (w_all (g 0) len) nd ml fi px bi L9 ∧ ¬ yW g ml px L9 = 0 ∧ eI (E' 0 0) 5 = nI (yW g ml px L9)
theorem YP_1 {kA : Nat → ClassId} {g : gT} {ad ad' : Nat → Nat → Nat} {E E' : Nat → Nat → va_E} {RL' : List (Nat × Nat)} {ml nd len : Nat} {fi px bi : Int32} {o : Int64} (h : STQ kA ml nd ad E ad' E' RL' ∧ YX g E' ml nd len fi px bi) (hz : ¬ ok1 g (g 0) (w_all (g 0) len) ml fi px) : YP kA g ad E ml nd len fi px bi 1 ad' E' RL' o := by
  rcases h.2 with q | q | ⟨L, q, _⟩
  · exact Or.inl ⟨rfl, hz, h.1, q.2⟩
  · exact absurd q.1.1 hz
  · exact absurd q.1 hz
theorem aF_tf {A B : List Nat} {x : Bool × List Nat} (h1 : x = (true, A)) (h2 : x = (false, B)) : False := by
  rw [h1] at h2
  have q := congrArg Prod.fst h2
  simp only at q
  exact Bool.noConfusion q
theorem YP_2 {kA : Nat → ClassId} {g : gT} {ad ad' : Nat → Nat → Nat} {E E' : Nat → Nat → va_E} {RL' : List (Nat × Nat)} {ml nd len : Nat} {fi px bi : Int32} {o : Int64} (h : STQ kA ml nd ad E ad' E' RL' ∧ YX g E' ml nd len fi px bi) (hz : yN g (w_all (g 0) len) nd ml fi px) : YP kA g ad E ml nd len fi px bi 2 ad' E' RL' o := by
  rcases h.2 with q | q | ⟨L, q, _⟩
  · exact absurd hz.1 q.1
  · exact Or.inr (Or.inl ⟨rfl, hz, h.1, q.2⟩)
  · obtain ⟨_, Lx, z⟩ := hz
    obtain ⟨_, L1, z2, _⟩ := q
    exact (aF_tf z2 z).elim
theorem YP_3 {kA : Nat → ClassId} {g : gT} {ad ad' : Nat → Nat → Nat} {E E' : Nat → Nat → va_E} {RL' : List (Nat × Nat)} {ml nd len : Nat} {fi px bi : Int32} {o : Int64} (h : STQ kA ml nd ad E ad' E' RL' ∧ YX g E' ml nd len fi px bi) (hz : ∃ L9, yL g (w_all (g 0) len) nd ml fi px bi L9 ∧ ¬ yW g ml px L9 = 0) : YP kA g ad E ml nd len fi px bi 3 ad' E' RL' o := by
  obtain ⟨L9, z1, z3⟩ := hz
  rcases h.2 with q | q | q
  · exact absurd z1.1 q.1
  · obtain ⟨_, Lx, z⟩ := q.1
    obtain ⟨_, L1, z2, _⟩ := z1
    exact (aF_tf z2 z).elim
  · exact Or.inr (Or.inr (Or.inl ⟨rfl, h.1, q⟩))
theorem CI_b {kA : Nat → ClassId} {ad : Nat → Nat → Nat} {E : Nat → Nat → va_E} {RL : List (Nat × Nat)} {ml nd len wn cs : Nat} (h : CI kA ad E RL ml nd len wn cs) : len ≤ 40 ∧ nd ≤ 12 ∧ ml ≤ 5 ∧ DIs kA ad E RL nd ∧ LIs kA ad E RL nd ml := by
  obtain ⟨_, _, ⟨_, _, _, h1, _⟩, ⟨_, h2, _⟩, _, ⟨_, h3, _⟩, h4, h5⟩ := h
  exact ⟨h1, h2, h3, h4, h5⟩
theorem yL_eq {g : gT} {wl : List (Nat × Nat)} {nd ml : Nat} {fi pa bi : Int32} {L L1 L2 : List Nat} (h : yL g wl nd ml fi pa bi L) (h1 : aF (adG g nd fi (iN (pa + 1))) [] (nmL (g 0) wl wl.length 0) = (true, L1)) (h2 : L2 = cif (¬ bi = 0) (bIt (bUg g nd fi (iN (pa + 1))) g (iN (pa + 1)) 13 L1) L1) : L2 = L := by
  obtain ⟨_, L3, h3, h4, _⟩ := h
  rw [h1] at h3
  have q := congrArg Prod.snd h3
  simp only at q
  rw [h2, h4, q]
theorem ly_join {kA : Nat → ClassId} {g u2 : gT} {ad ad' : Nat → Nat → Nat} {E E' : Nat → Nat → va_E} {RL RL' : List (Nat × Nat)} {ml nd len wn cs code why : Nat} {fi px bi k r u5 : Int32} {o : Int64} (hCI : CI kA ad E RL ml nd len wn cs) (hX : XT g ad E nd ml len) (hY : YP kA g ad E ml nd len fi px bi k ad' E' RL' o) (hR : lyR g (g 0) (w_all (g 0) len) nd ml fi px bi code why r u5 u2) : k = nI code ∧ (k = 0 → o = r.toInt64) ∧ ad' 0 0 = ad 0 0 ∧ ∃ ml2 wn2 cs2, CI kA ad' E' RL' ml2 nd 0 wn2 cs2 ∧ u5 = nI ml2 ∧ nI why = eI (E' 0 0) 5 ∧ XT u2 ad' E' nd ml2 0 := by
  obtain ⟨_, hnd, hml, hD, hI⟩ := CI_b hCI
  have hk : LKP g ml := LKP_L (by omega) hnd hI hX.2.2.1
  have hthr : STQ kA ml nd ad E ad' E' RL' → SQ g u2 ml → ad' 0 0 = ad 0 0 ∧ ∃ wn2 cs2, CI kA ad' E' RL' ml nd 0 wn2 cs2 ∧ XT u2 ad' E' nd ml 0 := fun ⟨⟨wn2, cs2, q1⟩, q2, q3⟩ hs => by
    obtain ⟨_, _, _, hD2, hI2⟩ := CI_b q1
    exact ⟨q2, wn2, cs2, q1, XT_XQ hnd (by omega) hD2 hI2 (SQ_XQ hk hs) (fun i hi => absurd hi (Nat.not_lt_zero _)) (XT_E q3 (fun i hi => absurd hi (Nat.not_lt_zero _)) hX)⟩
  have hne : ∀ c : Nat, c ≤ 3 → nI c = 0 → c = 0 := fun c hc e => nI_inj (a := c) (b := 0) (by omega) (by omega) e
  rcases hR with ⟨hn, rfl, rfl, hu5, hs⟩ | ⟨hok, ⟨Lx, hLx⟩, rfl, rfl, hu5, hs⟩ | ⟨hok, L1, L, gD, hL1, hL, hG, hDT, hwhy, hr⟩
  · rcases hY with ⟨rfl, _, hst, h5⟩ | ⟨_, hy, _⟩ | ⟨_, _, L9, hy, _⟩ | ⟨_, _, _, _, _, L9, _, _, hy, _⟩
    · obtain ⟨q1, wn2, cs2, q2, q3⟩ := hthr hst hs
      exact ⟨rfl, fun e => absurd e (by decide), q1, ml, wn2, cs2, q2, hu5, by rw [h5]; rfl, q3⟩
    · exact absurd hy.1 hn
    · exact absurd hy.1 hn
    · exact absurd hy.1 hn
  · rcases hY with ⟨_, hy, _⟩ | ⟨rfl, _, hst, h5⟩ | ⟨_, _, L9, hy, _⟩ | ⟨_, _, _, _, _, L9, _, _, hy, _⟩
    · exact absurd hok hy
    · obtain ⟨q1, wn2, cs2, q2, q3⟩ := hthr hst hs
      exact ⟨rfl, fun e => absurd e (by decide), q1, ml, wn2, cs2, q2, hu5, by rw [h5]; rfl, q3⟩
    · obtain ⟨_, L3, h3, _⟩ := hy
      exact (aF_tf h3 hLx).elim
    · obtain ⟨_, L3, h3, _⟩ := hy
      exact (aF_tf h3 hLx).elim
  · have hlq := ok1_lq (by omega) hok
    have hrs := rsW_DT hnd hlq hml hG hk hDT
    rcases hY with ⟨_, hy, _⟩ | ⟨_, ⟨_, Lx, hLx⟩, _⟩ | ⟨rfl, hst, L9, hy, hyW, h5⟩ | ⟨rfl, ho, hm5, hA, h5, L9, wn2, cs2, hy, hyW, q2, q3, q4, q5, q6, q7⟩
    · exact absurd hok hy
    · exact (aF_tf hL1 hLx).elim
    · have e := yL_eq hy hL1 hL
      subst e
      rw [hrs] at hwhy
      rcases hr with ⟨hw, rfl, hu5, hs⟩ | ⟨hw, _⟩
      · obtain ⟨q1, wn2, cs2, q2, q3⟩ := hthr hst hs
        exact ⟨rfl, fun e => absurd e (by decide), q1, ml, wn2, cs2, q2, hu5, by rw [h5, hwhy]; rfl, q3⟩
      · exact absurd (by rw [← hw, hwhy]; rfl) hyW
    · have e := yL_eq hy hL1 hL
      subst e
      rw [hrs] at hwhy
      rcases hr with ⟨hw, _⟩ | ⟨hw, rfl, hr0, hu5, hN⟩
      · exact absurd (by rw [hwhy]; exact hyW) hw
      · obtain ⟨_, _, _, hD2, hI2⟩ := CI_b q2
        have hl12 : L.length ≤ 12 := by have q := GL_len hG; omega
        refine ⟨rfl, fun _ => by rw [ho, hr0], hA, ml + 1, wn2, cs2, q2, hu5, by rw [h5, hw]; rfl, ?_⟩
        exact XT_XQ hnd (by omega) hD2 hI2 (NW_XQ hk hl12 hN) (fun i hi => absurd hi (Nat.not_lt_zero _)) (XT_keep hnd hm5 hG hI hI2 q3 q4 q5 q6 q7 hX)
theorem ln_join {kA : Nat → ClassId} {g g1 : gT} {v : Nat → Int32} {ad ad' : Nat → Nat → Nat} {E E' : Nat → Nat → va_E} {RL RL' : List (Nat × Nat)} {ml nd len wn cs wn2 : Nat} (hMI : MI v g) (hCI : CI kA ad E RL ml nd len wn cs) (hX : XT g ad E nd ml len) (hCI2 : CI kA ad' E' RL' ml (lnF (g 0) (w_all (g 0) len) nd g).1 0 wn2 cs) (hT : TDs (lnF (g 0) (w_all (g 0) len) nd g).2 E' (lnF (g 0) (w_all (g 0) len) nd g).1) (hF : FRL ml nd ad ad' E E') (hg : ∀ j, j ≠ 1 → j ≠ 2 → g1 j = (lnF (g 0) (w_all (g 0) len) nd g).2 j) : XT g1 ad' E' (lnF (g 0) (w_all (g 0) len) nd g).1 ml 0 := by
  obtain ⟨_, hnd, hml, hD, hI⟩ := CI_b hCI
  obtain ⟨_, hnd2, _, hD2, hI2⟩ := CI_b hCI2
  refine XT_XQ hnd2 (by omega) hD2 hI2 ⟨fun j a b => hg j (by omega) (by omega), fun la _ => ⟨by rw [hg 22 (by omega) (by omega)], by rw [hg 19 (by omega) (by omega)], by rw [hg 20 (by omega) (by omega)], fun k _ => by rw [hg 21 (by omega) (by omega)]⟩⟩ (fun i hi => absurd hi (Nat.not_lt_zero _)) (XT_line hnd (by omega) hMI.2.2.2.1 hMI.2.2.2.2.1 hI hF hT hX)
theorem sk_join {kA : Nat → ClassId} {g g1 : gT} {ad : Nat → Nat → Nat} {E : Nat → Nat → va_E} {RL : List (Nat × Nat)} {ml nd len wn cs : Nat} (hCI : CI kA ad E RL ml nd len wn cs) (hX : XT g ad E nd ml len) (hg : ∀ j, j ≠ 1 → j ≠ 2 → j ≠ 24 → g1 j = g j) : XT g1 ad E nd ml len := by
  obtain ⟨_, hnd, hml, hD, hI⟩ := CI_b hCI
  exact XT_XQ hnd (by omega) hD hI ⟨fun j a b => hg j (by omega) (by omega) (by omega), fun la _ => ⟨by rw [hg 22 (by omega) (by omega) (by omega)], by rw [hg 19 (by omega) (by omega) (by omega)], by rw [hg 20 (by omega) (by omega) (by omega)], fun k _ => by rw [hg 21 (by omega) (by omega) (by omega)]⟩⟩ (by rw [hg 0 (by omega) (by omega) (by omega)]; exact hX.1) hX
theorem f1_join {g : gT} {ad : Nat → Nat → Nat} {E E' : Nat → Nat → va_E} {ml nd len : Nat} (hF : F134 E E') (hX : XT g ad E nd ml len) : XT g ad E' nd ml 0 := XT_E (FRX_B (fun b o hb => hF b o (by omega) (by omega) (by omega))) (fun i hi => absurd hi (Nat.not_lt_zero _)) hX
theorem wr_join {kA : Nat → ClassId} {g g1 : gT} {ad : Nat → Nat → Nat} {E E' : Nat → Nat → va_E} {RL : List (Nat × Nat)} {ml nd len len2 wn cs : Nat} (hCI2 : CI kA ad E' RL ml nd len2 wn cs) (hF : ∀ b2 o2, ¬ (b2 = 0 ∧ o2 = 1) → ¬ (b2 = 0 ∧ o2 = 2) → E' b2 o2 = E b2 o2) (ht : ∀ i, i < len2 → eA (E' 0 2) i = g1 0 i) (hg : ∀ j, j ≠ 0 → g1 j = g j) (hX : XT g ad E nd ml len) : XT g1 ad E' nd ml len2 := by
  obtain ⟨_, hnd, hml, hD, hI⟩ := CI_b hCI2
  have h0 : XT g ad E' nd ml 0 := XT_E (FRX_B (fun b o hb => hF b o (by omega) (by omega))) (fun i hi => absurd hi (Nat.not_lt_zero _)) hX
  have h1 : XT g1 ad E' nd ml 0 := XT_XQ hnd (by omega) hD hI ⟨fun j a b => hg j (by omega), fun la _ => ⟨by rw [hg 22 (by omega)], by rw [hg 19 (by omega)], by rw [hg 20 (by omega)], fun k _ => by rw [hg 21 (by omega)]⟩⟩ (fun i hi => absurd hi (Nat.not_lt_zero _)) h0
  exact ⟨ht, h1.2⟩
theorem cl_join {kA : Nat → ClassId} {g : gT} {ad : Nat → Nat → Nat} {E E' : Nat → Nat → va_E} {RL : List (Nat × Nat)} {ml nd len wn cs : Nat} {ix : Int32} (hCI : CI kA ad E RL ml nd len wn cs) (hCI2 : CI kA ad E' RL ml nd len wn cs) (hF : ∀ b2 o2, (¬ o2 = 0 ∨ b2 < 20) → E' b2 o2 = E b2 o2) (hT : TLas (clF ml g ix) ad E' nd ml) (hX : XT g ad E nd ml len) : XT (clF ml g ix) ad E' nd ml len := by
  obtain ⟨_, hnd, hml, hD, hI⟩ := CI_b hCI
  obtain ⟨_, _, _, hD2, _⟩ := CI_b hCI2
  exact XT_close hnd (by omega) hD2 hI (fun j hj => clF_o hj) hF hT hX
theorem XT_0 {ad : Nat → Nat → Nat} {E : Nat → Nat → va_E} : XT (fun _ _ => 0) ad E 0 0 0 := ⟨fun i hi => absurd hi (Nat.not_lt_zero _), fun d hd => absurd hd (Nat.not_lt_zero _), fun d hd => absurd hd (Nat.not_lt_zero _), fun d hd => absurd hd (Nat.not_lt_zero _), fun d hd => absurd hd (Nat.not_lt_zero _), fun d hd => ⟨fun _ => ⟨rfl, rfl, rfl, fun i _ => ⟨rfl, rfl⟩⟩, fun i _ _ => ⟨rfl, rfl, fun j _ => ⟨rfl, rfl⟩⟩⟩, fun d hd => absurd hd (Nat.not_lt_zero _), fun d hd => absurd hd (Nat.not_lt_zero _), fun d hd => absurd hd (Nat.not_lt_zero _), fun d hd => absurd hd (Nat.not_lt_zero _)⟩
theorem cmp_eq (x : Int64) : lg_cmp x x = 0 := by simp [lg_cmp]
