def WP (wn : Nat) (fb fe : Nat → Int32) : Prop := ∀ w, w < wn → ∃ b9 e9, b9 < e9 ∧ e9 ≤ 40 ∧ fb w = nI b9 ∧ fe w = nI e9
theorem WP_add {wn b e : Nat} {fb fe : Nat → Int32} (h : WP wn fb fe) (hb : b < e) (he : e ≤ 40) : WP (wn + 1) (upd fb wn (nI b)) (upd fe wn (nI e)) := fun w hw => by
  by_cases h9 : w = wn
  · subst h9
    exact ⟨b, e, hb, he, by simp [upd], by simp [upd]⟩
  · obtain ⟨b9, e9, h1, h2, h3, h4⟩ := h w (by omega)
    exact ⟨b9, e9, h1, h2, by simp [upd, h9, h3], by simp [upd, h9, h4]⟩
theorem GI_at {kA : Nat → ClassId} {a a' : Nat → Nat} {e e' : Nat → va_E} {m m' : Nat → Prop} {g gn ga : Nat} (h0 : e' g = e g) (h1 : e' gn = e gn) (h2 : e' ga = e ga) (ha1 : a' gn = a gn) (ha2 : a' ga = a ga) (hm : ∀ o, m o → m' o) (h : GI kA a e m g gn ga) : GI kA a' e' m' g gn ga := by
  obtain ⟨m0, m1, m2, ta, n, f, hn, c0, c1, c2⟩ := h
  exact ⟨hm _ m0, hm _ m1, hm _ m2, ta, n, f, hn, by rw [h0, ha1]; exact c0, by rw [h1, ha2]; exact c1, by rw [h2]; exact c2⟩
theorem DI_gr {kA : Nat → ClassId} {d : Nat} {a : Nat → Nat} {e e' : Nat → va_E} {m : Nat → Prop} {i o0 : Nat} (h : DI kA d a e m) (hi : i < 6) (ho : o0 = 20 ∨ o0 = 38) (he : ∀ o, ¬ o = o0 + 3 * i → ¬ o = o0 + 1 + 3 * i → ¬ o = o0 + 2 + 3 * i → e' o = e o) (hG : GI kA a e' m (o0 + 3 * i) (o0 + 1 + 3 * i) (o0 + 2 + 3 * i)) : DI kA d a e' m := by
  obtain ⟨h1, fd, nm, st, k0, k1, k2, k3, f0, f1, f2, f3, fe, fo, tr, op, g0, g1, g2, g3, c0, c1, c2, c3, c4, c5, c6, c7, c8, c9, c10, c11, c12, hg⟩ := h
  have L : ∀ j, j < 13 → e' j = e j := fun j hj => he j (by omega) (by omega) (by omega)
  refine ⟨h1, fd, nm, st, k0, k1, k2, k3, f0, f1, f2, f3, fe, fo, tr, op, g0, g1, g2, g3, (L 0 (by omega)).trans c0, (L 1 (by omega)).trans c1, (L 2 (by omega)).trans c2, (L 3 (by omega)).trans c3, (L 4 (by omega)).trans c4, (L 5 (by omega)).trans c5, (L 6 (by omega)).trans c6, (L 7 (by omega)).trans c7, (L 8 (by omega)).trans c8, (L 9 (by omega)).trans c9, (L 10 (by omega)).trans c10, (L 11 (by omega)).trans c11, (L 12 (by omega)).trans c12, fun i2 hi2 => ⟨(hg i2 hi2).1, (hg i2 hi2).2.1, ?_, ?_⟩⟩
  · by_cases h9 : o0 = 20 ∧ i2 = i
    · obtain ⟨rfl, rfl⟩ := h9
      exact hG
    · exact GI_at (he _ (by omega) (by omega) (by omega)) (he _ (by omega) (by omega) (by omega)) (he _ (by omega) (by omega) (by omega)) rfl rfl (fun _ h => h) (hg i2 hi2).2.2.1
  · by_cases h9 : o0 = 38 ∧ i2 = i
    · obtain ⟨rfl, rfl⟩ := h9
      exact hG
    · exact GI_at (he _ (by omega) (by omega) (by omega)) (he _ (by omega) (by omega) (by omega)) (he _ (by omega) (by omega) (by omega)) rfl rfl (fun _ h => h) (hg i2 hi2).2.2.2
theorem DI_set0 {kA : Nat → ClassId} {d : Nat} {a : Nat → Nat} {e e' : Nat → va_E} {m : Nat → Prop} {fd' nm' st' : Int32} (h : DI kA d a e m) (he : ∀ o, ¬ o = 0 → e' o = e o) (h0 : e' 0 = .inr (7, [.int (nI d), .int fd', .int nm', .ref (a 1), .ref (a 9), .ref (a 10), .ref (a 2), .ref (a 11), .ref (a 12), .ref (a 3), .ref (a 4), .int st'])) : DI kA d a e' m := by
  obtain ⟨h1, fd, nm, st, k0, k1, k2, k3, f0, f1, f2, f3, fe, fo, tr, op, g0, g1, g2, g3, c0, c1, c2, c3, c4, c5, c6, c7, c8, c9, c10, c11, c12, hg⟩ := h
  exact ⟨h1, fd', nm', st', k0, k1, k2, k3, f0, f1, f2, f3, fe, fo, tr, op, g0, g1, g2, g3, h0, (he 1 (by omega)).trans c1, (he 2 (by omega)).trans c2, (he 3 (by omega)).trans c3, (he 4 (by omega)).trans c4, (he 5 (by omega)).trans c5, (he 6 (by omega)).trans c6, (he 7 (by omega)).trans c7, (he 8 (by omega)).trans c8, (he 9 (by omega)).trans c9, (he 10 (by omega)).trans c10, (he 11 (by omega)).trans c11, (he 12 (by omega)).trans c12, fun i hi => ⟨(hg i hi).1, (hg i hi).2.1, GI_at (he _ (by omega)) (he _ (by omega)) (he _ (by omega)) rfl rfl (fun _ h => h) (hg i hi).2.2.1, GI_at (he _ (by omega)) (he _ (by omega)) (he _ (by omega)) rfl rfl (fun _ h => h) (hg i hi).2.2.2⟩⟩
theorem DIs_set {kA : Nat → ClassId} {ad ad' : Nat → Nat → Nat} {E E' : Nat → Nat → va_E} {RL RL' : List (Nat × Nat)} {nd x : Nat} (hE : ∀ d, d < nd → ¬ d = x → E' (1 + d) = E (1 + d)) (ha : ∀ d, d < nd → ¬ d = x → ad' (1 + d) = ad (1 + d)) (hm : ∀ y ∈ RL, y ∈ RL') (hx : DI kA x (ad' (1 + x)) (E' (1 + x)) (fun o => (1 + x, o) ∈ RL')) (h : DIs kA ad E RL nd) : DIs kA ad' E' RL' nd := fun d hd => by
  by_cases h9 : d = x
  · subst h9
    exact hx
  · rw [hE d hd h9, ha d hd h9]
    exact DI_mono (fun o ho => hm _ ho) (h d hd)
theorem DIs_add {kA : Nat → ClassId} {ad ad' : Nat → Nat → Nat} {E E' : Nat → Nat → va_E} {RL RL' : List (Nat × Nat)} {nd : Nat} (hE : ∀ d, d < nd → E' (1 + d) = E (1 + d)) (ha : ∀ d, d < nd → ad' (1 + d) = ad (1 + d)) (hm : ∀ y ∈ RL, y ∈ RL') (hx : DI kA nd (ad' (1 + nd)) (E' (1 + nd)) (fun o => (1 + nd, o) ∈ RL')) (h : DIs kA ad E RL nd) : DIs kA ad' E' RL' (nd + 1) := fun d hd => by
  by_cases h9 : d = nd
  · subst h9
    exact hx
  · rw [hE d (by omega), ha d (by omega)]
    exact DI_mono (fun o ho => hm _ ho) (h d (by omega))
theorem MEI_ext {kA : Nat → ClassId} {ad : Nat → Nat → Nat} {E E' : Nat → Nat → va_E} {RL : List (Nat × Nat)} {nd n k : Nat} (hE : ∀ o, 10 ≤ o → E' (20 + n) o = E (20 + n) o) (h : MEI kA ad E RL nd n k) : MEI kA ad E' RL nd n k := by
  obtain ⟨h1, d, rs, fr, g2, g3, g4, hd, hrs, c0, c1, c2, c3, c4, c5, c6, c7⟩ := h
  exact ⟨h1, d, rs, fr, g2, g3, g4, hd, hrs, (hE _ (by omega)).trans c0, (hE _ (by omega)).trans c1, (hE _ (by omega)).trans c2, (hE _ (by omega)).trans c3, (hE _ (by omega)).trans c4, (hE _ (by omega)).trans c5, (hE _ (by omega)).trans c6, (hE _ (by omega)).trans c7⟩
theorem LIs_set {kA : Nat → ClassId} {ad : Nat → Nat → Nat} {E E' : Nat → Nat → va_E} {RL : List (Nat × Nat)} {nd nL x : Nat} (hE : ∀ n, n < nL → ¬ n = x → E' (20 + n) = E (20 + n)) (hx : LI kA ad E' RL nd x) (h : LIs kA ad E RL nd nL) : LIs kA ad E' RL nd nL := fun n hn => by
  by_cases h9 : n = x
  · subst h9
    exact hx
  · exact LI_same (Nat.le_refl _) (hE n hn h9) rfl (fun _ _ => rfl) (fun _ _ => rfl) (fun _ h => h) (h n hn)
theorem LIs_add {kA : Nat → ClassId} {ad : Nat → Nat → Nat} {E : Nat → Nat → va_E} {RL : List (Nat × Nat)} {nd nL : Nat} (h : LIs kA ad E RL nd nL) (hx : LI kA ad E RL nd nL) : LIs kA ad E RL nd (nL + 1) := fun n hn => by
  by_cases h9 : n = nL
  · subst h9
    exact hx
  · exact h n (by omega)
def RU (kA : Nat → ClassId) (E E' : Nat → Nat → va_E) : Prop := ∀ b o, E' b o = E b o ∨ (∃ f f' : Nat → Int32, E b o = .inl (kA 0, 6, .inl f) ∧ E' b o = .inl (kA 0, 6, .inl f')) ∨ (20 ≤ b ∧ (∃ k, o = 11 + 10 * k) ∧ ∃ (rs : Nat) (f f' : Nat → Option Nat), E b o = .inl (kA 6, rs, .inr (.inr (.inr (.inr f)))) ∧ E' b o = .inl (kA 6, rs, .inr (.inr (.inr (.inr f')))))
theorem RU.rfl' {kA : Nat → ClassId} {E : Nat → Nat → va_E} : RU kA E E := fun _ _ => Or.inl rfl
theorem RU.trans' {kA : Nat → ClassId} {E E1 E2 : Nat → Nat → va_E} (h1 : RU kA E E1) (h2 : RU kA E1 E2) : RU kA E E2 := fun b o => by
  rcases h2 b o with e2 | ⟨f, f', e2, e3⟩ | ⟨hb, hk, rs, f, f', e2, e3⟩
  · rw [e2]; exact h1 b o
  · rcases h1 b o with e1 | ⟨g, g', e4, e5⟩ | ⟨hb, hk, rs, g, g', e4, e5⟩
    · exact Or.inr (Or.inl ⟨f, f', e1 ▸ e2, e3⟩)
    · exact Or.inr (Or.inl ⟨g, f', e4, e3⟩)
    · rw [e5] at e2; simp at e2
  · rcases h1 b o with e1 | ⟨g, g', e4, e5⟩ | ⟨hb, hk, rs2, g, g', e4, e5⟩
    · exact Or.inr (Or.inr ⟨hb, hk, rs, f, f', e1 ▸ e2, e3⟩)
    · rw [e5] at e2; simp at e2
    · rw [e5] at e2
      have hr : rs2 = rs := by injection e2 with e2; injection e2 with _ e2; injection e2
      subst hr
      exact Or.inr (Or.inr ⟨hb, hk, rs2, g, f', e4, e3⟩)
theorem RU.row {kA : Nat → ClassId} {E E' : Nat → Nat → va_E} {b o : Nat} {f f' : Nat → Int32} (h0 : E b o = .inl (kA 0, 6, .inl f)) (h1 : E' b o = .inl (kA 0, 6, .inl f')) (h2 : ∀ b2 o2, ¬ (b2 = b ∧ o2 = o) → E' b2 o2 = E b2 o2) : RU kA E E' := fun b2 o2 => by
  by_cases h : b2 = b ∧ o2 = o
  · obtain ⟨rfl, rfl⟩ := h
    exact Or.inr (Or.inl ⟨f, f', h0, h1⟩)
  · exact Or.inl (h2 b2 o2 h)
theorem RU.req {kA : Nat → ClassId} {E E' : Nat → Nat → va_E} {b k rs : Nat} {f f' : Nat → Option Nat} (hb : 20 ≤ b) (h0 : E b (11 + 10 * k) = .inl (kA 6, rs, .inr (.inr (.inr (.inr f))))) (h1 : E' b (11 + 10 * k) = .inl (kA 6, rs, .inr (.inr (.inr (.inr f'))))) (h2 : ∀ b2 o2, ¬ (b2 = b ∧ o2 = 11 + 10 * k) → E' b2 o2 = E b2 o2) : RU kA E E' := fun b2 o2 => by
  by_cases h : b2 = b ∧ o2 = 11 + 10 * k
  · obtain ⟨rfl, rfl⟩ := h
    exact Or.inr (Or.inr ⟨hb, ⟨k, rfl⟩, rs, f, f', h0, h1⟩)
  · exact Or.inl (h2 b2 o2 h)
theorem RU.obj {kA : Nat → ClassId} {E E' : Nat → Nat → va_E} (h : RU kA E E') {b o : Nat} {x : Nat × List Value} (e : E b o = .inr x) : E' b o = .inr x := by
  rcases h b o with e1 | ⟨f, f', e1, _⟩ | ⟨_, _, rs, f, f', e1, _⟩
  · rw [e1]; exact e
  · rw [e1] at e; cases e
  · rw [e1] at e; cases e
theorem RU.int {kA : Nat → ClassId} {E E' : Nat → Nat → va_E} (h : RU kA E E') {b o n : Nat} {c : ClassId} {f : Nat → Int32} (e : E b o = .inl (c, n, .inl f)) : ∃ f', E' b o = .inl (c, n, .inl f') := by
  rcases h b o with e1 | ⟨g, g', e1, e2⟩ | ⟨_, _, rs, g, g', e1, _⟩
  · exact ⟨f, by rw [e1]; exact e⟩
  · rw [e1] at e
    injection e with e; injection e with e3 e; injection e with e4 e
    subst e3; subst e4
    exact ⟨g', e2⟩
  · rw [e1] at e; cases e
theorem RU.reqs {kA : Nat → ClassId} {E E' : Nat → Nat → va_E} (h : RU kA E E') {b o n : Nat} {c : ClassId} {f : Nat → Option Nat} (e : E b o = .inl (c, n, .inr (.inr (.inr (.inr f))))) : ∃ f', E' b o = .inl (c, n, .inr (.inr (.inr (.inr f')))) := by
  rcases h b o with e1 | ⟨g, g', e1, e2⟩ | ⟨_, _, rs, g, g', e1, e2⟩
  · exact ⟨f, by rw [e1]; exact e⟩
  · rw [e1] at e; cases e
  · rw [e1] at e
    injection e with e; injection e with e3 e; injection e with e4 e
    subst e3; subst e4
    exact ⟨g', e2⟩
theorem RU.arr {kA : Nat → ClassId} {E E' : Nat → Nat → va_E} (h : RU kA E E') {b o n : Nat} {c : ClassId} {f : Nat → Option Nat} (hb : b < 20 ∨ o < 11) (e : E b o = .inl (c, n, .inr (.inr (.inr (.inr f))))) : E' b o = .inl (c, n, .inr (.inr (.inr (.inr f)))) := by
  rcases h b o with e1 | ⟨g, g', e1, e2⟩ | ⟨h1, ⟨k, h2⟩, rs, g, g', e1, e2⟩
  · rw [e1]; exact e
  · rw [e1] at e; cases e
  · omega
theorem MEI_RU {kA : Nat → ClassId} {ad : Nat → Nat → Nat} {E E' : Nat → Nat → va_E} {RL : List (Nat × Nat)} {nd n k : Nat} (hR : RU kA E E') (h : MEI kA ad E RL nd n k) : MEI kA ad E' RL nd n k := by
  obtain ⟨h1, d, rs, fr, g2, g3, g4, hd, hrs, c0, c1, c2, c3, c4, c5, c6, c7⟩ := h
  obtain ⟨fr', c1⟩ := hR.reqs c1
  obtain ⟨g2', c5⟩ := hR.int c5
  obtain ⟨g3', c6⟩ := hR.int c6
  obtain ⟨g4', c7⟩ := hR.int c7
  exact ⟨h1, d, rs, fr', g2', g3', g4', hd, hrs, hR.obj c0, c1, hR.obj c2, hR.obj c3, hR.obj c4, c5, c6, c7⟩
theorem LI_RU {kA : Nat → ClassId} {ad : Nat → Nat → Nat} {E E' : Nat → Nat → va_E} {RL : List (Nat × Nat)} {nd n : Nat} (hR : RU kA E E') (h : LI kA ad E RL nd n) : LI kA ad E' RL nd n := by
  obtain ⟨h1, h2, pv, op, mk, fm, hmk, hpv, c0, c1, hk⟩ := h
  exact ⟨h1, h2, pv, op, mk, fm, hmk, hpv, hR.obj c0, hR.arr (Or.inr (by omega)) c1, fun k hk9 => ⟨(hk k hk9).1, MEI_RU hR (hk k hk9).2⟩⟩
theorem LIs_RU {kA : Nat → ClassId} {ad : Nat → Nat → Nat} {E E' : Nat → Nat → va_E} {RL : List (Nat × Nat)} {nd nL : Nat} (hR : RU kA E E') (h : LIs kA ad E RL nd nL) : LIs kA ad E' RL nd nL := fun n hn => LI_RU hR (h n hn)
theorem GI_RU {kA : Nat → ClassId} {a : Nat → Nat} {E E' : Nat → Nat → va_E} {m : Nat → Prop} {b g gn ga : Nat} (hR : RU kA E E') (h : GI kA a (E b) m g gn ga) : GI kA a (E' b) m g gn ga := by
  obtain ⟨m0, m1, m2, ta, n, f, hn, c0, c1, c2⟩ := h
  obtain ⟨f', c2⟩ := hR.int c2
  exact ⟨m0, m1, m2, ta, n, f', hn, hR.obj c0, hR.obj c1, c2⟩
theorem DI_RU {kA : Nat → ClassId} {d b : Nat} {a : Nat → Nat} {E E' : Nat → Nat → va_E} {m : Nat → Prop} (hR : RU kA E E') (hb : b < 20) (h : DI kA d a (E b) m) : DI kA d a (E' b) m := by
  obtain ⟨h1, fd, nm, st, k0, k1, k2, k3, f0, f1, f2, f3, fe, fo, tr, op, g0, g1, g2, g3, c0, c1, c2, c3, c4, c5, c6, c7, c8, c9, c10, c11, c12, hg⟩ := h
  obtain ⟨f0', c5⟩ := hR.int c5
  obtain ⟨f1', c6⟩ := hR.int c6
  obtain ⟨f2', c7⟩ := hR.int c7
  obtain ⟨f3', c8⟩ := hR.int c8
  obtain ⟨tr', c11⟩ := hR.int c11
  obtain ⟨op', c12⟩ := hR.int c12
  exact ⟨h1, fd, nm, st, k0, k1, k2, k3, f0', f1', f2', f3', fe, fo, tr', op', g0, g1, g2, g3, hR.obj c0, hR.obj c1, hR.obj c2, hR.obj c3, hR.obj c4, c5, c6, c7, c8, hR.arr (Or.inl hb) c9, hR.arr (Or.inl hb) c10, c11, c12, fun i hi => ⟨(hg i hi).1, (hg i hi).2.1, GI_RU hR (hg i hi).2.2.1, GI_RU hR (hg i hi).2.2.2⟩⟩
theorem DIs_RU {kA : Nat → ClassId} {ad : Nat → Nat → Nat} {E E' : Nat → Nat → va_E} {RL : List (Nat × Nat)} {nd : Nat} (hR : RU kA E E') (hn : nd ≤ 12) (h : DIs kA ad E RL nd) : DIs kA ad E' RL nd := fun d hd => DI_RU hR (by omega) (h d hd)
theorem vu_eq {α : Type} {f : Nat → α} {i : Nat} {x : α} : va_up f i x i = x := by simp [va_up]
theorem vu_ne {α : Type} {f : Nat → α} {i j : Nat} {x : α} (h : ¬ j = i) : va_up f i x j = f j := by simp [va_up, h]
theorem FC_add {ad : Nat → Nat → Nat} {nd cs d0 : Nat} {fc : Nat → Option Nat} (h : ∀ k, k < cs → ∃ d, d < nd ∧ fc k = some (ad (1 + d) 0)) (hd : d0 < nd) : ∀ k, k < cs + 1 → ∃ d, d < nd ∧ va_up fc cs (some (ad (1 + d0) 0)) k = some (ad (1 + d) 0) := fun k hk => by
  by_cases h9 : k = cs
  · subst h9
    exact ⟨d0, hd, vu_eq⟩
  · obtain ⟨d2, h1, h2⟩ := h k (by omega)
    exact ⟨d2, h1, by rw [vu_ne h9]; exact h2⟩
theorem FC_le {ad : Nat → Nat → Nat} {nd cs cs2 : Nat} {fc : Nat → Option Nat} (h : ∀ k, k < cs2 → ∃ d, d < nd ∧ fc k = some (ad (1 + d) 0)) (hd : cs ≤ cs2) : ∀ k, k < cs → ∃ d, d < nd ∧ fc k = some (ad (1 + d) 0) := fun k hk => h k (by omega)
theorem RU3 {kA : Nat → ClassId} {E E' : Nat → Nat → va_E} {b k rs : Nat} {fr fr' : Nat → Option Nat} {f f' g g' : Nat → Int32} (hb : 20 ≤ b) (h1 : E b (11 + 10 * k) = .inl (kA 6, rs, .inr (.inr (.inr (.inr fr))))) (h2 : E b (15 + 10 * k) = .inl (kA 0, 6, .inl f)) (h3 : E b (16 + 10 * k) = .inl (kA 0, 6, .inl g)) (h4 : E' b (11 + 10 * k) = .inl (kA 6, rs, .inr (.inr (.inr (.inr fr'))))) (h5 : E' b (15 + 10 * k) = .inl (kA 0, 6, .inl f')) (h6 : E' b (16 + 10 * k) = .inl (kA 0, 6, .inl g')) (h : ∀ b2 o2, ¬ (b2 = b ∧ o2 = 11 + 10 * k) → ¬ (b2 = b ∧ o2 = 15 + 10 * k) → ¬ (b2 = b ∧ o2 = 16 + 10 * k) → E' b2 o2 = E b2 o2) : RU kA E E' := fun b2 o2 => by
  by_cases q1 : b2 = b ∧ o2 = 11 + 10 * k
  · obtain ⟨rfl, rfl⟩ := q1
    exact Or.inr (Or.inr ⟨hb, ⟨k, rfl⟩, rs, fr, fr', h1, h4⟩)
  · by_cases q2 : b2 = b ∧ o2 = 15 + 10 * k
    · obtain ⟨rfl, rfl⟩ := q2
      exact Or.inr (Or.inl ⟨f, f', h2, h5⟩)
    · by_cases q3 : b2 = b ∧ o2 = 16 + 10 * k
      · obtain ⟨rfl, rfl⟩ := q3
        exact Or.inr (Or.inl ⟨g, g', h3, h6⟩)
      · exact Or.inl (h b2 o2 q1 q2 q3)
def RQ (kA : Nat → ClassId) (ad : Nat → Nat → Nat) (E : Nat → Nat → va_E) (RL : List (Nat × Nat)) (nd n m : Nat) (fr : Nat → Option Nat) : Prop := ∀ j, j < m → fr j = none ∨ ∃ x9 k9, x9 ≤ n ∧ fr j = some (ad (20 + x9) (10 + 10 * k9)) ∧ MEI kA ad E RL nd x9 k9
theorem RQ_RU {kA : Nat → ClassId} {ad : Nat → Nat → Nat} {E E' : Nat → Nat → va_E} {RL : List (Nat × Nat)} {nd n m : Nat} {fr : Nat → Option Nat} (hR : RU kA E E') (h : RQ kA ad E RL nd n m fr) : RQ kA ad E' RL nd n m fr := fun j hj => by
  rcases h j hj with h1 | ⟨x9, k9, h1, h2, h3⟩
  · exact Or.inl h1
  · exact Or.inr ⟨x9, k9, h1, h2, MEI_RU hR h3⟩
theorem RQ_addN {kA : Nat → ClassId} {ad : Nat → Nat → Nat} {E : Nat → Nat → va_E} {RL : List (Nat × Nat)} {nd n m : Nat} {fr : Nat → Option Nat} (h : RQ kA ad E RL nd n m fr) : RQ kA ad E RL nd n (m + 1) (va_up fr m none) := fun j hj => by
  by_cases q : j = m
  · subst q
    exact Or.inl vu_eq
  · rw [vu_ne q]; exact h j (by omega)
theorem RQ_add {kA : Nat → ClassId} {ad : Nat → Nat → Nat} {E : Nat → Nat → va_E} {RL : List (Nat × Nat)} {nd n m x k : Nat} {fr : Nat → Option Nat} (h : RQ kA ad E RL nd n m fr) (hx : x ≤ n) (hM : MEI kA ad E RL nd x k) : RQ kA ad E RL nd n (m + 1) (va_up fr m (some (ad (20 + x) (10 + 10 * k)))) := fun j hj => by
  by_cases q : j = m
  · subst q
    exact Or.inr ⟨x, k, hx, vu_eq, hM⟩
  · rw [vu_ne q]; exact h j (by omega)
def RI (kA : Nat → ClassId) (B : Nat) (E E' : Nat → Nat → va_E) : Prop := ∀ b o, E' b o = E b o ∨ (b = B ∧ ∃ f f' : Nat → Int32, E b o = .inl (kA 0, 6, .inl f) ∧ E' b o = .inl (kA 0, 6, .inl f'))
theorem RI.ru {kA : Nat → ClassId} {B : Nat} {E E' : Nat → Nat → va_E} (h : RI kA B E E') : RU kA E E' := fun b o => (h b o).elim Or.inl (fun q => Or.inr (Or.inl q.2))
theorem RI.rfl' {kA : Nat → ClassId} {B : Nat} {E : Nat → Nat → va_E} : RI kA B E E := fun _ _ => Or.inl rfl
theorem RI.trans' {kA : Nat → ClassId} {B : Nat} {E E1 E2 : Nat → Nat → va_E} (h1 : RI kA B E E1) (h2 : RI kA B E1 E2) : RI kA B E E2 := fun b o => by
  rcases h2 b o with e2 | ⟨hb, f, f', e2, e3⟩
  · rw [e2]; exact h1 b o
  · rcases h1 b o with e1 | ⟨_, g, g', e4, e5⟩
    · exact Or.inr ⟨hb, f, f', e1 ▸ e2, e3⟩
    · exact Or.inr ⟨hb, g, f', e4, e3⟩
theorem RI.row {kA : Nat → ClassId} {E E' : Nat → Nat → va_E} {b o : Nat} {f f' : Nat → Int32} (h0 : E b o = .inl (kA 0, 6, .inl f)) (h1 : E' b o = .inl (kA 0, 6, .inl f')) (h2 : ∀ b2 o2, ¬ (b2 = b ∧ o2 = o) → E' b2 o2 = E b2 o2) : RI kA b E E' := fun b2 o2 => by
  by_cases h : b2 = b ∧ o2 = o
  · obtain ⟨rfl, rfl⟩ := h
    exact Or.inr ⟨rfl, f, f', h0, h1⟩
  · exact Or.inl (h2 b2 o2 h)
theorem RI.obj {kA : Nat → ClassId} {B : Nat} {E E' : Nat → Nat → va_E} (h : RI kA B E E') {b o : Nat} {x : Nat × List Value} (e : E b o = .inr x) : E' b o = .inr x := h.ru.obj e
theorem RI.arr {kA : Nat → ClassId} {B : Nat} {E E' : Nat → Nat → va_E} (h : RI kA B E E') {b o n : Nat} {c : ClassId} {f : Nat → Option Nat} (e : E b o = .inl (c, n, .inr (.inr (.inr (.inr f))))) : E' b o = .inl (c, n, .inr (.inr (.inr (.inr f)))) := by
  rcases h b o with e1 | ⟨_, g, g', e1, e2⟩
  · rw [e1]; exact e
  · rw [e1] at e; cases e
theorem RI.out {kA : Nat → ClassId} {B : Nat} {E E' : Nat → Nat → va_E} (h : RI kA B E E') {b o : Nat} (hb : ¬ b = B) : E' b o = E b o := by
  rcases h b o with e1 | ⟨q, _⟩
  · exact e1
  · exact absurd q hb
theorem MEI_at {kA : Nat → ClassId} {ad ad' : Nat → Nat → Nat} {E E' : Nat → Nat → va_E} {RL RL' : List (Nat × Nat)} {nd n k : Nat} (hE : ∀ j, j < 8 → E' (20 + n) (10 + j + 10 * k) = E (20 + n) (10 + j + 10 * k)) (ha : ∀ j, j < 8 → ad' (20 + n) (10 + j + 10 * k) = ad (20 + n) (10 + j + 10 * k)) (h0 : ad' (20 + n) 0 = ad (20 + n) 0) (had : ∀ d, d < nd → ad' (1 + d) 0 = ad (1 + d) 0) (hm : ∀ x ∈ RL, x ∈ RL') (h : MEI kA ad E RL nd n k) : MEI kA ad' E' RL' nd n k := by
  obtain ⟨h1, d, rs, fr, g2, g3, g4, hd, hrs, c0, c1, c2, c3, c4, c5, c6, c7⟩ := h
  have e0 := hE 0 (by omega)
  have e1 := hE 1 (by omega)
  have e2 := hE 2 (by omega)
  have e3 := hE 3 (by omega)
  have e4 := hE 4 (by omega)
  have e5 := hE 5 (by omega)
  have e6 := hE 6 (by omega)
  have e7 := hE 7 (by omega)
  have a1 := ha 1 (by omega)
  have a2 := ha 2 (by omega)
  have a3 := ha 3 (by omega)
  have a4 := ha 4 (by omega)
  have a5 := ha 5 (by omega)
  have a6 := ha 6 (by omega)
  have a7 := ha 7 (by omega)
  simp only [Nat.add_zero, Nat.reduceAdd] at e0 e1 e2 e3 e4 e5 e6 e7 a1 a2 a3 a4 a5 a6 a7
  exact ⟨fun j hj => hm _ (h1 j hj), d, rs, fr, g2, g3, g4, hd, hrs, by rw [e0, h0, had d hd, a1, a2, a3, a4]; exact c0, by rw [e1]; exact c1, by rw [e2, a5]; exact c2, by rw [e3, a6]; exact c3, by rw [e4, a7]; exact c4, by rw [e5]; exact c5, by rw [e6]; exact c6, by rw [e7]; exact c7⟩
def R23 {α : Type} (n : Nat) (E E' : Nat → Nat → α) : Prop := ∀ b o, ¬ (b = 20 + n ∧ (o = 2 ∨ o = 3)) → E' b o = E b o
theorem MEI_23 {kA : Nat → ClassId} {ad ad' : Nat → Nat → Nat} {E E' : Nat → Nat → va_E} {RL RL' : List (Nat × Nat)} {nd n x k : Nat} (hE : R23 n E E') (ha : R23 n ad ad') (hm : ∀ y ∈ RL, y ∈ RL') (h : MEI kA ad E RL nd x k) : MEI kA ad' E' RL' nd x k := MEI_at (fun j hj => hE _ _ (by omega)) (fun j hj => ha _ _ (by omega)) (ha _ _ (by omega)) (fun d hd => ha _ _ (by omega)) hm h
theorem RQ_23 {kA : Nat → ClassId} {ad : Nat → Nat → Nat} {E E' : Nat → Nat → va_E} {RL : List (Nat × Nat)} {nd n x m : Nat} {fr : Nat → Option Nat} (hE : R23 n E E') (h : RQ kA ad E RL nd x m fr) : RQ kA ad E' RL nd x m fr := fun j hj => by
  rcases h j hj with h1 | ⟨x9, k9, h1, h2, h3⟩
  · exact Or.inl h1
  · exact Or.inr ⟨x9, k9, h1, h2, MEI_23 hE (fun _ _ _ => rfl) (fun _ h => h) h3⟩
theorem LIs_23 {kA : Nat → ClassId} {ad ad' : Nat → Nat → Nat} {E E' : Nat → Nat → va_E} {RL RL' : List (Nat × Nat)} {nd n nL : Nat} (hE : R23 n E E') (ha : R23 n ad ad') (hm : ∀ y ∈ RL, y ∈ RL') (h : LIs kA ad E RL nd nL) : LIs kA ad' E' RL' nd nL := fun x hx => by
  obtain ⟨h1, h2, pv, op, mk, fm, hmk, hpv, c0, c1, hk⟩ := h x hx
  refine ⟨hm _ h1, hm _ h2, pv, op, mk, fm, hmk, ?_, ?_, ?_, fun k hk9 => ⟨?_, MEI_23 hE ha hm (hk k hk9).2⟩⟩
  · rcases hpv with h | ⟨y, hy, h⟩
    · exact Or.inl h
    · exact Or.inr ⟨y, hy, by rw [ha _ _ (by omega)]; exact h⟩
  · rw [hE _ _ (by omega), ha _ _ (by omega)]; exact c0
  · rw [hE _ _ (by omega)]; exact c1
  · rw [ha _ _ (by omega)]; exact (hk k hk9).1
theorem DIs_23 {kA : Nat → ClassId} {ad ad' : Nat → Nat → Nat} {E E' : Nat → Nat → va_E} {RL RL' : List (Nat × Nat)} {nd n : Nat} (hE : R23 n E E') (ha : R23 n ad ad') (hm : ∀ y ∈ RL, y ∈ RL') (hn : nd ≤ 12) (h : DIs kA ad E RL nd) : DIs kA ad' E' RL' nd := DIs_same (fun d hd => fun2 fun o => hE _ _ (by omega)) (fun d hd => fun2 fun o => ha _ _ (by omega)) hm h
theorem RQ_cell {kA : Nat → ClassId} {ad : Nat → Nat → Nat} {E : Nat → Nat → va_E} {RL : List (Nat × Nat)} {nd n b o rs rs' : Nat} {c c' : ClassId} {fr fr' : Nat → Option Nat} (h : ∃ (rs : Nat) (fr : Nat → Option Nat), E b o = .inl (c, rs, .inr (.inr (.inr (.inr fr)))) ∧ RQ kA ad E RL nd n rs fr) (h2 : E b o = .inl (c', rs', .inr (.inr (.inr (.inr fr'))))) : RQ kA ad E RL nd n rs' fr' := by
  obtain ⟨rs, fr, h1, hq⟩ := h
  rw [h1] at h2
  injection h2 with h2; injection h2 with _ h2; injection h2 with h3 h2; injection h2 with h2; injection h2 with h2; injection h2 with h2; injection h2 with h2
  subst h3; subst h2
  exact hq
theorem LA_add {ad : Nat → Nat → Nat} {ml : Nat} {fl : Nat → Option Nat} (h : ∀ n, n < ml → fl n = some (ad (20 + n) 0)) : ∀ n, n < ml + 1 → va_up fl ml (some (ad (20 + ml) 0)) n = some (ad (20 + n) 0) := fun n hn => by
  by_cases q : n = ml
  · subst q
    exact vu_eq
  · rw [vu_ne q]; exact h n (by omega)
theorem PV_le {ad : Nat → Nat → Nat} {pv : Value} {n m : Nat} (h : pv = .null ∨ ∃ x, x < n ∧ pv = .ref (ad (20 + x) 0)) (hn : n ≤ m) : pv = .null ∨ ∃ x, x < m ∧ pv = .ref (ad (20 + x) 0) := h.elim Or.inl (fun ⟨x, h1, h2⟩ => Or.inr ⟨x, by omega, h2⟩)
theorem DS_add {ad ad' : Nat → Nat → Nat} {nd : Nat} {fd : Nat → Option Nat} (h : ∀ d, d < nd → fd d = some (ad (1 + d) 0)) (ha : ∀ d, d < nd → ad' (1 + d) 0 = ad (1 + d) 0) : ∀ d, d < nd + 1 → va_up fd nd (some (ad' (1 + nd) 0)) d = some (ad' (1 + d) 0) := fun d hd => by
  by_cases q : d = nd
  · subst q
    exact vu_eq
  · rw [vu_ne q, ha d (by omega)]; exact h d (by omega)
theorem DS_ad {ad ad' : Nat → Nat → Nat} {nd : Nat} {fd : Nat → Option Nat} (h : ∀ d, d < nd → fd d = some (ad (1 + d) 0)) (ha : ∀ d, d < nd → ad' (1 + d) 0 = ad (1 + d) 0) : ∀ d, d < nd → fd d = some (ad' (1 + d) 0) := fun d hd => by rw [ha d hd]; exact h d hd
theorem FC_ad {ad ad' : Nat → Nat → Nat} {nd nd' cs : Nat} {fc : Nat → Option Nat} (h : ∀ k, k < cs → ∃ d, d < nd ∧ fc k = some (ad (1 + d) 0)) (ha : ∀ d, d < nd → ad' (1 + d) 0 = ad (1 + d) 0) (hn : nd ≤ nd') : ∀ k, k < cs → ∃ d, d < nd' ∧ fc k = some (ad' (1 + d) 0) := fun k hk => by
  obtain ⟨d, h1, h2⟩ := h k hk
  exact ⟨d, by omega, by rw [ha d h1]; exact h2⟩
theorem PV_ad {ad ad' : Nat → Nat → Nat} {pv : Value} {n : Nat} (h : pv = .null ∨ ∃ x, x < n ∧ pv = .ref (ad (20 + x) 0)) (ha : ∀ x, x < n → ad' (20 + x) 0 = ad (20 + x) 0) : pv = .null ∨ ∃ x, x < n ∧ pv = .ref (ad' (20 + x) 0) := h.elim Or.inl (fun ⟨x, h1, h2⟩ => Or.inr ⟨x, h1, by rw [ha x h1]; exact h2⟩)
theorem LA_ad {ad ad' : Nat → Nat → Nat} {ml : Nat} {fl : Nat → Option Nat} (h : ∀ n, n < ml → fl n = some (ad (20 + n) 0)) (ha : ∀ x, x < ml → ad' (20 + x) 0 = ad (20 + x) 0) : ∀ n, n < ml → fl n = some (ad' (20 + n) 0) := fun n hn => by rw [ha n hn]; exact h n hn
