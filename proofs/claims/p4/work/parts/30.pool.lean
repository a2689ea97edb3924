def up2 {α : Type} (E : Nat → Nat → α) (b o : Nat) (e : α) : Nat → Nat → α := va_up E b (va_up (E b) o e)
theorem up2_eq {α : Type} {E : Nat → Nat → α} {b o : Nat} {e : α} : up2 E b o e b o = e := by simp [up2, va_up]
theorem up2_nb {α : Type} {E : Nat → Nat → α} {b o b2 : Nat} {e : α} (h : b2 ≠ b) : up2 E b o e b2 = E b2 := by simp [up2, va_up, h]
theorem up2_no {α : Type} {E : Nat → Nat → α} {b o o2 : Nat} {e : α} (h : o2 ≠ o) : up2 E b o e b o2 = E b o2 := by simp [up2, va_up, h]
theorem up2_ne {α : Type} {E : Nat → Nat → α} {b o b2 o2 : Nat} {e : α} (h : b2 ≠ b ∨ o2 ≠ o) : up2 E b o e b2 o2 = E b2 o2 := by
  by_cases hb : b2 = b
  · subst hb
    exact up2_no (h.resolve_left (fun q => q rfl))
  · rw [up2_nb hb]
def rp (ad : Nat → Nat → Nat) (E : Nat → Nat → va_E) (RL : List (Nat × Nat)) : va_W := RL.map (fun r => (ad r.1 r.2, E r.1 r.2))
theorem rp_ix {ad : Nat → Nat → Nat} {E : Nat → Nat → va_E} {RL : List (Nat × Nat)} {k : Nat} {r : Nat × Nat} (h : RL[k]? = some r) : (rp ad E RL)[k]? = some (ad r.1 r.2, E r.1 r.2) := by
  simp only [rp, List.getElem?_map, h]; rfl
theorem rp_get {ad : Nat → Nat → Nat} {E : Nat → Nat → va_E} {RL : List (Nat × Nat)} {b o : Nat} (h : (b, o) ∈ RL) : ∃ k : Nat, (rp ad E RL)[k]? = some (ad b o, E b o) := by
  obtain ⟨k, hk⟩ := List.getElem?_of_mem h
  exact ⟨k, rp_ix hk⟩
theorem rp_set {A : Nat → Prop} {ad : Nat → Nat → Nat} {E : Nat → Nat → va_E} {RL : List (Nat × Nat)} {b o k : Nat} {e : va_E} (hD : va_D A (rp ad E RL)) (h : (b, o) ∈ RL) (hk : (rp ad E RL)[k]? = some (ad b o, E b o)) : (rp ad E RL).set k (ad b o, e) = rp ad (up2 E b o e) RL := by
  obtain ⟨j, hj⟩ := List.getElem?_of_mem h
  have ekj : k = j := hD.1 k j _ _ hk (rp_ix hj) rfl
  subst ekj
  apply List.ext_getElem?
  intro i
  by_cases e1 : k = i
  · subst e1
    rw [rp_ix hj, up2_eq]
    have hlt : k < (rp ad E RL).length := (List.getElem?_eq_some_iff.mp hk).1
    rw [List.getElem?_set_self hlt]
  · rw [List.getElem?_set_ne e1]
    cases hi : RL[i]? with
    | none => simp only [rp, List.getElem?_map, hi]; rfl
    | some r =>
      rw [rp_ix hi, rp_ix hi]
      have hne : r.1 ≠ b ∨ r.2 ≠ o := by
        by_cases h1 : r.1 = b
        · by_cases h2 : r.2 = o
          · exact absurd (hD.1 k i _ _ hk (rp_ix hi) (by rw [h1, h2])) e1
          · exact Or.inr h2
        · exact Or.inl h1
      rw [up2_ne hne]
theorem rp_lt {D : va_G} {cl : List vw_C} {ad : Nat → Nat → Nat} {E : Nat → Nat → va_E} {RL : List (Nat × Nat)} {H : Heap} (hP : va_P D cl (rp ad E RL) H) {b o : Nat} (h : (b, o) ∈ RL) : ad b o < H.size := by
  obtain ⟨k, hk⟩ := rp_get (ad := ad) (E := E) h
  exact (hP k _ hk).lt
theorem rp_in {ad : Nat → Nat → Nat} {E : Nat → Nat → va_E} {RL : List (Nat × Nat)} {k : Nat} {q : Nat × va_E} (h : (rp ad E RL)[k]? = some q) : ∃ r : Nat × Nat, RL[k]? = some r ∧ q = (ad r.1 r.2, E r.1 r.2) := by
  simp only [rp, List.getElem?_map] at h
  cases hr : RL[k]? with
  | none => rw [hr] at h; cases h
  | some r => rw [hr] at h; exact ⟨r, rfl, (Option.some.inj h).symm⟩
def rdel (RL : List (Nat × Nat)) (b o : Nat) : List (Nat × Nat) := RL.filter (fun r => !(r == (b, o)))
theorem rdel_in {RL : List (Nat × Nat)} {b o : Nat} {r : Nat × Nat} : r ∈ rdel RL b o ↔ r ∈ RL ∧ r ≠ (b, o) := by
  simp [rdel, List.mem_filter]
theorem rp_nd {A : Nat → Prop} {ad : Nat → Nat → Nat} {E : Nat → Nat → va_E} {RL : List (Nat × Nat)} : va_D A (rp ad E RL) ↔ (List.Pairwise (fun x y : Nat × Nat => ad x.1 x.2 ≠ ad y.1 y.2) RL ∧ ∀ r ∈ RL, A (ad r.1 r.2)) := by
  constructor
  · intro h
    refine ⟨List.pairwise_iff_getElem.mpr fun i j hi hj hij e => ?_, fun r hr => ?_⟩
    · have := h.1 i j _ _ (rp_ix (List.getElem?_eq_getElem hi)) (rp_ix (List.getElem?_eq_getElem hj)) e
      omega
    · obtain ⟨k, hk⟩ := List.getElem?_of_mem hr
      exact h.2 k _ (rp_ix hk)
  · intro ⟨h1, h2⟩
    refine ⟨fun i j p q hi hj e => ?_, fun k q hk => ?_⟩
    · obtain ⟨r, hr, rfl⟩ := rp_in hi
      obtain ⟨r2, hr2, rfl⟩ := rp_in hj
      obtain ⟨hi1, hi2⟩ := List.getElem?_eq_some_iff.mp hr
      obtain ⟨hj1, hj2⟩ := List.getElem?_eq_some_iff.mp hr2
      have hp := List.pairwise_iff_getElem.mp h1
      rcases Nat.lt_trichotomy i j with h | h | h
      · exact absurd (by rw [hi2, hj2]; exact e) (hp i j hi1 hj1 h)
      · exact h
      · exact absurd (by rw [hi2, hj2]; exact e.symm) (hp j i hj1 hi1 h)
    · obtain ⟨r, hr, rfl⟩ := rp_in hk
      exact h2 r (List.mem_of_getElem? hr)
theorem rp_del_D {A : Nat → Prop} {ad : Nat → Nat → Nat} {E : Nat → Nat → va_E} {RL : List (Nat × Nat)} (b o : Nat) (h : va_D A (rp ad E RL)) : va_D A (rp ad E (rdel RL b o)) := by
  obtain ⟨h1, h2⟩ := rp_nd.mp h
  exact rp_nd.mpr ⟨h1.filter _, fun r hr => h2 r (rdel_in.mp hr).1⟩
theorem rp_del_P {D : va_G} {cl : List vw_C} {ad : Nat → Nat → Nat} {E : Nat → Nat → va_E} {RL : List (Nat × Nat)} {H : Heap} (b o : Nat) (h : va_P D cl (rp ad E RL) H) : va_P D cl (rp ad E (rdel RL b o)) H := fun k q hk => by
  obtain ⟨r, hr, rfl⟩ := rp_in hk
  obtain ⟨j, hj⟩ := rp_get (ad := ad) (E := E) (b := r.1) (o := r.2) (rdel_in.mp (List.mem_of_getElem? hr)).1
  exact h j _ hj
theorem rp_add {ad : Nat → Nat → Nat} {E : Nat → Nat → va_E} {RL : List (Nat × Nat)} {b o a : Nat} {e : va_E} : rp ad E (rdel RL b o) ++ [(a, e)] = rp (up2 ad b o a) (up2 E b o e) (rdel RL b o ++ [(b, o)]) := by
  simp only [rp, List.map_append, List.map_cons, List.map_nil, up2_eq]
  congr 1
  apply List.map_congr_left
  intro r hr
  have h := (rdel_in.mp hr).2
  have hne : r.1 ≠ b ∨ r.2 ≠ o := by
    by_cases h1 : r.1 = b
    · by_cases h2 : r.2 = o
      · exact absurd (by rw [← h1, ← h2]) h
      · exact Or.inr h2
    · exact Or.inl h1
  rw [up2_ne hne, up2_ne hne]
theorem radd_sub {RL : List (Nat × Nat)} {b o : Nat} : ∀ x ∈ RL, x ∈ rdel RL b o ++ [(b, o)] := fun x hx => by
  by_cases h : x = (b, o)
  · exact List.mem_append_right _ (by rw [h]; exact List.mem_cons_self)
  · exact List.mem_append_left _ (rdel_in.mpr ⟨hx, h⟩)
theorem radd_self {RL : List (Nat × Nat)} {b o : Nat} : (b, o) ∈ rdel RL b o ++ [(b, o)] := List.mem_append_right _ List.mem_cons_self
theorem px_free {A0 : Nat → Prop} {ws : va_W} {H0 H : Heap} {locs : List Loc} (hD : va_D A0 ws) (hS : va_S A0 H0 H locs) (hA : ∀ q, H0.size ≤ q → A0 q) : ∀ q, va_A ws H.size q → A0 q := fun q h => by
  rcases h with ⟨k, e, h⟩ | h
  · exact hD.2 k _ h
  · exact hA q (Nat.le_trans hS.1 h)
theorem rp_inj {A : Nat → Prop} {ad : Nat → Nat → Nat} {E : Nat → Nat → va_E} {RL : List (Nat × Nat)} (h : va_D A (rp ad E RL)) {b o b2 o2 : Nat} (h1 : (b, o) ∈ RL) (h2 : (b2, o2) ∈ RL) (e : ad b o = ad b2 o2) : b = b2 ∧ o = o2 := by
  obtain ⟨j, hj⟩ := List.getElem?_of_mem h1
  obtain ⟨k, hk⟩ := List.getElem?_of_mem h2
  have ejk : j = k := h.1 j k _ _ (rp_ix hj) (rp_ix hk) e
  subst ejk
  rw [hj] at hk
  exact ⟨congrArg Prod.fst (Option.some.inj hk), congrArg Prod.snd (Option.some.inj hk)⟩
section XP
variable {p : Program} {l : Launch} {e : Env} {R : Room} {s : State} {m : MethodId} {args : Array Value} {below : List Frame} {meth : Method} {c : Code} {H : Heap} {locs : List Loc} {cells slots : Nat} {Q : State → Prop}
variable {cc : ByteArray} {pc : Nat} {ls : Array Slot} {rest : List Value} {D : va_G} {cl : List vw_C} {tys : List (ClassId × FieldType)} {A : Nat → Prop} {H0 : Heap} {ad : Nat → Nat → Nat} {E : Nat → Nat → va_E} {RL : List (Nat × Nat)} {b o : Nat}
theorem px_preV {kA : Nat → ClassId} {As : List Value} {ci : Nat} {fs : List Value} {q : vw_C} (hK : xK D kA s) (hP : va_P D xcl (rp ad E RL) H) (hD : va_D A (rp ad E RL)) (hm : (b, o) ∈ RL) (he : E b o = .inr (ci, fs)) (hc : xcl[ci]? = some q) : PreV s H q.1 (ad b o) (va_Pc (.ref (ad b o) :: As) (xPre D kA H.size (rp ad E RL))) As := by
  obtain ⟨q0, h0⟩ := rp_get (ad := ad) (E := E) hm
  rw [he] at h0
  exact x_preV hK hP hD q0 h0 hc
theorem px_get (hexec : p.tables.exec = Jvm.exec) (hb : c.code = cc) {own ref C : String} {T : u_T} {N ci index : Nat} {Ts : List Cond} (hts : ∀ w ∈ Ts, w.before args s = true) (hin : ∀ w ∈ u_ws C T N, w ∈ Ts) (hown : s.vm.findClass own = some m.cls) (hK : va_K D cl tys s) (hP : va_P D cl (rp ad E RL) H) (hm : (b, o) ∈ RL) {fs : List Value} (he : E b o = .inr (ci, fs)) (hc : cl[ci]? = some (C, T, N)) (k : Nat) (hk : k < N) (hlink : (Cond.fieldLink own index ref (T k).2.1 (T k).2.2.1).before args s = true) (hsame : ∀ x, s.fieldFound? (T k).1 (T k).2.1 (T k).2.2.1 = some x → s.fieldFound? ref (T k).2.1 (T k).2.2.1 = some x) {v : Value} (hv : fs[k]? = some v) (hdg : decode cc pc = .ok (.getfield index, 3))
    (kk : W p l e R s m args below meth c H locs cells slots Q (F0 m (pc + 3) ls (v :: rest))) : W p l e R s m args below meth c H locs cells slots Q (F0 m pc ls (.ref (ad b o) :: rest)) := by
  obtain ⟨q0, h0⟩ := rp_get (ad := ad) (E := E) hm
  rw [he] at h0
  exact va_get hexec hb hts hin hown hK hP q0 h0 hc k hk hlink hsame hv hdg kk
theorem px_put (hexec : p.tables.exec = Jvm.exec) (hb : c.code = cc) {own ref C : String} {T : u_T} {N ci index : Nat} {Ts : List Cond} (hts : ∀ w ∈ Ts, w.before args s = true) (hin : ∀ w ∈ u_ws C T N, w ∈ Ts) (ty0 : Nat → FieldType) (hty : ∀ k, k < N → parseFieldDescriptor (T k).2.2.1 = some (ty0 k)) (hnm : ∀ a, a < N → ∀ b, b < N → a ≠ b → (T a).2.1 ≠ (T b).2.1) (hown : s.vm.findClass own = some m.cls) (hK : va_K D cl tys s) (hP : va_P D cl (rp ad E RL) H) (hD : va_D A (rp ad E RL)) (hS0 : va_S A H0 H locs) (hm : (b, o) ∈ RL) {fs : List Value} (he : E b o = .inr (ci, fs)) (hc : cl[ci]? = some (C, T, N)) (k : Nat) (hk : k < N) (hlink : (Cond.fieldLink own index ref (T k).2.1 (T k).2.2.1).before args s = true) (hsame : ∀ x, s.fieldFound? (T k).1 (T k).2.1 (T k).2.2.1 = some x → s.fieldFound? ref (T k).2.1 (T k).2.2.1 = some x) (hfin : (T k).2.2.2 = false) {ty : FieldType} {v : Value} (hd : parseFieldDescriptor (T k).2.2.1 = some ty) (hn : narrow ty v = v) (hfit : fits ty v = true) (hl : k < fs.length) (hdg : decode cc pc = .ok (.putfield index, 3))
    (kk : ∀ (H1 : Heap) (locs1 : List Loc), va_P D cl (rp ad (up2 E b o (.inr (ci, fs.set k v))) RL) H1 → va_D A (rp ad (up2 E b o (.inr (ci, fs.set k v))) RL) → va_S A H0 H1 locs1 → W p l e R s m args below meth c H1 locs1 cells slots Q (F0 m (pc + 3) ls rest)) : W p l e R s m args below meth c H locs cells slots Q (F0 m pc ls (v :: .ref (ad b o) :: rest)) := by
  obtain ⟨q0, h0⟩ := rp_get (ad := ad) (E := E) hm
  have h1 := h0
  rw [he] at h1
  exact va_put hexec hb hts hin ty0 hty hnm hown hK hP hD hS0 q0 h1 hc k hk hlink hsame hfin hd hn hfit hl hdg (by rw [rp_set hD hm h0]; exact kk)
theorem px_putF (hexec : p.tables.exec = Jvm.exec) (hb : c.code = cc) {own ref C : String} {T : u_T} {N ci index : Nat} {Ts : List Cond} (hts : ∀ w ∈ Ts, w.before args s = true) (hin : ∀ w ∈ u_ws C T N, w ∈ Ts) (ty0 : Nat → FieldType) (hty : ∀ k, k < N → parseFieldDescriptor (T k).2.2.1 = some (ty0 k)) (hnm : ∀ a, a < N → ∀ b, b < N → a ≠ b → (T a).2.1 ≠ (T b).2.1) (hown : s.vm.findClass own = some m.cls) (hK : va_K D cl tys s) (hP : va_P D cl (rp ad E RL) H) (hD : va_D A (rp ad E RL)) (hS0 : va_S A H0 H locs) (hm : (b, o) ∈ RL) {fs : List Value} (he : E b o = .inr (ci, fs)) (hc : cl[ci]? = some (C, T, N)) (k : Nat) (hk : k < N) (hlink : (Cond.fieldLink own index ref (T k).2.1 (T k).2.2.1).before args s = true) (hsame : ∀ x, s.fieldFound? (T k).1 (T k).2.1 (T k).2.2.1 = some x → s.fieldFound? ref (T k).2.1 (T k).2.2.1 = some x) (hfin : (T k).2.2.2 = true) (hin2 : meth.name = "<init>") (hdecl : (T k).1 = own) {ty : FieldType} {v : Value} (hd : parseFieldDescriptor (T k).2.2.1 = some ty) (hn : narrow ty v = v) (hfit : fits ty v = true) (hl : k < fs.length) (hdg : decode cc pc = .ok (.putfield index, 3))
    (kk : ∀ (H1 : Heap) (locs1 : List Loc), va_P D cl (rp ad (up2 E b o (.inr (ci, fs.set k v))) RL) H1 → va_D A (rp ad (up2 E b o (.inr (ci, fs.set k v))) RL) → va_S A H0 H1 locs1 → W p l e R s m args below meth c H1 locs1 cells slots Q (F0 m (pc + 3) ls rest)) : W p l e R s m args below meth c H locs cells slots Q (F0 m pc ls (v :: .ref (ad b o) :: rest)) := by
  obtain ⟨q0, h0⟩ := rp_get (ad := ad) (E := E) hm
  have h1 := h0
  rw [he] at h1
  exact va_putF hexec hb hts hin ty0 hty hnm hown hK hP hD hS0 q0 h1 hc k hk hlink hsame hfin hin2 hdecl hd hn hfit hl hdg (by rw [rp_set hD hm h0]; exact kk)
theorem px_iald (hexec : p.tables.exec = Jvm.exec) (hb : c.code = cc) (hK : va_K D cl tys s) (hP : va_P D cl (rp ad E RL) H) (hm : (b, o) ∈ RL) {cA : ClassId} {n : Nat} {f : Nat → Int32} (he : E b o = .inl (cA, n, .inl f)) (t0 : Nat) (ht : tys[t0]? = some (cA, .int)) {i : Nat} (hi : i < n) (hn : n < 2147483648) (hdg : decode cc pc = .ok (.iaload, 1))
    (kk : W p l e R s m args below meth c H locs cells slots Q (F0 m (pc + 1) ls (.int (f i) :: rest))) : W p l e R s m args below meth c H locs cells slots Q (F0 m pc ls (.int (nI i) :: .ref (ad b o) :: rest)) := by
  obtain ⟨q0, h0⟩ := rp_get (ad := ad) (E := E) hm
  rw [he] at h0
  exact xn_iald hexec hb hK hP q0 t0 h0 ht hi hn hdg kk
theorem px_zald (hexec : p.tables.exec = Jvm.exec) (hb : c.code = cc) (hK : va_K D cl tys s) (hP : va_P D cl (rp ad E RL) H) (hm : (b, o) ∈ RL) {cA : ClassId} {n : Nat} {f : Nat → Int32} (he : E b o = .inl (cA, n, .inl f)) (t0 : Nat) (ht : tys[t0]? = some (cA, .boolean)) {i : Nat} (hi : i < n) (hn : n < 2147483648) (hdg : decode cc pc = .ok (.baload, 1))
    (kk : W p l e R s m args below meth c H locs cells slots Q (F0 m (pc + 1) ls (.int (f i) :: rest))) : W p l e R s m args below meth c H locs cells slots Q (F0 m pc ls (.int (nI i) :: .ref (ad b o) :: rest)) := by
  obtain ⟨q0, h0⟩ := rp_get (ad := ad) (E := E) hm
  rw [he] at h0
  exact xn_zald hexec hb hK hP q0 t0 h0 ht hi hn hdg kk
theorem px_cald (hexec : p.tables.exec = Jvm.exec) (hb : c.code = cc) (hK : va_K D cl tys s) (hP : va_P D cl (rp ad E RL) H) (hm : (b, o) ∈ RL) {cA : ClassId} {n : Nat} {f : Nat → Int32} (he : E b o = .inl (cA, n, .inl f)) (t0 : Nat) (ht : tys[t0]? = some (cA, .char)) {i : Nat} (hi : i < n) (hn : n < 2147483648) (hdg : decode cc pc = .ok (.caload, 1))
    (kk : W p l e R s m args below meth c H locs cells slots Q (F0 m (pc + 1) ls (.int (f i) :: rest))) : W p l e R s m args below meth c H locs cells slots Q (F0 m pc ls (.int (nI i) :: .ref (ad b o) :: rest)) := by
  obtain ⟨q0, h0⟩ := rp_get (ad := ad) (E := E) hm
  rw [he] at h0
  exact xn_cald hexec hb hK hP q0 t0 h0 ht hi hn hdg kk
theorem px_iast (hexec : p.tables.exec = Jvm.exec) (hb : c.code = cc) (hK : va_K D cl tys s) (hP : va_P D cl (rp ad E RL) H) (hD : va_D A (rp ad E RL)) (hS : va_S A H0 H locs) (hm : (b, o) ∈ RL) {cA : ClassId} {n : Nat} {f : Nat → Int32} (he : E b o = .inl (cA, n, .inl f)) (t0 : Nat) (ht : tys[t0]? = some (cA, .int)) {i : Nat} {x : Int32} (hi : i < n) (hn : n < 2147483648) (hdg : decode cc pc = .ok (.iastore, 1))
    (kk : ∀ (H1 : Heap) (locs1 : List Loc), va_P D cl (rp ad (up2 E b o (.inl (cA, n, .inl (upd f i x)))) RL) H1 → va_D A (rp ad (up2 E b o (.inl (cA, n, .inl (upd f i x)))) RL) → va_S A H0 H1 locs1 → W p l e R s m args below meth c H1 locs1 cells slots Q (F0 m (pc + 1) ls rest)) : W p l e R s m args below meth c H locs cells slots Q (F0 m pc ls (.int x :: .int (nI i) :: .ref (ad b o) :: rest)) := by
  obtain ⟨q0, h0⟩ := rp_get (ad := ad) (E := E) hm
  have h1 := h0
  rw [he] at h1
  exact xn_iast hexec hb hK hP hD hS q0 t0 h1 ht hi hn hdg (by rw [rp_set hD hm h0]; exact kk)
theorem px_zast (hexec : p.tables.exec = Jvm.exec) (hb : c.code = cc) (hK : va_K D cl tys s) (hP : va_P D cl (rp ad E RL) H) (hD : va_D A (rp ad E RL)) (hS : va_S A H0 H locs) (hm : (b, o) ∈ RL) {cA : ClassId} {n : Nat} {f : Nat → Int32} (he : E b o = .inl (cA, n, .inl f)) (t0 : Nat) (ht : tys[t0]? = some (cA, .boolean)) {i : Nat} {x : Int32} (hi : i < n) (hn : n < 2147483648) (hdg : decode cc pc = .ok (.bastore, 1))
    (kk : ∀ (H1 : Heap) (locs1 : List Loc), va_P D cl (rp ad (up2 E b o (.inl (cA, n, .inl (upd f i (vp_nar .boolean x))))) RL) H1 → va_D A (rp ad (up2 E b o (.inl (cA, n, .inl (upd f i (vp_nar .boolean x))))) RL) → va_S A H0 H1 locs1 → W p l e R s m args below meth c H1 locs1 cells slots Q (F0 m (pc + 1) ls rest)) : W p l e R s m args below meth c H locs cells slots Q (F0 m pc ls (.int x :: .int (nI i) :: .ref (ad b o) :: rest)) := by
  obtain ⟨q0, h0⟩ := rp_get (ad := ad) (E := E) hm
  have h1 := h0
  rw [he] at h1
  exact xn_zast hexec hb hK hP hD hS q0 t0 h1 ht hi hn hdg (by rw [rp_set hD hm h0]; exact kk)
theorem px_cast (hexec : p.tables.exec = Jvm.exec) (hb : c.code = cc) (hK : va_K D cl tys s) (hP : va_P D cl (rp ad E RL) H) (hD : va_D A (rp ad E RL)) (hS : va_S A H0 H locs) (hm : (b, o) ∈ RL) {cA : ClassId} {n : Nat} {f : Nat → Int32} (he : E b o = .inl (cA, n, .inl f)) (t0 : Nat) (ht : tys[t0]? = some (cA, .char)) {i : Nat} {x : Int32} (hi : i < n) (hn : n < 2147483648) (hdg : decode cc pc = .ok (.castore, 1))
    (kk : ∀ (H1 : Heap) (locs1 : List Loc), va_P D cl (rp ad (up2 E b o (.inl (cA, n, .inl (upd f i (vp_nar .char x))))) RL) H1 → va_D A (rp ad (up2 E b o (.inl (cA, n, .inl (upd f i (vp_nar .char x))))) RL) → va_S A H0 H1 locs1 → W p l e R s m args below meth c H1 locs1 cells slots Q (F0 m (pc + 1) ls rest)) : W p l e R s m args below meth c H locs cells slots Q (F0 m pc ls (.int x :: .int (nI i) :: .ref (ad b o) :: rest)) := by
  obtain ⟨q0, h0⟩ := rp_get (ad := ad) (E := E) hm
  have h1 := h0
  rw [he] at h1
  exact xn_cast hexec hb hK hP hD hS q0 t0 h1 ht hi hn hdg (by rw [rp_set hD hm h0]; exact kk)
theorem px_aald (hexec : p.tables.exec = Jvm.exec) (hb : c.code = cc) (hK : va_K D cl tys s) (hP : va_P D cl (rp ad E RL) H) (hm : (b, o) ∈ RL) {cA : ClassId} {C : String} {n : Nat} {f : Nat → Option Nat} (he : E b o = .inl (cA, n, .inr (.inr (.inr (.inr f))))) (t0 : Nat) (ht : tys[t0]? = some (cA, .object C)) {i : Nat} {x : Option Nat} (hf : f i = x) (hi : i < n) (hn : n < 2147483648) (hdg : decode cc pc = .ok (.aaload, 1))
    (kk : W p l e R s m args below meth c H locs cells slots Q (F0 m (pc + 1) ls (va_rf x :: rest))) : W p l e R s m args below meth c H locs cells slots Q (F0 m pc ls (.int (nI i) :: .ref (ad b o) :: rest)) := by
  obtain ⟨q0, h0⟩ := rp_get (ad := ad) (E := E) hm
  rw [he] at h0
  exact va_aldq hexec hb hK hP q0 t0 h0 ht (vp_in_nI hi hn) hdg (by rw [nI_clamp (n := i) (by rw [xb_31]; omega), hf]; exact kk)
theorem px_aast (hexec : p.tables.exec = Jvm.exec) (hb : c.code = cc) (hK : va_K D cl tys s) (hP : va_P D cl (rp ad E RL) H) (hD : va_D A (rp ad E RL)) (hS : va_S A H0 H locs) (hm : (b, o) ∈ RL) {cA : ClassId} {n : Nat} {f : Nat → Option Nat} (he : E b o = .inl (cA, n, .inr (.inr (.inr (.inr f))))) (t0 : Nat) {r : vw_C} (ht : tys[t0]? = some (cA, .object r.1)) {b2 o2 ci : Nat} {vs : List Value} (hm2 : (b2, o2) ∈ RL) (hv : E b2 o2 = .inr (ci, vs)) (hc : cl[ci]? = some r) {i : Nat} (hi : i < n) (hn : n < 2147483648) (hdg : decode cc pc = .ok (.aastore, 1))
    (kk : ∀ (H1 : Heap) (locs1 : List Loc), va_P D cl (rp ad (up2 E b o (.inl (cA, n, .inr (.inr (.inr (.inr (va_up f i (some (ad b2 o2))))))))) RL) H1 → va_D A (rp ad (up2 E b o (.inl (cA, n, .inr (.inr (.inr (.inr (va_up f i (some (ad b2 o2))))))))) RL) → va_S A H0 H1 locs1 → W p l e R s m args below meth c H1 locs1 cells slots Q (F0 m (pc + 1) ls rest)) : W p l e R s m args below meth c H locs cells slots Q (F0 m pc ls (.ref (ad b2 o2) :: .int (nI i) :: .ref (ad b o) :: rest)) := by
  obtain ⟨q0, h0⟩ := rp_get (ad := ad) (E := E) hm
  obtain ⟨q1, h2⟩ := rp_get (ad := ad) (E := E) hm2
  have h1 := h0
  rw [he] at h1
  rw [hv] at h2
  exact va_astq hexec hb hK hP hD hS q0 t0 q1 ci h1 ht h2 hc (vp_in_nI hi hn) hdg (by rw [nI_clamp (n := i) (by rw [xb_31]; omega), rp_set hD hm h0]; exact kk)
theorem px_aastN (hexec : p.tables.exec = Jvm.exec) (hb : c.code = cc) (hK : va_K D cl tys s) (hP : va_P D cl (rp ad E RL) H) (hD : va_D A (rp ad E RL)) (hS : va_S A H0 H locs) (hm : (b, o) ∈ RL) {cA : ClassId} {n : Nat} {f : Nat → Option Nat} (he : E b o = .inl (cA, n, .inr (.inr (.inr (.inr f))))) (t0 : Nat) {C : String} (ht : tys[t0]? = some (cA, .object C)) {i : Nat} (hi : i < n) (hn : n < 2147483648) (hdg : decode cc pc = .ok (.aastore, 1))
    (kk : ∀ (H1 : Heap) (locs1 : List Loc), va_P D cl (rp ad (up2 E b o (.inl (cA, n, .inr (.inr (.inr (.inr (va_up f i none))))))) RL) H1 → va_D A (rp ad (up2 E b o (.inl (cA, n, .inr (.inr (.inr (.inr (va_up f i none))))))) RL) → va_S A H0 H1 locs1 → W p l e R s m args below meth c H1 locs1 cells slots Q (F0 m (pc + 1) ls rest)) : W p l e R s m args below meth c H locs cells slots Q (F0 m pc ls (.null :: .int (nI i) :: .ref (ad b o) :: rest)) := by
  obtain ⟨q0, h0⟩ := rp_get (ad := ad) (E := E) hm
  have h1 := h0
  rw [he] at h1
  exact va_astqN hexec hb hK hP hD hS q0 t0 h1 ht (vp_in_nI hi hn) hdg (by rw [nI_clamp (n := i) (by rw [xb_31]; omega), rp_set hD hm h0]; exact kk)
theorem px_alen (hexec : p.tables.exec = Jvm.exec) (hb : c.code = cc) (hK : va_K D cl tys s) (hP : va_P D cl (rp ad E RL) H) (hm : (b, o) ∈ RL) {cA : ClassId} {x : vp_A} (he : E b o = .inl (cA, x)) (t0 : Nat) {ty : FieldType} (ht : tys[t0]? = some (cA, ty)) (hdg : decode cc pc = .ok (.arraylength, 1))
    (kk : W p l e R s m args below meth c H locs cells slots Q (F0 m (pc + 1) ls (.int (nI x.1) :: rest))) : W p l e R s m args below meth c H locs cells slots Q (F0 m pc ls (.ref (ad b o) :: rest)) := by
  obtain ⟨q0, h0⟩ := rp_get (ad := ad) (E := E) hm
  rw [he] at h0
  exact va_alen hexec hb hK hP q0 t0 h0 ht (v := nI x.1) rfl hdg kk
theorem px_new {own C : String} {T : u_T} {N ci index : Nat} {Ts : List Cond} (b o : Nat) (hexec : p.tables.exec = Jvm.exec) (hb : c.code = cc) (hts : ∀ w ∈ Ts, w.before args s = true) (hin : ∀ w ∈ u_ws C T N, w ∈ Ts) (ty : Nat → FieldType) (hty : ∀ k, k < N → parseFieldDescriptor (T k).2.2.1 = some (ty k)) (hown : s.vm.findClass own = some m.cls) (hcl : (Cond.classLink own index C).before args s = true) (hinst : (Cond.instantiable C N).before args s = true) (hini : (Cond.initialized C).before args s = true)
    (hK : va_K D cl tys s) (hP : va_P D cl (rp ad E RL) H) (hD : va_D A (rp ad E RL)) (hS : va_S A H0 H locs) (hA : ∀ q, H0.size ≤ q → A q) (hc : cl[ci]? = some (C, T, N)) {fs : List Value} (hfs : ∀ j, j < N → defaultValue (ty j) = vp_V fs j) (hcells : cells + 1 ≤ R.cells) (hslots : slots + N ≤ R.slots) (hdg : decode cc pc = .ok (.new index, 3))
    (kk : ∀ (ad1 : Nat → Nat → Nat) (E1 : Nat → Nat → va_E) (RL1 : List (Nat × Nat)) (H1 : Heap), ad1 = up2 ad b o (ad1 b o) → E1 = up2 E b o (.inr (ci, fs)) → (∀ x ∈ RL, x ∈ RL1) → (b, o) ∈ RL1 → va_P D cl (rp ad1 E1 RL1) H1 → va_D A (rp ad1 E1 RL1) → va_S A H0 H1 locs →
      W p l e R s m args below meth c H1 locs (cells + 1) (slots + N) Q (F0 m (pc + 3) ls (.ref (ad1 b o) :: rest))) : W p l e R s m args below meth c H locs cells slots Q (F0 m pc ls rest) := by
  refine va_new hexec hb hts hin ty hty hown hcl hinst hini hK (rp_del_P b o hP) (rp_del_D b o hD) hS hA hc hfs hcells hslots hdg (fun q H1 hP1 hD1 hS1 => ?_)
  rw [rp_add] at hP1 hD1
  have h := kk _ _ _ H1 (by rw [up2_eq]) rfl radd_sub radd_self hP1 hD1 hS1
  rw [up2_eq] at h
  exact h
theorem px_newa {atype : ArrayType} (b o : Nat) (hexec : p.tables.exec = Jvm.exec) (hb : c.code = cc) (harr : (Cond.arrayClass (newarray.typeOf atype)).before args s = true) {ty : FieldType} (hty : newarray.typeOf atype = ty) (hra : ∀ cA : ClassId, va_RA s cA ty → s.vm.findClass ("[" ++ ty.toString) = some cA) (hK : va_K D cl tys s) (t0 : Nat) {cA0 : ClassId} (ht : tys[t0]? = some (cA0, ty)) (hP : va_P D cl (rp ad E RL) H) (hD : va_D A (rp ad E RL)) (hS : va_S A H0 H locs) (hA : ∀ q, H0.size ≤ q → A q)
    {N' : Nat} {a0 : vp_A} (ha : ∀ cA : ClassId, vp_cell cA a0 = arrV cA N' (fun _ => defaultValue ty)) (hn : N' < 2147483648) (hbytes : N' * componentBytes ty ≤ 536870912) (hcells : cells + 1 ≤ R.cells) (hslots : slots + N' ≤ R.slots) (hdg : decode cc pc = .ok (.newarray atype, 2))
    (kk : ∀ (ad1 : Nat → Nat → Nat) (E1 : Nat → Nat → va_E) (RL1 : List (Nat × Nat)) (H1 : Heap), ad1 = up2 ad b o (ad1 b o) → E1 = up2 E b o (.inl (cA0, a0)) → (∀ x ∈ RL, x ∈ RL1) → (b, o) ∈ RL1 → va_P D cl (rp ad1 E1 RL1) H1 → va_D A (rp ad1 E1 RL1) → va_S A H0 H1 locs →
      W p l e R s m args below meth c H1 locs (cells + 1) (slots + N') Q (F0 m (pc + 2) ls (.ref (ad1 b o) :: rest))) : W p l e R s m args below meth c H locs cells slots Q (F0 m pc ls (.int (nI N') :: rest)) := by
  refine xa_newa (a0 := a0) (N' := N') hexec hb harr hty hra hK t0 ht (rp_del_P b o hP) (rp_del_D b o hD) hS hA ha (nI_pos (by rw [xb_31]; exact hn)) (nI_clamp (by rw [xb_31]; exact hn)) hbytes hcells hslots hdg (fun q H1 hP1 hD1 hS1 => ?_)
  rw [rp_add] at hP1 hD1
  have h := kk _ _ _ H1 (by rw [up2_eq]) rfl radd_sub radd_self hP1 hD1 hS1
  rw [up2_eq] at h
  exact h
theorem px_newq {own C : String} {index : Nat} (b o : Nat) (hexec : p.tables.exec = Jvm.exec) (hb : c.code = cc) (hown : s.vm.findClass own = some m.cls) (hclink : (Cond.classLink own index C).before args s = true) (hover : va_AO C s) (hK : va_K D cl tys s) (t0 : Nat) {cA0 : ClassId} (ht : tys[t0]? = some (cA0, .object C)) (hP : va_P D cl (rp ad E RL) H) (hD : va_D A (rp ad E RL)) (hS : va_S A H0 H locs) (hA : ∀ q, H0.size ≤ q → A q)
    {N' : Nat} (hn : N' < 2147483648) (hbytes : N' * 4 ≤ 536870912) (hcells : cells + 1 ≤ R.cells) (hslots : slots + N' ≤ R.slots) (hdg : decode cc pc = .ok (.anewarray index, 3))
    (kk : ∀ (ad1 : Nat → Nat → Nat) (E1 : Nat → Nat → va_E) (RL1 : List (Nat × Nat)) (H1 : Heap), ad1 = up2 ad b o (ad1 b o) → E1 = up2 E b o (.inl (cA0, N', .inr (.inr (.inr (.inr (fun _ => none)))))) → (∀ x ∈ RL, x ∈ RL1) → (b, o) ∈ RL1 → va_P D cl (rp ad1 E1 RL1) H1 → va_D A (rp ad1 E1 RL1) → va_S A H0 H1 locs →
      W p l e R s m args below meth c H1 locs (cells + 1) (slots + N') Q (F0 m (pc + 3) ls (.ref (ad1 b o) :: rest))) : W p l e R s m args below meth c H locs cells slots Q (F0 m pc ls (.int (nI N') :: rest)) := by
  refine xa_newq (N' := N') hexec hb hown hclink hover hK t0 ht (rp_del_P b o hP) (rp_del_D b o hD) hS hA (nI_pos (by rw [xb_31]; exact hn)) (nI_clamp (by rw [xb_31]; exact hn)) hbytes hcells hslots hdg (fun q H1 hP1 hD1 hS1 => ?_)
  rw [rp_add] at hP1 hD1
  have h := kk _ _ _ H1 (by rw [up2_eq]) rfl radd_sub radd_self hP1 hD1 hS1
  rw [up2_eq] at h
  exact h
theorem xlabC {σ : Type} {ml : Nat} (pc0 : Nat) (lv : σ → List (Nat × Value)) (stk : σ → List Value) (wl : σ → va_W) (cs ss : σ → Nat) (I : σ → Prop) (μ : σ → Nat)
    (step : ∀ (n : Nat) (ih : ∀ (b : σ) (ls : Array Slot) (H : Heap) (locs : List Loc), μ b < n → lv_has ls ml (lv b) → va_P D cl (wl b) H → va_D A (wl b) → va_S A H0 H locs → I b → W p l e R s m args below meth c H locs (cs b) (ss b) Q (F0 m pc0 ls (stk b))) (a : σ) (ls : Array Slot) (H : Heap) (locs : List Loc), μ a = n → lv_has ls ml (lv a) → va_P D cl (wl a) H → va_D A (wl a) → va_S A H0 H locs → I a → W p l e R s m args below meth c H locs (cs a) (ss a) Q (F0 m pc0 ls (stk a)))
    (a : σ) (ls : Array Slot) (H : Heap) (locs : List Loc) (hl : lv_has ls ml (lv a)) (hP : va_P D cl (wl a) H) (hD : va_D A (wl a)) (hS : va_S A H0 H locs) (hI : I a) : W p l e R s m args below meth c H locs (cs a) (ss a) Q (F0 m pc0 ls (stk a)) := by
  have key : ∀ (n : Nat) (a : σ) (ls : Array Slot) (H : Heap) (locs : List Loc), μ a = n → lv_has ls ml (lv a) → va_P D cl (wl a) H → va_D A (wl a) → va_S A H0 H locs → I a → W p l e R s m args below meth c H locs (cs a) (ss a) Q (F0 m pc0 ls (stk a)) := by
    intro n
    induction n using Nat.strongRecOn with
    | ind n ih => exact step n (fun b ls H locs hb => ih (μ b) hb b ls H locs rfl)
  exact key (μ a) a ls H locs rfl hl hP hD hS hI
end XP
