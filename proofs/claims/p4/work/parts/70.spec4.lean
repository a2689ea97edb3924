theorem nI_prs (q : Nat) : nI q - 1 + 1 = nI q := by
  rw [Int32.sub_eq_add_neg, Int32.add_assoc, show (-1 : Int32) + 1 = 0 by decide, Int32.add_zero]
noncomputable def lkf (nm : Nat → Int32) (mc : Nat → Nat) (md : Nat → Nat → Nat) (pr : Nat → Nat) : Nat → Nat → Int32 → Option (Nat × Nat)
  | 0, _, _ => none
  | _ + 1, 0, _ => none
  | f + 1, la + 1, n => match ff (fun k => nm (md la k) = n) (mc la) with
    | some k => some (la, md la k)
    | none => lkf nm mc md pr f (pr la) n
theorem lkf_0 {nm : Nat → Int32} {mc : Nat → Nat} {md : Nat → Nat → Nat} {pr : Nat → Nat} {n : Int32} : ∀ f, lkf nm mc md pr f 0 n = none
  | 0 => rfl
  | _ + 1 => rfl
theorem lkf_same {nm nm2 : Nat → Int32} {mc mc2 : Nat → Nat} {md md2 : Nat → Nat → Nat} {pr pr2 : Nat → Nat} {n : Int32} : ∀ (f f2 lq : Nat), lq ≤ f → lq ≤ f2 → (∀ la, la < lq → pr la ≤ la) → (∀ la, la < lq → mc2 la = mc la ∧ pr2 la = pr la ∧ ∀ k, k < mc la → md2 la k = md la k ∧ nm2 (md la k) = nm (md la k)) → lkf nm2 mc2 md2 pr2 f2 lq n = lkf nm mc md pr f lq n
  | f, f2, 0, _, _, _, _ => by rw [lkf_0, lkf_0]
  | 0, _, la + 1, h, _, _, _ => absurd h (by omega)
  | _ + 1, 0, la + 1, _, h, _, _ => absurd h (by omega)
  | f + 1, f2 + 1, la + 1, h1, h2, hp, he => by
    obtain ⟨e1, e2, e3⟩ := he la (by omega)
    have hpl := hp la (by omega)
    have ih := lkf_same (nm := nm) (nm2 := nm2) (mc := mc) (mc2 := mc2) (md := md) (md2 := md2) (pr := pr) (pr2 := pr2) (n := n) f f2 (pr la) (by omega) (by omega) (fun x hx => hp x (by omega)) (fun x hx => he x (by omega))
    have ef : ff (fun k => nm2 (md2 la k) = n) (mc2 la) = ff (fun k => nm (md la k) = n) (mc la) := by
      rw [e1]
      exact ff_congr fun j hj => by rw [(e3 j hj).1, (e3 j hj).2]
    unfold lkf
    rw [ef]
    cases hq : ff (fun k => nm (md la k) = n) (mc la) with
    | none => simp only; rw [e2]; exact ih
    | some k => simp only; rw [(e3 k (ff_is hq).1).1]
noncomputable def lkU (nm : Nat → Int32) (mc : Nat → Nat) (md : Nat → Nat → Nat) (pr : Nat → Nat) (lq : Nat) (n : Int32) : Option (Nat × Nat) := lkf nm mc md pr lq lq n
theorem lkU_hit {nm : Nat → Int32} {mc : Nat → Nat} {md : Nat → Nat → Nat} {pr : Nat → Nat} {la k : Nat} {n : Int32} (hk : k < mc la) (h : nm (md la k) = n) (hn : ∀ j, j < k → ¬ nm (md la j) = n) : lkU nm mc md pr (la + 1) n = some (la, md la k) := by
  unfold lkU lkf
  rw [ff_some hk h hn]
theorem lkU_miss {nm : Nat → Int32} {mc : Nat → Nat} {md : Nat → Nat → Nat} {pr : Nat → Nat} {la : Nat} {n : Int32} (hp : ∀ x, x < la + 1 → pr x ≤ x) (hn : ∀ j, j < mc la → ¬ nm (md la j) = n) : lkU nm mc md pr (la + 1) n = lkU nm mc md pr (pr la) n := by
  have h1 := hp la (by omega)
  show lkf nm mc md pr (la + 1) (la + 1) n = lkf nm mc md pr (pr la) (pr la) n
  conv => lhs; unfold lkf
  rw [ff_none hn]
  exact lkf_same _ _ _ (Nat.le_refl _) (by omega) (fun x hx => hp x (by omega)) (fun x hx => ⟨rfl, rfl, fun k hk => ⟨rfl, rfl⟩⟩)
def mcv (g : gT) (la : Nat) : Nat := iN (g 20 la)
def mdv (g : gT) (la k : Nat) : Nat := iN (g 21 (12 * la + k))
def prv (g : gT) (la : Nat) : Nat := iN (g 19 la + 1)
noncomputable def lkG (g : gT) (lq : Nat) (n : Int32) : Option (Nat × Nat) := lkU (g 4) (mcv g) (mdv g) (prv g) lq n
theorem lkG_0 {g : gT} {n : Int32} : lkG g 0 n = none := rfl
theorem prv_of {g : gT} {la q : Nat} (h : g 19 la = nI q - 1) (hq : q < 2147483648) : prv g la = q := by
  unfold prv; rw [h, nI_prs, iN_nI hq]
theorem prv_le {g : gT} {np : Nat} (hnp : np ≤ 6) (h : ∀ la, la < np → ∃ lq, lq ≤ la ∧ g 19 la = nI lq - 1) : ∀ la, la < np → prv g la ≤ la := fun la hla => by
  obtain ⟨q, h1, h2⟩ := h la hla
  rw [prv_of h2 (by omega)]; exact h1
theorem lkG_hit {g : gT} {lq i k mk : Nat} {n : Int32} (h0 : 0 < lq) (em : g 20 (lq - 1) = nI mk) (hm : mk ≤ 12) (h1 : 12 * (lq - 1) ≤ i) (h2 : i < 12 * (lq - 1) + mk) (ek : g 21 i = nI k) (hk : k < 12) (hno : ∀ j, j < i - 12 * (lq - 1) → ¬ g 4 (mdv g (lq - 1) j) = n) (hn : g 4 k = n) : lkG g lq n = some (lq - 1, k) := by
  have e : mdv g (lq - 1) (i - 12 * (lq - 1)) = k := by
    unfold mdv
    rw [show 12 * (lq - 1) + (i - 12 * (lq - 1)) = i by omega, ek, iN_nI (by omega)]
  have q := lkU_hit (nm := g 4) (mc := mcv g) (md := mdv g) (pr := prv g) (la := lq - 1) (k := i - 12 * (lq - 1)) (n := n) (by unfold mcv; rw [em, iN_nI (by omega)]; omega) (by rw [e]; exact hn) hno
  rw [e, show lq - 1 + 1 = lq by omega] at q
  exact q
theorem lkG_miss {g : gT} {lq np q9 mk : Nat} {n : Int32} (hnp : np ≤ 6) (hpar : ∀ la, la < np → ∃ lq, lq ≤ la ∧ g 19 la = nI lq - 1) (h0 : 0 < lq) (hl : lq ≤ np) (em : g 20 (lq - 1) = nI mk) (hm : mk ≤ 12) (eq9 : g 19 (lq - 1) = nI q9 - 1) (hq9 : q9 ≤ 6) (hno : ∀ j, j < mk → ¬ g 4 (mdv g (lq - 1) j) = n) : lkG g lq n = lkG g q9 n := by
  have q := lkU_miss (nm := g 4) (mc := mcv g) (md := mdv g) (pr := prv g) (la := lq - 1) (n := n) (fun x hx => prv_le hnp hpar x (by omega)) (by unfold mcv; rw [em, iN_nI (by omega)]; exact hno)
  rw [show lq - 1 + 1 = lq by omega, prv_of eq9 (by omega)] at q
  exact q
theorem mdv_step {g : gT} {la i k : Nat} {n : Int32} (h1 : 12 * la ≤ i) (ek : g 21 i = nI k) (hk : k < 12) (hn : ¬ g 4 k = n) (hno : ∀ j, j < i - 12 * la → ¬ g 4 (mdv g la j) = n) : ∀ j, j < i + 1 - 12 * la → ¬ g 4 (mdv g la j) = n := fun j hj => by
  rcases Nat.lt_or_ge j (i - 12 * la) with q | q
  · exact hno j q
  · have e : j = i - 12 * la := by omega
    subst e
    unfold mdv
    rw [show 12 * la + (i - 12 * la) = i by omega, ek, iN_nI (by omega)]; exact hn
def RW (g g1 : gT) (nl : Nat) : Prop := ∀ la, la < nl → g1 20 la = g 20 la ∧ ∀ k, k < 12 → g1 21 (12 * la + k) = g 21 (12 * la + k)
theorem RW_rf {g : gT} {nl : Nat} : RW g g nl := fun la _ => ⟨rfl, fun _ _ => rfl⟩
theorem RW_tr {g g1 g2 : gT} {nl : Nat} (h : RW g g1 nl) (h2 : RW g1 g2 nl) : RW g g2 nl := fun la hl => ⟨(h2 la hl).1.trans (h la hl).1, fun k hk => ((h2 la hl).2 k hk).trans ((h la hl).2 k hk)⟩
theorem lkG_row {g g1 : gT} {nl lq np : Nat} {n : Int32} (hnp : np ≤ 6) (hpar : ∀ la, la < np → ∃ lq, lq ≤ la ∧ g 19 la = nI lq - 1) (hlq : lq ≤ np) (hlq2 : lq ≤ nl) (h : RW g g1 nl) (h4 : g1 4 = g 4) (h19 : g1 19 = g 19) (hmd : ∀ la, la < 6 → ∃ k, k ≤ 12 ∧ g 20 la = nI k ∧ ∀ j, j < k → ∃ d, d < 12 ∧ g 21 (12 * la + j) = nI d) : lkG g1 lq n = lkG g lq n := by
  unfold lkG lkU
  refine lkf_same _ _ _ (Nat.le_refl _) (Nat.le_refl _) (fun la hla => prv_le hnp hpar la (by omega)) (fun la hla => ?_)
  obtain ⟨k, h1, h2, _⟩ := hmd la (by omega)
  obtain ⟨r1, r2⟩ := h la (by omega)
  refine ⟨by unfold mcv; rw [r1], by unfold prv; rw [h19], fun j hj => ?_⟩
  unfold mcv at hj
  rw [h2, iN_nI (by omega)] at hj
  refine ⟨by unfold mdv; rw [r2 j (by omega)], by rw [h4]⟩
def aF (F : List Nat → Int32 → Bool × List Nat) : List Nat → List Int32 → Bool × List Nat
  | L, [] => (true, L)
  | L, n :: S => match F L n with
    | (true, L2) => aF F L2 S
    | (false, L2) => (false, L2)
def aN (ds : Int32 → Option Nat) (up : Int32 → Bool) (rq : Nat → List Int32) : Nat → List Nat → Int32 → Bool × List Nat
  | 0, L, n => match ds n with
    | none => (up n, L)
    | some d => if d ∈ L then (true, L) else (false, L)
  | f + 1, L, n => match ds n with
    | none => (up n, L)
    | some d => if d ∈ L then (true, L) else aF (aN ds up rq f) (L ++ [d]) (rq d)
theorem aF_one {F : List Nat → Int32 → Bool × List Nat} {L : List Nat} {n : Int32} : aF F L [n] = F L n := by
  unfold aF
  rcases F L n with ⟨b, L2⟩
  cases b
  · rfl
  · rfl
theorem aF_app {F : List Nat → Int32 → Bool × List Nat} {S2 : List Int32} : ∀ {S : List Int32} {L : List Nat}, aF F L (S ++ S2) = match aF F L S with
    | (true, L2) => aF F L2 S2
    | (false, L2) => (false, L2)
  | [], _ => rfl
  | n :: S, L => by
    have e1 : aF F L ((n :: S) ++ S2) = match F L n with
      | (true, L2) => aF F L2 (S ++ S2)
      | (false, L2) => (false, L2) := rfl
    have e2 : aF F L (n :: S) = match F L n with
      | (true, L2) => aF F L2 S
      | (false, L2) => (false, L2) := rfl
    rw [e1, e2]
    rcases F L n with ⟨b, L2⟩
    cases b
    · rfl
    · exact aF_app (S := S) (L := L2)
theorem aF_keep {F : List Nat → Int32 → Bool × List Nat} {P : List Nat → Prop} (hp : ∀ L n, P L → P (F L n).2) : ∀ {S : List Int32} {L : List Nat}, P L → P (aF F L S).2
  | [], _, h => h
  | n :: S, L, h => by
    have h2 := hp L n h
    unfold aF
    cases hq : F L n with
    | mk b L2 =>
      rw [hq] at h2
      cases b
      · exact h2
      · exact aF_keep hp (S := S) h2
theorem aF_congr {F G : List Nat → Int32 → Bool × List Nat} {P : List Nat → Prop} (h : ∀ L n, P L → F L n = G L n) (hp : ∀ L n, P L → P (F L n).2) : ∀ {S : List Int32} {L : List Nat}, P L → aF F L S = aF G L S
  | [], _, _ => rfl
  | n :: S, L, hl => by
    have h2 := hp L n hl
    unfold aF
    rw [← h L n hl]
    cases hq : F L n with
    | mk b L2 =>
      rw [hq] at h2
      cases b
      · rfl
      · exact aF_congr h hp (S := S) h2
def GL (nd : Nat) (L : List Nat) : Prop := (∀ d ∈ L, d < nd) ∧ L.Nodup
theorem GL_nil {nd : Nat} : GL nd [] := ⟨fun d hd => (List.not_mem_nil hd).elim, List.nodup_nil⟩
theorem GL_add {nd d : Nat} {L : List Nat} (h : GL nd L) (hd : d < nd) (hn : d ∉ L) : GL nd (L ++ [d]) := by
  refine ⟨fun x hx => ?_, List.nodup_append.mpr ⟨h.2, by simp, fun a ha b hb => ?_⟩⟩
  · rcases List.mem_append.mp hx with q | q
    · exact h.1 x q
    · rw [List.mem_singleton] at q; omega
  · rw [List.mem_singleton] at hb
    intro e
    exact hn (by rw [← hb, ← e]; exact ha)
theorem GL_len {nd : Nat} {L : List Nat} (h : GL nd L) : L.length ≤ nd := by
  refine x_pigeon nd L.length (fun i => L.getD i 0) (fun i hi => ?_) (fun i j hi hj e => ?_)
  · rw [List.getD_eq_getElem?_getD, List.getElem?_eq_getElem hi]; exact h.1 _ (List.getElem_mem hi)
  · have e : L.getD i 0 = L.getD j 0 := e
    rw [List.getD_eq_getElem?_getD, List.getElem?_eq_getElem hi, List.getD_eq_getElem?_getD, List.getElem?_eq_getElem hj] at e
    exact (List.getElem_inj h.2).mp e
theorem GL_full {nd d : Nat} {L : List Nat} (h : GL nd L) (hl : nd ≤ L.length) (hd : d < nd) : d ∈ L := by
  refine Decidable.byContradiction fun q => ?_
  have := GL_len (GL_add h hd q)
  rw [List.length_append] at this
  simp only [List.length_cons, List.length_nil] at this
  omega
theorem aN_keep {ds : Int32 → Option Nat} {up : Int32 → Bool} {rq : Nat → List Int32} {P : List Nat → Prop} (hP : ∀ L n d, P L → ds n = some d → d ∉ L → P (L ++ [d])) : ∀ {f : Nat} {L : List Nat} {n : Int32}, P L → P (aN ds up rq f L n).2
  | 0, L, n, h => by
    unfold aN
    split
    · exact h
    · split
      · exact h
      · exact h
  | f + 1, L, n, h => by
    unfold aN
    split
    · exact h
    · next d hd =>
      split
      · exact h
      · next hn => exact aF_keep (fun L2 n2 h2 => aN_keep hP h2) (hP L n d h hd hn)
theorem aN_good {ds : Int32 → Option Nat} {up : Int32 → Bool} {rq : Nat → List Int32} {nd f : Nat} {L : List Nat} {n : Int32} (hds : ∀ n d, ds n = some d → d < nd) (h : GL nd L) : GL nd (aN ds up rq f L n).2 := aN_keep (P := GL nd) (fun L n d h h1 h2 => GL_add h (hds n d h1) h2) h
theorem aN_pre {ds : Int32 → Option Nat} {up : Int32 → Bool} {rq : Nat → List Int32} {f : Nat} {L : List Nat} {n : Int32} : ∃ T, (aN ds up rq f L n).2 = L ++ T := aN_keep (P := fun L2 => ∃ T, L2 = L ++ T) (fun L2 n d ⟨T, e⟩ _ _ => ⟨T ++ [d], by rw [e, List.append_assoc]⟩) ⟨[], (List.append_nil L).symm⟩
theorem aN_fuel {ds : Int32 → Option Nat} {up : Int32 → Bool} {rq : Nat → List Int32} {nd : Nat} (hds : ∀ n d, ds n = some d → d < nd) : ∀ {f : Nat} {L : List Nat} {n : Int32}, GL nd L → nd ≤ f + L.length → aN ds up rq f L n = aN ds up rq (f + 1) L n
  | 0, L, n, h, hl => by
    unfold aN
    cases hd : ds n with
    | none => rfl
    | some d =>
      have := GL_full h (by omega) (hds n d hd)
      simp only
      rw [if_pos this, if_pos this]
  | f + 1, L, n, h, hl => by
    unfold aN
    cases hd : ds n with
    | none => rfl
    | some d =>
      simp only
      by_cases q : d ∈ L
      · rw [if_pos q, if_pos q]
      · rw [if_neg q, if_neg q]
        refine aF_congr (P := fun L2 => GL nd L2 ∧ nd ≤ f + L2.length) (fun L2 n2 h2 => aN_fuel hds h2.1 h2.2) (fun L2 n2 h2 => ⟨aN_good hds h2.1, ?_⟩) ⟨GL_add h (hds n d hd) q, ?_⟩
        · obtain ⟨T, e⟩ := aN_pre (ds := ds) (up := up) (rq := rq) (f := f) (L := L2) (n := n2)
          rw [e, List.length_append]; omega
        · rw [List.length_append]; simp only [List.length_cons, List.length_nil]; omega
theorem aM_up {ds : Int32 → Option Nat} {up : Int32 → Bool} {rq : Nat → List Int32} {f : Nat} {L : List Nat} {n : Int32} {S : List Int32} (h : ds n = none) (hu : up n = true) : aF (aN ds up rq (f + 1)) L (n :: S) = aF (aN ds up rq (f + 1)) L S := by
  have e : aN ds up rq (f + 1) L n = (true, L) := by unfold aN; rw [h]; simp only [hu]
  conv => lhs; unfold aF
  rw [e]
theorem aM_bad {ds : Int32 → Option Nat} {up : Int32 → Bool} {rq : Nat → List Int32} {f : Nat} {L : List Nat} {n : Int32} {S : List Int32} (h : ds n = none) (hu : up n = false) : aF (aN ds up rq (f + 1)) L (n :: S) = (false, L) := by
  have e : aN ds up rq (f + 1) L n = (false, L) := by unfold aN; rw [h]; simp only [hu]
  conv => lhs; unfold aF
  rw [e]
theorem aM_in {ds : Int32 → Option Nat} {up : Int32 → Bool} {rq : Nat → List Int32} {f d : Nat} {L : List Nat} {n : Int32} {S : List Int32} (h : ds n = some d) (hd : d ∈ L) : aF (aN ds up rq (f + 1)) L (n :: S) = aF (aN ds up rq (f + 1)) L S := by
  have e : aN ds up rq (f + 1) L n = (true, L) := by unfold aN; rw [h]; simp only; rw [if_pos hd]
  conv => lhs; unfold aF
  rw [e]
theorem aM_new {ds : Int32 → Option Nat} {up : Int32 → Bool} {rq : Nat → List Int32} {nd f d : Nat} {L : List Nat} {n : Int32} {S : List Int32} (hds : ∀ n d, ds n = some d → d < nd) (hG : GL nd L) (hf : nd ≤ f + 1) (h : ds n = some d) (hd : d ∉ L) : aF (aN ds up rq (f + 1)) L (n :: S) = aF (aN ds up rq (f + 1)) (L ++ [d]) (rq d ++ S) := by
  have e : aN ds up rq (f + 1) L n = aF (aN ds up rq (f + 1)) (L ++ [d]) (rq d) := by
    conv => lhs; unfold aN
    rw [h]
    simp only
    rw [if_neg hd]
    refine aF_congr (P := fun L2 => GL nd L2 ∧ nd ≤ f + L2.length) (fun L2 n2 h2 => aN_fuel hds h2.1 h2.2) (fun L2 n2 h2 => ⟨aN_good hds h2.1, ?_⟩) ⟨GL_add hG (hds n d h) hd, ?_⟩
    · obtain ⟨T, e⟩ := aN_pre (ds := ds) (up := up) (rq := rq) (f := f) (L := L2) (n := n2)
      rw [e, List.length_append]; omega
    · rw [List.length_append]; simp only [List.length_cons, List.length_nil]; omega
  rw [aF_app]
  conv => lhs; unfold aF
  rw [e]
