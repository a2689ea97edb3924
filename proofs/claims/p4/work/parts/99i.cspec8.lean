theorem bE_ext {g : gT} {nd lq d : Nat} {fi : Int32} {ok : Nat → Prop} {L : List Nat} : ∃ T, bE (adG g nd fi lq) (g 4) ok d L = L ++ T := by
  unfold bE
  by_cases q : ok d ∧ d ∉ L
  · rw [cif_pos q]
    by_cases q2 : (adG g nd fi lq L (g 4 d)).1 = true
    · rw [if_pos q2]; exact aN_pre
    · rw [if_neg q2]; exact ⟨[], (List.append_nil _).symm⟩
  · rw [cif_neg q]; exact ⟨[], (List.append_nil _).symm⟩
theorem ext_tr {L L2 L3 : List Nat} (h : ∃ T, L2 = L ++ T) (h2 : ∃ T, L3 = L2 ++ T) : ∃ T, L3 = L ++ T := by
  obtain ⟨T, e⟩ := h
  obtain ⟨T2, e2⟩ := h2
  exact ⟨T ++ T2, by rw [e2, e, List.append_assoc]⟩
theorem ext_rf {L : List Nat} : ∃ T, L = L ++ T := ⟨[], (List.append_nil _).symm⟩
theorem bD_ext {g : gT} {nd lq : Nat} {fi : Int32} {ok : Nat → Prop} : ∀ (m d : Nat) (L : List Nat), ∃ T, bD (adG g nd fi lq) (g 4) ok m d L = L ++ T
  | 0, _, _ => ext_rf
  | m + 1, d, L => ext_tr bE_ext (bD_ext m (d + 1) _)
theorem bUs_ext {B : Int32 → List Nat → List Nat} {us : Nat → Int32} (hB : ∀ x L, ∃ T, B x L = L ++ T) : ∀ (m k : Nat) (L : List Nat), ∃ T, bUs B us m k L = L ++ T
  | 0, _, _ => ext_rf
  | m + 1, k, L => by
    refine ext_tr ?_ (bUs_ext hB m (k + 1) _)
    by_cases q : 0 < us k
    · rw [cif_pos q]; exact hB _ _
    · rw [cif_neg q]; exact ext_rf
theorem bUg_ext {g : gT} {nd lq d : Nat} {fi : Int32} {L : List Nat} : ∃ T, bUg g nd fi lq d L = L ++ T := bUs_ext (fun x L => bD_ext _ _ _) _ _ _
theorem bR_ext {U : Nat → List Nat → List Nat} (hU : ∀ d L, ∃ T, U d L = L ++ T) {md : Nat → Nat} : ∀ (m k : Nat) (L : List Nat), ∃ T, bR U md m k L = L ++ T
  | 0, _, _ => ext_rf
  | m + 1, k, L => ext_tr (hU _ _) (bR_ext hU m (k + 1) _)
theorem bA_ext {U : Nat → List Nat → List Nat} (hU : ∀ d L, ∃ T, U d L = L ++ T) {mc : Nat → Nat} {md : Nat → Nat → Nat} {pr : Nat → Nat} : ∀ (f lq : Nat) (L : List Nat), ∃ T, bA U mc md pr f lq L = L ++ T
  | 0, _, _ => ext_rf
  | _ + 1, 0, _ => ext_rf
  | f + 1, la + 1, L => ext_tr (bR_ext hU _ _ _) (bA_ext hU f (pr la) _)
theorem bL_ext {U : Nat → List Nat → List Nat} (hU : ∀ d L, ∃ T, U d L = L ++ T) : ∀ (f k : Nat) (L : List Nat), ∃ T, bL U f k L = L ++ T
  | 0, _, _ => ext_rf
  | f + 1, k, L => by
    unfold bL
    split
    · exact ext_tr (hU _ _) (bL_ext hU f (k + 1) _)
    · exact ext_rf
theorem bO_ext {U : Nat → List Nat → List Nat} (hU : ∀ d L, ∃ T, U d L = L ++ T) {g : gT} {lq : Nat} {L : List Nat} : ∃ T, bO U g lq L = L ++ T := ext_tr (bL_ext hU _ _ _) (bA_ext hU _ _ _)
theorem ext_len {L L2 : List Nat} (h : ∃ T, L2 = L ++ T) (hl : L2.length = L.length) : L2 = L := by
  obtain ⟨T, e⟩ := h
  rw [e, List.length_append] at hl
  have : T = [] := List.eq_nil_of_length_eq_zero (by omega)
  rw [e, this, List.append_nil]
theorem bUs_z {B : Int32 → List Nat → List Nat} {us : Nat → Int32} : ∀ (m k : Nat) (L : List Nat), (∀ j, k ≤ j → j < k + m → ¬ 0 < us j) → bUs B us m k L = L
  | 0, _, _, _ => rfl
  | m + 1, k, L, h => by
    show bUs B us m (k + 1) (cif (0 < us k) (B (us k) L) L) = L
    rw [cif_neg (h k (by omega) (by omega))]
    exact bUs_z m (k + 1) L (fun j h1 h2 => h j (by omega) (by omega))
theorem gv_iff {g : gT} {d n : Nat} {f : Nat → Int32} {x : Int32} (hn : n ≤ 3) (hx : 0 < x) (h : NT n f (fun i => g 15 (3 * d + i))) : (∃ k, k < n ∧ f k = x) ↔ gvP g d x := NT_iff hn (fun q => by rw [q] at hx; exact absurd hx (by decide)) h
theorem CX_cut {ad : Nat → Nat → Nat} {fc : Nat → Option Nat} {L T L2 : List Nat} (e : L2 = L ++ T) (h : ∀ k, k < L2.length → fc k = some (ad (1 + L2.getD k 0) 0)) : ∀ k, k < L.length → fc k = some (ad (1 + L.getD k 0) 0) := fun k hk => by
  have q := h k (by rw [e, List.length_append]; omega)
  rw [q, e, List.getD_eq_getElem?_getD, List.getD_eq_getElem?_getD, List.getElem?_append_left hk]
