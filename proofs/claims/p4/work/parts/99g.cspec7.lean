theorem aN_no {ds : Int32 → Option Nat} {up : Int32 → Bool} {rq : Nat → List Int32} {f : Nat} {L : List Nat} {n : Int32} (h : ds n = none) : aN ds up rq f L n = (up n, L) := by
  cases f with
  | zero => unfold aN; rw [h]
  | succ f => unfold aN; rw [h]
theorem aN_in {ds : Int32 → Option Nat} {up : Int32 → Bool} {rq : Nat → List Int32} {f d : Nat} {L : List Nat} {n : Int32} (h : ds n = some d) (hd : d ∈ L) : aN ds up rq f L n = (true, L) := by
  cases f with
  | zero => unfold aN; rw [h]; simp only; rw [if_pos hd]
  | succ f => unfold aN; rw [h]; simp only; rw [if_pos hd]
theorem aN_z {ds : Int32 → Option Nat} {up : Int32 → Bool} {rq : Nat → List Int32} {f d : Nat} {L : List Nat} {n : Int32} (hf : f = 0) (h : ds n = some d) (hd : d ∉ L) : aN ds up rq f L n = (false, L) := by
  rw [hf]; unfold aN; rw [h]; simp only; rw [if_neg hd]
theorem aN_s {ds : Int32 → Option Nat} {up : Int32 → Bool} {rq : Nat → List Int32} {f d : Nat} {L : List Nat} {n : Int32} (hf : 0 < f) (h : ds n = some d) (hd : d ∉ L) : aN ds up rq f L n = aF (aN ds up rq (f - 1)) (L ++ [d]) (rq d) := by
  obtain ⟨f2, rfl⟩ : ∃ f2, f = f2 + 1 := ⟨f - 1, by omega⟩
  conv => lhs; unfold aN
  rw [h]; simp only; rw [if_neg hd]; rfl
theorem CX_add {ad : Nat → Nat → Nat} {fc : Nat → Option Nat} {L : List Nat} {d : Nat} (h : ∀ k, k < L.length → fc k = some (ad (1 + L.getD k 0) 0)) : ∀ k, k < (L ++ [d]).length → va_up fc L.length (some (ad (1 + d) 0)) k = some (ad (1 + (L ++ [d]).getD k 0) 0) := fun k hk => by
  rw [len_app] at hk
  by_cases q : k = L.length
  · rw [q, getD_new]; exact vu_eq
  · rw [vu_ne q, getD_app (by omega)]; exact h k (by omega)
