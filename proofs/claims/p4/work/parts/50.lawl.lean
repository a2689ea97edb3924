theorem xp_PL {D : va_G} {cl : List vw_C} {X Y : va_W} {H : Heap} (h : va_P D cl (X ++ Y) H) : va_P D cl X H := fun k q hk => h k q (by rw [List.getElem?_append_left (List.getElem?_eq_some_iff.mp hk).1]; exact hk)
theorem xp_DL {A : Nat → Prop} {X Y : va_W} (h : va_D A (X ++ Y)) : va_D A X := ⟨fun i j p q hi hj e => h.1 i j p q (by rw [List.getElem?_append_left (List.getElem?_eq_some_iff.mp hi).1]; exact hi) (by rw [List.getElem?_append_left (List.getElem?_eq_some_iff.mp hj).1]; exact hj) e, fun k q hk => h.2 k q (by rw [List.getElem?_append_left (List.getElem?_eq_some_iff.mp hk).1]; exact hk)⟩
theorem xp_swP {D : va_G} {cl : List vw_C} {X Y V : va_W} {H : Heap} (h : va_P D cl ((X ++ Y) ++ V) H) : va_P D cl ((Y ++ X) ++ V) H := fun k q hk => by
  have hm : q ∈ (X ++ Y) ++ V := by
    have h1 := List.mem_of_getElem? hk
    simp only [List.mem_append] at h1 ⊢
    rcases h1 with (h1 | h1) | h1
    · exact Or.inl (Or.inr h1)
    · exact Or.inl (Or.inl h1)
    · exact Or.inr h1
  obtain ⟨j, hj⟩ := List.getElem?_of_mem hm
  exact h j q hj
theorem xd_pw {A : Nat → Prop} {ws : va_W} : va_D A ws ↔ (List.Pairwise (fun x y : Nat × va_E => x.1 ≠ y.1) ws ∧ ∀ q ∈ ws, A q.1) := by
  constructor
  · intro h
    refine ⟨List.pairwise_iff_getElem.mpr fun i j hi hj hij e => ?_, fun q hq => ?_⟩
    · have := h.1 i j _ _ (List.getElem?_eq_getElem hi) (List.getElem?_eq_getElem hj) e
      omega
    · obtain ⟨k, hk⟩ := List.getElem?_of_mem hq
      exact h.2 k _ hk
  · intro ⟨h1, h2⟩
    refine ⟨fun i j p q hi hj e => ?_, fun k q hk => h2 q (List.mem_of_getElem? hk)⟩
    obtain ⟨hi1, hi2⟩ := List.getElem?_eq_some_iff.mp hi
    obtain ⟨hj1, hj2⟩ := List.getElem?_eq_some_iff.mp hj
    have hp := List.pairwise_iff_getElem.mp h1
    rcases Nat.lt_trichotomy i j with h | h | h
    · exact absurd (by rw [hi2, hj2]; exact e) (hp i j hi1 hj1 h)
    · exact h
    · exact absurd (by rw [hi2, hj2]; exact e.symm) (hp j i hj1 hi1 h)
theorem xp_swD {A : Nat → Prop} {X Y V : va_W} (h : va_D A ((X ++ Y) ++ V)) : va_D A ((Y ++ X) ++ V) := by
  obtain ⟨h1, h2⟩ := xd_pw.mp h
  have hp : ((Y ++ X) ++ V).Perm ((X ++ Y) ++ V) := List.Perm.append_right _ List.perm_append_comm
  exact xd_pw.mpr ⟨(List.Perm.pairwise_iff (fun h => h.symm) hp).mpr h1, fun q hq => h2 q (hp.mem_iff.mp hq)⟩
theorem x_gt {L i : Nat} (hL : L ≤ 2560) (hi : i ≤ 3000) (h : ¬ (nI i > nI L - 5)) : i + 5 ≤ L := by
  by_cases h5 : 5 ≤ L
  · have e : nI L - 5 = nI (L - 5) := pk_sub (a := L) (b := 5) (by omega)
    rw [e] at h
    rcases Nat.lt_or_ge (L - 5) i with q | q
    · exact absurd (nI_lt (a := L - 5) (b := i) q (by rw [xb_31]; omega)) h
    · omega
  · exfalso
    have hz : nI L - 5 < 0 := by
      have h9 : L = 0 ∨ L = 1 ∨ L = 2 ∨ L = 3 ∨ L = 4 := by omega
      rcases h9 with rfl | rfl | rfl | rfl | rfl <;> decide
    exact h (Int32.lt_of_lt_of_le hz (Int32.not_lt.mp (nI_pos (by rw [xb_31]; omega))))
theorem MI0 : MI (fun _ => 0) (fun _ _ => 0) := by
  refine ⟨⟨0, by omega, rfl⟩, ⟨0, by omega, rfl, fun la h => absurd h (by omega)⟩, fun i _ => rfl, fun d _ => ⟨0, by omega, rfl⟩, fun d _ => ⟨0, by omega, rfl⟩, fun la _ => ⟨0, by omega, rfl, fun j h => absurd h (by omega)⟩, fun nd h hn i j hi _ _ _ => ?_⟩
  have h0 : nd = 0 := by
    have h9 : nd = 0 ∨ nd = 1 ∨ nd = 2 ∨ nd = 3 ∨ nd = 4 ∨ nd = 5 ∨ nd = 6 ∨ nd = 7 ∨ nd = 8 ∨ nd = 9 ∨ nd = 10 ∨ nd = 11 ∨ nd = 12 := by omega
    rcases h9 with rfl | rfl | rfl | rfl | rfl | rfl | rfl | rfl | rfl | rfl | rfl | rfl | rfl
    · rfl
    all_goals exact absurd h (by decide)
  omega
