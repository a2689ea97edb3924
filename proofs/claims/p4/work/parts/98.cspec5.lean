theorem cif_eq {α : Type} {C : Prop} {a b c : α} (h1 : a = c) (h2 : b = c) : cif C a b = c := by
  by_cases q : C
  · rw [cif_pos q]; exact h1
  · rw [cif_neg q]; exact h2
theorem gr_all7 {g g' : gT} {e e' : Nat → va_E} {d i k0 : Nat} (hk0 : k0 ≤ 6) (h8 : g' 8 = g 8) (h10 : g' 10 = g 10) (h7 : ∀ i9, i9 < 6 → ¬ i9 = i → g' 9 (6 * d + i9) = g 9 (6 * d + i9) ∧ ∀ j, j < 3 → g' 7 (3 * (6 * d + i9) + j) = g 7 (3 * (6 * d + i9) + j)) (hi : i < 6) (he : ∀ o, ¬ o = 20 + 3 * i → ¬ o = 21 + 3 * i → ¬ o = 22 + 3 * i → e' o = e o) (hn : TG (e' (20 + 3 * i)) (e' (21 + 3 * i)) (e' (22 + 3 * i)) (g' 9 (6 * d + i)) (fun j => g' 7 (3 * (6 * d + i) + j))) (h : ∀ i, i < k0 → TG (e (20 + 3 * i)) (e (21 + 3 * i)) (e (22 + 3 * i)) (g 9 (6 * d + i)) (fun j => g 7 (3 * (6 * d + i) + j)) ∧ TG (e (38 + 3 * i)) (e (39 + 3 * i)) (e (40 + 3 * i)) (g 10 (6 * d + i)) (fun j => g 8 (3 * (6 * d + i) + j))) : ∀ i, i < k0 → TG (e' (20 + 3 * i)) (e' (21 + 3 * i)) (e' (22 + 3 * i)) (g' 9 (6 * d + i)) (fun j => g' 7 (3 * (6 * d + i) + j)) ∧ TG (e' (38 + 3 * i)) (e' (39 + 3 * i)) (e' (40 + 3 * i)) (g' 10 (6 * d + i)) (fun j => g' 8 (3 * (6 * d + i) + j)) := fun i9 hi9 => by
  obtain ⟨q1, q2⟩ := h i9 hi9
  rw [h8, h10, he (38 + 3 * i9) (by omega) (by omega) (by omega), he (39 + 3 * i9) (by omega) (by omega) (by omega), he (40 + 3 * i9) (by omega) (by omega) (by omega)]
  refine ⟨?_, q2⟩
  by_cases q : i9 = i
  · rw [q]; exact hn
  · rw [he (20 + 3 * i9) (by omega) (by omega) (by omega), he (21 + 3 * i9) (by omega) (by omega) (by omega), he (22 + 3 * i9) (by omega) (by omega) (by omega), (h7 i9 (by omega) q).1]
    exact TG_congr (h7 i9 (by omega) q).2 q1
theorem gr_all8 {g g' : gT} {e e' : Nat → va_E} {d i k0 : Nat} (hk0 : k0 ≤ 6) (h7 : g' 7 = g 7) (h9 : g' 9 = g 9) (h8 : ∀ i9, i9 < 6 → ¬ i9 = i → g' 10 (6 * d + i9) = g 10 (6 * d + i9) ∧ ∀ j, j < 3 → g' 8 (3 * (6 * d + i9) + j) = g 8 (3 * (6 * d + i9) + j)) (hi : i < 6) (he : ∀ o, ¬ o = 38 + 3 * i → ¬ o = 39 + 3 * i → ¬ o = 40 + 3 * i → e' o = e o) (hn : TG (e' (38 + 3 * i)) (e' (39 + 3 * i)) (e' (40 + 3 * i)) (g' 10 (6 * d + i)) (fun j => g' 8 (3 * (6 * d + i) + j))) (h : ∀ i, i < k0 → TG (e (20 + 3 * i)) (e (21 + 3 * i)) (e (22 + 3 * i)) (g 9 (6 * d + i)) (fun j => g 7 (3 * (6 * d + i) + j)) ∧ TG (e (38 + 3 * i)) (e (39 + 3 * i)) (e (40 + 3 * i)) (g 10 (6 * d + i)) (fun j => g 8 (3 * (6 * d + i) + j))) : ∀ i, i < k0 → TG (e' (20 + 3 * i)) (e' (21 + 3 * i)) (e' (22 + 3 * i)) (g' 9 (6 * d + i)) (fun j => g' 7 (3 * (6 * d + i) + j)) ∧ TG (e' (38 + 3 * i)) (e' (39 + 3 * i)) (e' (40 + 3 * i)) (g' 10 (6 * d + i)) (fun j => g' 8 (3 * (6 * d + i) + j)) := fun i9 hi9 => by
  obtain ⟨q1, q2⟩ := h i9 hi9
  rw [h7, h9, he (20 + 3 * i9) (by omega) (by omega) (by omega), he (21 + 3 * i9) (by omega) (by omega) (by omega), he (22 + 3 * i9) (by omega) (by omega) (by omega)]
  refine ⟨q1, ?_⟩
  by_cases q : i9 = i
  · rw [q]; exact hn
  · rw [he (38 + 3 * i9) (by omega) (by omega) (by omega), he (39 + 3 * i9) (by omega) (by omega) (by omega), he (40 + 3 * i9) (by omega) (by omega) (by omega), (h8 i9 (by omega) q).1]
    exact TG_congr (h8 i9 (by omega) q).2 q2
theorem lG_oth {a a2 i : Nat} {t : Nat → Int32} {wl : List (Nat × Nat)} {nd : Nat} {g : gT} (haa : a ≠ a2) (hp : pI g (nd - 1) (wN t wl 1) = some i) (hi : i < 6) : ∀ i9, i9 < 6 → ¬ i9 = i → lG a a2 t wl nd g a2 (6 * (nd - 1) + i9) = g a2 (6 * (nd - 1) + i9) ∧ ∀ j, j < 3 → lG a a2 t wl nd g a (3 * (6 * (nd - 1) + i9) + j) = g a (3 * (6 * (nd - 1) + i9) + j) := fun i9 h9 hne => by
  refine ⟨lG_a2 haa (fun i2 q z => ?_), fun j hj => lG_a haa (fun i2 k q hk z => ?_)⟩
  · rw [hp] at q
    have := Option.some.inj q
    omega
  · rw [hp] at q
    have := Option.some.inj q
    omega
theorem gr_up2 {a a2 p n n2 : Nat} {g : gT} {ta ta2 x : Int32} {f f2 : Nat → Int32} (hx : x = 0) (h : (x = 0 ∧ ta2 = 1 ∧ n2 = n ∧ f2 = f) ∨ (¬ x = 0 ∧ COV ta n f x ∧ ta2 = ta ∧ n2 = n ∧ f2 = f) ∨ (¬ x = 0 ∧ ¬ COV ta n f x ∧ ta2 = ta ∧ ((n < 3 ∧ n2 = n + 1 ∧ f2 = upd f n x) ∨ (3 ≤ n ∧ n2 = n ∧ f2 = f)))) : ta2 = va_up g a2 (upd (g a2) p 1) a2 p ∧ (ta2 = 0 → NT n2 f2 (fun j => va_up g a2 (upd (g a2) p 1) a (3 * p + j))) := by
  rcases h with ⟨_, q1, _⟩ | ⟨q, _⟩ | ⟨q, _⟩
  · refine ⟨?_, fun z => ?_⟩
    · rw [q1, show va_up g a2 (upd (g a2) p 1) a2 = upd (g a2) p 1 by simp [va_up], pk_us]
    · rw [q1] at z; exact absurd z (by decide)
  · exact absurd hx q
  · exact absurd hx q
