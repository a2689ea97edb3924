def xR_La : String := "LayerDeskLaw"
theorem xp_P {D : va_G} {cl : List vw_C} {X Y : va_W} {H : Heap} (h : va_P D cl (X ++ Y) H) : va_P D cl Y H := fun k q hk => h (X.length + k) q (by rw [List.getElem?_append_right (by omega), Nat.add_sub_cancel_left]; exact hk)
theorem xp_D {A : Nat → Prop} {X Y : va_W} (h : va_D A (X ++ Y)) : va_D A Y := ⟨fun i j p q hi hj e => by
  have h1 := h.1 (X.length + i) (X.length + j) p q (by rw [List.getElem?_append_right (by omega), Nat.add_sub_cancel_left]; exact hi) (by rw [List.getElem?_append_right (by omega), Nat.add_sub_cancel_left]; exact hj) e
  omega, fun k q hk => h.2 (X.length + k) q (by rw [List.getElem?_append_right (by omega), Nat.add_sub_cancel_left]; exact hk)⟩
def OI (kA : Nat → ClassId) (ad ad' : Nat → Nat → Nat) (E : Nat → Nat → va_E) (RL : List (Nat × Nat)) (len : Nat) : Prop := (∃ ml nd wn cs, CI kA ad' E RL ml nd len wn cs) ∧ ad' 0 0 = ad 0 0
