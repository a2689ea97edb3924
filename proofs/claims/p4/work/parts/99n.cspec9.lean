theorem LW_78 {g : gT} {E E' : Nat → Nat → va_E} {lt : Nat} {wl : List (Nat × Nat)} (h : F78 E E') (hl : LW g E lt wl) : LW g E' lt wl := by
  unfold LW
  rw [h 0 2 (by omega) (by omega), h 0 3 (by omega) (by omega), h 0 4 (by omega) (by omega)]
  exact hl
