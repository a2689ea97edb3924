theorem MI_tx {v : Nat → Int32} {g : Nat → Nat → Int32} {n : Nat} {x : Int32} (hn : n < 40) (h : MI v g) : MI v (va_up g 0 (upd (g 0) n (vp_nar .char x))) := by
  obtain ⟨h1, h2, h3, h4⟩ := h
  refine ⟨h1, h2, fun i hi => ?_, h4⟩
  show narrow .char (.int (upd (g 0) n (vp_nar .char x) i)) = .int (upd (g 0) n (vp_nar .char x) i)
  by_cases e : i = n
  · subst e
    rw [pk_us, vp_nar_char]
    exact pk_nc x
  · rw [pk_un e]; exact h3 i hi
