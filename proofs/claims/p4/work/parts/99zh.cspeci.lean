theorem up_up {g : gT} {k : Nat} {f1 f2 : Nat → Int32} : va_up (va_up g k f1) k f2 = va_up g k f2 := by
  funext j
  by_cases h : j = k
  · rw [h, vu_eq, vu_eq]
  · rw [vu_ne h, vu_ne h, vu_ne h]
theorem TD_k {g : gT} {f1 f2 : Nat → Int32} {e e' : Nat → va_E} {d : Nat} {fd nm sd x : Int32} {v0 v3 v4 v5 v6 v7 v8 v9 v10 w0 w3 w4 w5 w6 w7 w8 w9 w10 : Value} (h : TD (va_up g 11 f1) e d) (c0 : e 0 = .inr (7, [v0, .int fd, .int nm, v3, v4, v5, v6, v7, v8, v9, v10, .int sd])) (c1 : e' 0 = .inr (7, [w0, .int fd, .int nm, w3, w4, w5, w6, w7, w8, w9, w10, .int x])) (he : ∀ o, ¬ o = 0 → e' o = e o) (hf : f2 d = x) : TD (va_up g 11 f2) e' d := by
  have q := TD_set11 (f := f2) h c0 c1 he hf
  rw [up_up] at q; exact q
