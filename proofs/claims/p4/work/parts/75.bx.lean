theorem bx_e {C : Prop} {a b : List Nat} (h : a = b) : cif C a b = b := by
  by_cases q : C
  · rw [cif_pos q]; exact h
  · rw [cif_neg q]
