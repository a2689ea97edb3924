def cz (f : Nat → Int32) : Nat → Nat
  | 0 => 0
  | n + 1 => cz f n + (if f n = 0 then 1 else 0)
theorem cz_le (f : Nat → Int32) : ∀ n, cz f n ≤ n := by
  intro n
  induction n with
  | zero => exact Nat.le_refl _
  | succ n ih =>
    show cz f n + (if f n = 0 then 1 else 0) ≤ n + 1
    split <;> omega
theorem cz_same {f : Nat → Int32} {t : Nat} {x : Int32} : ∀ n, n ≤ t → cz (upd f t x) n = cz f n := by
  intro n
  induction n with
  | zero => intro _; rfl
  | succ n ih =>
    intro h
    show cz (upd f t x) n + (if upd f t x n = 0 then 1 else 0) = cz f n + (if f n = 0 then 1 else 0)
    rw [ih (by omega), pk_un (by omega)]
theorem cz_mark {f : Nat → Int32} {t : Nat} {x : Int32} (hf : f t = 0) (hx : ¬ x = 0) : ∀ n, t < n → cz (upd f t x) n < cz f n := by
  intro n
  induction n with
  | zero => intro h; omega
  | succ n ih =>
    intro h
    show cz (upd f t x) n + (if upd f t x n = 0 then 1 else 0) < cz f n + (if f n = 0 then 1 else 0)
    by_cases e : t = n
    · subst e
      rw [cz_same t (Nat.le_refl _), pk_us, if_neg hx, if_pos hf]; omega
    · rw [pk_un (fun q => e q.symm)]
      have := ih (by omega)
      omega
theorem xb_mlt (n : Nat) (h : n < 2147483648) : (-1 : Int32) < nI n := by
  rw [Int32.lt_iff_toInt_lt, nI_toInt (by rw [xb_31]; exact h)]
  have h2 : ((-1 : Int32)).toInt = -1 := by decide
  omega
def bz (f : Nat → Int32) : Prop := ∀ i, i < 72 → narrow .boolean (.int (f i)) = .int (f i)
theorem bz_up {f : Nat → Int32} {t : Nat} {x : Int32} (h : bz f) (hx : narrow .boolean (.int x) = .int x) : bz (upd f t x) := fun i hi => by
  by_cases e : i = t
  · subst e; rw [pk_us]; exact hx
  · rw [pk_un e]; exact h i hi
theorem bz_0 {f : Nat → Int32} (h : ∀ j, j < 72 → f j = vp_nar .boolean 0) : bz f := fun i hi => by rw [h i hi]; rfl
theorem bn_1 : ¬ vp_nar .boolean 1 = 0 := by decide
theorem bn_n : narrow .boolean (.int (vp_nar .boolean 1)) = .int (vp_nar .boolean 1) := by rfl
theorem bn_0 : narrow .boolean (.int (vp_nar .boolean 0)) = .int (vp_nar .boolean 0) := by rfl
