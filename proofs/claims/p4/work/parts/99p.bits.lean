def bt (x : Int32) (i : Nat) : Bool := x.toBitVec.getLsbD i
theorem b_ext {x y : Int32} (h : ∀ i, i < 32 → bt x i = bt y i) : x = y := Int32.toBitVec_inj.mp (BitVec.eq_of_getLsbD_eq (fun i hi => h i hi))
theorem b_or (x y : Int32) (i : Nat) : bt (x ||| y) i = (bt x i || bt y i) := by unfold bt; rw [Int32.toBitVec_or, BitVec.getLsbD_or]
theorem b_and (x y : Int32) (i : Nat) : bt (x &&& y) i = (bt x i && bt y i) := by unfold bt; rw [Int32.toBitVec_and, BitVec.getLsbD_and]
theorem b_xor (x y : Int32) (i : Nat) : bt (x ^^^ y) i = (bt x i ^^ bt y i) := by unfold bt; rw [Int32.toBitVec_xor, BitVec.getLsbD_xor]
theorem b_big {x : Int32} {i : Nat} (h : 32 ≤ i) : bt x i = false := BitVec.getLsbD_of_ge _ _ h
theorem b_m1 : ∀ i, i < 32 → bt (-1) i = true := by decide +kernel
theorem b_0 (i : Nat) : bt 0 i = false := BitVec.getLsbD_zero
theorem s_l : ∀ n, n < 32 → ((nI n &&& 31).toBitVec.smod 32).toNat = n := by decide +kernel
theorem b_shl (n : Nat) (hn : n < 32) (x : Int32) {i : Nat} (hi : i < 32) : bt (x <<< (nI n &&& 31)) i = (decide (n ≤ i) && bt x (i - n)) := by
  unfold bt
  rw [Int32.toBitVec_shiftLeft]
  show (x.toBitVec <<< ((nI n &&& 31).toBitVec.smod 32).toNat).getLsbD i = _
  rw [s_l n hn, BitVec.getLsbD_shiftLeft]
  rcases Nat.lt_or_ge i n with h | h
  · simp [h, Nat.not_le.mpr h]
  · simp [hi, h, Nat.not_lt.mpr h]
theorem b_sshr (n : Nat) (hn : n < 32) (x : Int32) {i : Nat} (hi : i < 32) : bt (x >>> (nI n &&& 31)) i = if n + i < 32 then bt x (n + i) else bt x 31 := by
  unfold bt
  rw [Int32.toBitVec_shiftRight]
  show (x.toBitVec.sshiftRight ((nI n &&& 31).toBitVec.smod 32).toNat).getLsbD i = _
  rw [s_l n hn, BitVec.getLsbD_sshiftRight, BitVec.msb_eq_getLsbD_last]
  simp [hi]
def BS (f : Nat → Int32) (t : Nat) : Prop := bt (f (t / 12)) (t % 12) = true
theorem b_1 : ∀ i, i < 32 → bt 1 i = decide (i = 0) := by decide +kernel
theorem b_and1 {y : Int32} : ¬ (y &&& 1) = 0 ↔ bt y 0 = true := by
  constructor
  · intro h
    cases hb : bt y 0 with
    | true => rfl
    | false =>
      refine absurd (b_ext (fun i hi => ?_)) h
      rw [b_and, b_1 i hi, b_0]
      by_cases e : i = 0
      · rw [e, hb]; rfl
      · simp [e]
  · intro h q
    have h2 : bt (y &&& 1) 0 = bt 0 0 := by rw [q]
    rw [b_and, h, b_0] at h2
    exact absurd h2 (by decide)
theorem BS_marks {f : Nat → Int32} {n d : Nat} (hd : d < 12) : ¬ ((f n >>> (nI d &&& 31)) &&& 1) = 0 ↔ BS f (12 * n + d) := by
  rw [b_and1, b_sshr d (by omega) _ (by omega), if_pos (by omega), Nat.add_zero]
  unfold BS
  rw [show (12 * n + d) / 12 = n by omega, show (12 * n + d) % 12 = d by omega]
theorem b_bit {d b : Nat} (hd : d < 12) (hb : b < 12) : bt (1 <<< (nI d &&& 31)) b = decide (b = d) := by
  rw [b_shl d (by omega) 1 (by omega)]
  by_cases e : d ≤ b
  · rw [b_1 (b - d) (by omega)]
    by_cases e2 : b = d
    · simp [e2]
    · simp [e, e2, show ¬ b - d = 0 by omega]
  · simp [e, show ¬ b = d by omega]
theorem BS_mark {f : Nat → Int32} {n d t : Nat} (hd : d < 12) : BS (upd f n (f n ||| (1 <<< (nI d &&& 31)))) t ↔ (BS f t ∨ t = 12 * n + d) := by
  unfold BS
  by_cases e : t / 12 = n
  · rw [e, pk_us, b_or, b_bit hd (by omega)]
    by_cases e2 : t % 12 = d
    · rw [e2]
      exact ⟨fun _ => Or.inr (by omega), fun _ => by simp⟩
    · simp [e2, show ¬ t = 12 * n + d by omega]
  · rw [pk_un e]
    simp [show ¬ t = 12 * n + d by omega]
theorem BS_unmark {f : Nat → Int32} {n d t : Nat} (hd : d < 12) : BS (upd f n (f n &&& ((1 <<< (nI d &&& 31)) ^^^ (-1)))) t ↔ (BS f t ∧ t ≠ 12 * n + d) := by
  unfold BS
  by_cases e : t / 12 = n
  · rw [e, pk_us, b_and, b_xor, b_bit hd (by omega), b_m1 _ (by omega)]
    by_cases e2 : t % 12 = d
    · rw [e2]
      exact ⟨fun h => by simp at h, fun h => absurd (by omega) h.2⟩
    · simp [e2, show ¬ t = 12 * n + d by omega]
  · rw [pk_un e]
    simp [show ¬ t = 12 * n + d by omega]
theorem BS_join {f f2 f3 : Nat → Int32} {t : Nat} (ht : t < 72) (h : ∀ r, r < 6 → f2 r = f r ||| f3 r) : BS f2 t ↔ (BS f t ∨ BS f3 t) := by
  unfold BS
  rw [h (t / 12) (by omega), b_or]
  simp
theorem BS_0 {t : Nat} : ¬ BS (fun _ => 0) t := by
  unfold BS
  rw [b_0]; decide
def PW (F : Nat → Nat → Prop) (nf : Nat → Nat) : Nat → Nat → Nat → Prop
  | 0, a, t => F a t
  | v + 1, a, t => PW F nf v a t ∨ (PW F nf v a (nf v) ∧ PW F nf v v t)
def IP (F : Nat → Nat → Prop) (nf : Nat → Nat) : Nat → List Nat → Nat → Prop
  | a, [], t => F a t
  | a, b :: l, t => F a (nf b) ∧ IP F nf b l t
theorem PW_in {F : Nat → Nat → Prop} {nf : Nat → Nat} : ∀ (v : Nat) (n : Nat) (a : Nat) (l : List Nat) (t : Nat), l.length ≤ n → (∀ x ∈ l, x < v) → IP F nf a l t → PW F nf v a t
  | 0, _, a, [], t, _, _, h => h
  | 0, _, a, b :: l, t, _, hl, _ => absurd (hl b (List.mem_cons_self)) (Nat.not_lt_zero _)
  | v + 1, n, a, l, t, hn, hl, h => by
    induction n generalizing a l with
    | zero =>
      have e : l = [] := List.eq_nil_of_length_eq_zero (by omega)
      subst e
      exact Or.inl (PW_in v 0 a [] t (by simp) (fun x hx => absurd hx List.not_mem_nil) h)
    | succ n ih =>
      by_cases hv : v ∈ l
      · obtain ⟨l1, l2, e, hv1⟩ : ∃ l1 l2, l = l1 ++ v :: l2 ∧ v ∉ l1 := by
          clear ih h hn hl
          induction l with
          | nil => exact absurd hv List.not_mem_nil
          | cons c l ihl =>
            by_cases hc : v = c
            · exact ⟨[], l, by rw [hc]; rfl, List.not_mem_nil⟩
            · obtain ⟨l1, l2, e, h9⟩ := ihl ((List.mem_cons.mp hv).resolve_left hc)
              exact ⟨c :: l1, l2, by rw [e]; rfl, fun q => (List.mem_cons.mp q).elim hc h9⟩
        have hsp : ∀ (l1 : List Nat) (a : Nat), IP F nf a (l1 ++ v :: l2) t → IP F nf a l1 (nf v) ∧ IP F nf v l2 t := by
          intro l1
          induction l1 with
          | nil => intro a h; exact h
          | cons c l1 ihl => intro a h; exact ⟨⟨h.1, (ihl c h.2).1⟩, (ihl c h.2).2⟩
        rw [e] at h hl hn
        rw [List.length_append, List.length_cons] at hn
        obtain ⟨q1, q2⟩ := hsp l1 a h
        have p1 : PW F nf v a (nf v) := PW_in v l1.length a l1 (nf v) (Nat.le_refl _) (fun x hx => by
          have z := hl x (List.mem_append_left _ hx)
          have z2 : x ≠ v := fun w => hv1 (by rw [← w]; exact hx)
          omega) q1
        have p2 := ih v l2 (by omega) (fun x hx => hl x (List.mem_append_right _ (List.mem_cons_of_mem _ hx))) q2
        have p3 : PW F nf v v t := p2.elim id (fun w => w.2)
        exact Or.inr ⟨p1, p3⟩
      · exact Or.inl (PW_in v (n + 1) a l t hn (fun x hx => by
          have z := hl x hx
          have z2 : x ≠ v := fun w => hv (by rw [← w]; exact hx)
          omega) h)
def RN (F : Nat → Nat → Prop) (nf : Nat → Nat) (mk x t : Nat) : Prop := ∃ b, b < mk ∧ x = nf b ∧ F b t
theorem PW_tc {F : Nat → Nat → Prop} {nf : Nat → Nat} {mk : Nat} : ∀ (v : Nat), v ≤ mk → ∀ a t, a < mk → PW F nf v a t → tc (RN F nf mk) (nf a) t
  | 0, _, a, t, ha, h => tc_1 ⟨a, ha, rfl, h⟩
  | v + 1, hv, a, t, ha, h => by
    rcases h with h | ⟨h1, h2⟩
    · exact PW_tc v (by omega) a t ha h
    · exact tc_tr (PW_tc v (by omega) a _ ha h1) (PW_tc v (by omega) v t (by omega) h2)
theorem IP_app {F : Nat → Nat → Prop} {nf : Nat → Nat} {b t : Nat} (hF : F b t) : ∀ (l : List Nat) (a : Nat), IP F nf a l (nf b) → IP F nf a (l ++ [b]) t
  | [], a, h => ⟨h, hF⟩
  | c :: l, a, h => ⟨h.1, IP_app hF l c h.2⟩
theorem tc_IP {F : Nat → Nat → Prop} {nf : Nat → Nat} {mk : Nat} (hinj : ∀ a b, a < mk → b < mk → nf a = nf b → a = b) : ∀ (k a t : Nat), a < mk → pth (RN F nf mk) k (nf a) t → ∃ l, (∀ x ∈ l, x < mk) ∧ IP F nf a l t
  | 0, a, t, ha, ⟨b, hb, e, hF⟩ => by
    have := hinj a b ha hb e
    subst this
    exact ⟨[], fun x hx => absurd hx List.not_mem_nil, hF⟩
  | k + 1, a, t, ha, ⟨c, hc, b, hb, e, hF⟩ => by
    rw [e] at hc
    obtain ⟨l, h1, h2⟩ := tc_IP hinj k a _ ha hc
    refine ⟨l ++ [b], fun x hx => ?_, IP_app hF l a h2⟩
    rcases List.mem_append.mp hx with q | q
    · exact h1 x q
    · rw [List.mem_singleton] at q; omega
theorem PW_iff {F : Nat → Nat → Prop} {nf : Nat → Nat} {mk a t : Nat} (hinj : ∀ a b, a < mk → b < mk → nf a = nf b → a = b) (ha : a < mk) : PW F nf mk a t ↔ tc (RN F nf mk) (nf a) t := by
  constructor
  · exact PW_tc mk (Nat.le_refl _) a t ha
  · intro ⟨k, h⟩
    obtain ⟨l, h1, h2⟩ := tc_IP hinj k a t ha h
    exact PW_in mk l.length a l t (Nat.le_refl _) h1 h2
