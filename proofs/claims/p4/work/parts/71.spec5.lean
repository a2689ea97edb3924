def LT (f20 f21 : Nat → Int32) (nl : Nat) (L : List Nat) : Prop := f20 nl = nI L.length ∧ ∀ k, k < L.length → f21 (12 * nl + k) = nI (L.getD k 0)
def ST (f : Nat → Int32) : Nat → List Int32
  | 0 => []
  | n + 1 => f n :: ST f n
theorem ST_pop {f : Nat → Int32} {n : Nat} (h : 0 < n) : ST f n = f (n - 1) :: ST f (n - 1) := by
  obtain ⟨m, rfl⟩ : ∃ m, n = m + 1 := ⟨n - 1, by omega⟩
  rfl
theorem ST_same {f f2 : Nat → Int32} : ∀ {n : Nat}, (∀ j, j < n → f j = f2 j) → ST f n = ST f2 n
  | 0, _ => rfl
  | n + 1, h => by
    show f n :: ST f n = f2 n :: ST f2 n
    rw [h n (by omega), ST_same (n := n) (fun j hj => h j (by omega))]
theorem ST_push {f : Nat → Int32} {n : Nat} {x : Int32} : ST (upd f n x) (n + 1) = x :: ST f n := by
  show upd f n x n :: ST (upd f n x) n = x :: ST f n
  rw [pk_us, ST_same (f2 := f) (fun j hj => pk_un (by omega))]
def rqL (f13 f17 : Nat → Int32) : Nat → Nat → List Int32
  | _, 0 => []
  | i, m + 1 => if f17 i = 0 then f13 i :: rqL f13 f17 (i + 1) m else rqL f13 f17 (i + 1) m
theorem rqL_y {f13 f17 : Nat → Int32} {i m : Nat} (h : f17 i = 0) : rqL f13 f17 i (m + 1) = f13 i :: rqL f13 f17 (i + 1) m := if_pos h
theorem rqL_n {f13 f17 : Nat → Int32} {i m : Nat} (h : ¬ f17 i = 0) : rqL f13 f17 i (m + 1) = rqL f13 f17 (i + 1) m := if_neg h
def rqG (g : gT) (d : Nat) : List Int32 := rqL (g 13) (g 17) (5 * d) (iN (g 12 d))
noncomputable def dsG (g : gT) (nd : Nat) (fi n : Int32) : Option Nat := ff (fun d => g 3 d = fi ∧ g 4 d = n) nd
theorem dsG_lt {g : gT} {nd : Nat} {fi : Int32} : ∀ n d, dsG g nd fi n = some d → d < nd := fun n d h => (ff_is h).1
noncomputable def upG (g : gT) (lq : Nat) (n : Int32) : Bool := (lkG g lq n).isSome
noncomputable def adG (g : gT) (nd : Nat) (fi : Int32) (lq : Nat) : List Nat → Int32 → Bool × List Nat := aN (dsG g nd fi) (upG g lq) (rqG g) 12
theorem getD_app {L : List Nat} {d k : Nat} (h : k < L.length) : (L ++ [d]).getD k 0 = L.getD k 0 := by
  rw [List.getD_eq_getElem?_getD, List.getD_eq_getElem?_getD, List.getElem?_append_left h]
theorem getD_new {L : List Nat} {d : Nat} : (L ++ [d]).getD L.length 0 = d := by
  rw [List.getD_eq_getElem?_getD, List.getElem?_append_right (Nat.le_refl _), Nat.sub_self]; rfl
theorem len_app {L : List Nat} {d : Nat} : (L ++ [d]).length = L.length + 1 := by rw [List.length_append]; rfl
theorem LT_add {f20 f21 : Nat → Int32} {nl d : Nat} {L : List Nat} (h : LT f20 f21 nl L) : LT (upd f20 nl (nI (L.length + 1))) (upd f21 (12 * nl + L.length) (nI d)) nl (L ++ [d]) := by
  refine ⟨by rw [pk_us, len_app], fun k hk => ?_⟩
  rw [len_app] at hk
  rcases Nat.lt_or_ge k L.length with q | q
  · rw [pk_un (by omega), getD_app q]; exact h.2 k q
  · have e : k = L.length := by omega
    subst e
    rw [pk_us, getD_new]
theorem getD_mem {L : List Nat} {k : Nat} (h : k < L.length) : L.getD k 0 ∈ L := by
  rw [List.getD_eq_getElem?_getD, List.getElem?_eq_getElem h]; exact List.getElem_mem h
theorem mem_getD {L : List Nat} {d : Nat} (h : d ∈ L) : ∃ k, k < L.length ∧ L.getD k 0 = d := by
  obtain ⟨k, hk, e⟩ := List.getElem_of_mem h
  exact ⟨k, hk, by rw [List.getD_eq_getElem?_getD, List.getElem?_eq_getElem hk]; exact e⟩
theorem LT_in {f20 f21 : Nat → Int32} {nl nd d j : Nat} {L : List Nat} (h : LT f20 f21 nl L) (hG : GL nd L) (hnd : nd ≤ 12) (hd : d < 12) (h1 : 12 * nl ≤ j) (h2 : j < 12 * nl + L.length) (e : f21 j = nI d) : d ∈ L := by
  have q := h.2 (j - 12 * nl) (by omega)
  rw [show 12 * nl + (j - 12 * nl) = j by omega, e] at q
  have hm := getD_mem (L := L) (k := j - 12 * nl) (by omega)
  have hl := hG.1 _ hm
  rw [(nI_eq (by rw [xb_31]; omega) (by rw [xb_31]; omega)).mp q]; exact hm
theorem LT_out {f20 f21 : Nat → Int32} {nl d : Nat} {L : List Nat} (h : LT f20 f21 nl L) (hn : ∀ j, 12 * nl ≤ j → j < 12 * nl + L.length → ¬ f21 j = nI d) : d ∉ L := fun q => by
  obtain ⟨k, hk, e⟩ := mem_getD q
  exact hn (12 * nl + k) (by omega) (by omega) (by rw [h.2 k hk, e])
theorem LT_cut {f20 f21 : Nat → Int32} {nl : Nat} {L T : List Nat} (h : LT f20 f21 nl (L ++ T)) : LT (upd f20 nl (nI L.length)) f21 nl L := ⟨pk_us, fun k hk => by
  have q := h.2 k (by rw [List.length_append]; omega)
  rw [q, List.getD_eq_getElem?_getD, List.getD_eq_getElem?_getD, List.getElem?_append_left hk]⟩
theorem adG_in {g : gT} {nd lq d : Nat} {fi : Int32} {L : List Nat} (hd : d < nd) (hf : g 3 d = fi) (hu : ∀ j, j < nd → g 3 j = g 3 d → g 4 j = g 4 d → j = d) (hn : d ∉ L) : ∃ T, (adG g nd fi lq L (g 4 d)).2 = (L ++ [d]) ++ T := by
  have e : dsG g nd fi (g 4 d) = some d := ff_some hd ⟨hf, rfl⟩ (fun j hj q => by
    have := hu j (by omega) (q.1.trans hf.symm) q.2
    omega)
  unfold adG aN
  rw [e]
  simp only
  rw [if_neg hn]
  exact aF_keep (P := fun L2 => ∃ T, L2 = (L ++ [d]) ++ T) (fun L2 n ⟨T, e2⟩ => by
    obtain ⟨T2, e3⟩ := aN_pre (ds := dsG g nd fi) (up := upG g lq) (rq := rqG g) (f := 11) (L := L2) (n := n)
    exact ⟨T ++ T2, by rw [e3, e2, List.append_assoc]⟩) ⟨[], (List.append_nil _).symm⟩
