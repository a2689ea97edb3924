def y_atX (own : String) (ic : Nat) (X : String) (ix : Nat) (rx : ByteArray) (Y : String) (r : List String) : List Cond := Bundle.throwableAtoms ++ Bundle.throwableSAtoms ++ (Bundle.passSAtoms X Y ix rx ++ Bundle.chainSAtoms Y r) ++ [.methodLink own ic (Bundle.initS X), .instantiable X 6, .castable X X, .selects X Bundle.tFill0 Bundle.tFill0, .selects X Bundle.tFill Bundle.tFill, .lays X Bundle.tN "cause" "Ljava/lang/Throwable;", .lays X Bundle.tN "stackTrace" Bundle.steD, .lays X Bundle.tN "suppressedExceptions" Bundle.listD, .lays X Bundle.tN "detailMessage" "Ljava/lang/String;", .lays X Bundle.tN "backtrace" "Ljava/lang/Object;", .isRef (.static Bundle.tN "UNASSIGNED_STACK" Bundle.steD), .isRef (.static Bundle.tN "SUPPRESSED_SENTINEL" Bundle.listD), .fieldLink Bundle.tN 198 Bundle.tN "backtrace" "Ljava/lang/Object;", .lays Bundle.tN Bundle.tN "backtrace" "Ljava/lang/Object;"]
theorem y_chainX {args : Array Value} {s : State} {pl : Platform} (hpl : pl.magicAccessors = ({} : Platform).magicAccessors) {top : MethodId} (htop : s.methodNamed? (Bundle.initS Bundle.tN) = some top) {ix : Nat} {rx : ByteArray} (x0 : decode rx 0 = .ok (.aload_n 0, 1)) (x1 : decode rx 1 = .ok (.aload_n 1, 1)) (x2 : decode rx 2 = .ok (.invokespecial ix, 3)) (x5 : decode rx 5 = .ok (.return_, 1)) {X Y : String} {r : List String} (hX : Bundle.fit X = true) (hn : ∀ n ∈ (Y :: r), Bundle.fit n = true) (h : ∀ w ∈ Bundle.passSAtoms X Y ix rx ++ Bundle.chainSAtoms Y r, w.before args s = true) :
    ∃ (P1 : PassC) (Ps : List PassC), Ps.length = (Y :: r).length ∧ P1.LinksS pl s ∧ (∀ P, P ∈ Ps → P.LinksS pl s) ∧ s.methodNamed? (Bundle.initS X) = some P1.m ∧ P1.sup = firstOf top (Ps.map (·.toPassT)) ∧ PassesOn top (Ps.map (·.toPassT)) := by
  have hY := hn Y List.mem_cons_self
  obtain ⟨P, LP, hm, hs⟩ := PassC.ofS_atoms (args := args) (s := s) hpl (Bundle.fit_spec hX).1 (Bundle.fit_spec hY).2 x0 x1 x2 x5 (fun w hw => h w (List.mem_append_left _ hw))
  obtain ⟨Q, Qs, hlen, LQ, LQs, hQm, k1, k2⟩ := Bundle.chainS (args := args) hpl htop r Y hY (fun n hn9 => hn n (List.mem_cons_of_mem _ hn9)) (fun w hw => h w (List.mem_append_right _ hw))
  refine ⟨P, Q :: Qs, by simp [hlen], LP, fun R hR => ?_, hm, Option.some.inj (hs.symm.trans hQm), k1, k2⟩
  rcases List.mem_cons.mp hR with rfl | hR
  · exact LQ
  · exact LQs R hR
theorem y_ctor {p : Program} {l : Launch} {e : Env} {R : Room} {s : State} {m₀ : MethodId} {args : Array Value} {below : List Frame} {meth : Method} {c : Code} {W : State} {locs : List Loc} {cells slots : Nat} (X : Stand p l e R s m₀ args below meth c W locs cells slots) (hexec : p.tables.exec = Jvm.exec) (htr : e.platform.stackTraces = false) {own cls YY : String} {rr : List String} {ic ix : Nat} {rx : ByteArray} (x0 : decode rx 0 = .ok (.aload_n 0, 1)) (x1 : decode rx 1 = .ok (.aload_n 1, 1)) (x2 : decode rx 2 = .ok (.invokespecial ix, 3)) (x5 : decode rx 5 = .ok (.return_, 1))
    (hown : s.vm.findClass own = some m₀.cls) (hcls : Bundle.fit cls = true) (hnames : ∀ n ∈ (YY :: rr), Bundle.fit n = true) (h : ∀ w ∈ y_atX own ic cls ix rx YY rr, w.before args s = true) (hlocs : ∀ x ∈ locs, ∀ cell, s.heap[x.base]? = some cell → cell.vm.isStatics = false)
    {a : Addr} {cX : ClassId} {kX : Class} (hfX : s.vm.findClass cls = some cX) (hkX : s.vm.classes[cX]? = some kX) (hcell : W.heap[a]? = some (freshCell cX kX)) (hnew : s.heap.size ≤ a) {msg : Value} (hmsg : msg.isRef = true)
    {g : JFrame} (hg : g.method = m₀) (hsize : g.locals.size = c.maxLocals) (hlocked : g.locked = none) (hentered : g.entered = []) {rest : List Value} (hstack : g.stack = msg :: .ref a :: .ref a :: rest) (hd6 : decode c.code g.pc = .ok (.invokespecial ic, 3)) (hd9 : decode c.code (g.pc + 3) = .ok (.athrow, 1)) (hout : ∀ x ∈ c.exceptionTable.toList, covers x (g.pc + 3) = false)
    (hRframes : (YY :: rr).length + 3 < R.frames) (hRlocals : 2 * g.monitorRoom + ((Value.ref a :: rest).map fun v => v.category).sum + (13 * ((YY :: rr).length + 1) + 42) ≤ R.locals) (hlocks : meth.locks = false) :
    ∃ U : State, Steps p.tables e below (W.setTop g) U ∧ U.status = .running ∧ Ended U below (.threw a) ∧ s.WarmedH U.vm ∧ s.sameButNew ({ U with vm := s.vm } : State) locs cells slots ∧ ∃ ce, U.heap[a]? = some ce ∧ s.vm.findClass cls = some ce.cls ∧ ce.vm = .none := by
  have hpl : e.platform.magicAccessors = ({} : Platform).magicAccessors := by rw [X.admits.platform]
  have hin : ∀ w, w ∈ y_atX own ic cls ix rx YY rr → w.holds args s none s [] = true := fun w hw => h w hw
  obtain ⟨T, Z0, L, -, Y⟩ := ThrowableC.of_atoms (args := args) (by rw [X.admits.platform]) (by rw [X.admits.platform]) hpl (fun w hw => h w (by simp [y_atX, hw]))
  obtain ⟨Z, M, LZ, LM, hZ⟩ := Init0T.ofS_atoms (args := args) hpl L Y (fun w hw => h w (by simp [y_atX, hw]))
  obtain ⟨P, Ps, hlen, LP, LPs, hPm, k1, k2⟩ := y_chainX (args := args) hpl hZ x0 x1 x2 x5 hcls hnames (fun w hw => h w (by simp only [y_atX, List.mem_append]; exact Or.inl (Or.inr (List.mem_append.mp hw))))
  have hfound : s.vm.findClass cls = some P.m.cls := findClass_of_methodNamed hPm
  cases Option.some.inj (hfX.symm.trans hfound)
  obtain ⟨c1, k', hc1, hk, hord, -, -, -⟩ := Cond.instantiable_spec (hin (.instantiable cls 6) (by simp [y_atX]))
  cases Option.some.inj (hc1.symm.trans hfound)
  cases Option.some.inj (hkX.symm.trans hk)
  have sel0 : selectMethod e.platform s.vm P.m.cls T.fill0 = .method T.fill0 := by
    obtain ⟨_, _, _, q1, q2, q3, q4, -⟩ := Cond.selects_spec (hin (.selects cls Bundle.tFill0 Bundle.tFill0) (by simp [y_atX]))
    cases Option.some.inj (q1.symm.trans hfound)
    cases Option.some.inj (q2.symm.trans (State.methodFound?_of_named Y.fill0 (by decide)))
    cases Option.some.inj (q3.symm.trans Y.fill0)
    rw [Launch.admits_selectMethod X.admits]; exact q4
  have selF : selectMethod e.platform s.vm P.m.cls T.fill = .method T.fill := by
    obtain ⟨_, _, _, q1, q2, q3, q4, -⟩ := Cond.selects_spec (hin (.selects cls Bundle.tFill Bundle.tFill) (by simp [y_atX]))
    cases Option.some.inj (q1.symm.trans hfound)
    cases Option.some.inj (q2.symm.trans (State.methodFound?_of_named Y.fill (by decide)))
    cases Option.some.inj (q3.symm.trans Y.fill)
    rw [Launch.admits_selectMethod X.admits]; exact q4
  obtain ⟨cs0, hcs0, hiss⟩ := Y.statics
  obtain ⟨u0, hu0⟩ := Cond.staticRefV Y.unassigned L.unassignedStatic L.statics hcs0 hiss (hin (.isRef (.static Bundle.tN "UNASSIGNED_STACK" Bundle.steD)) (by simp [y_atX]))
  obtain ⟨sen, hsen⟩ := Cond.staticRefV Y.sentinel L.sentinelStatic L.statics hcs0 hiss (hin (.isRef (.static Bundle.tN "SUPPRESSED_SENTINEL" Bundle.listD)) (by simp [y_atX]))
  obtain ⟨ci, i8, fB, hk8, hg8, ha8, hsB, -, hnB, htB, hffB⟩ := Cond.ownField (t := .object "java/lang/Object") Y.found L.cls (by decide +kernel) (hin (.fieldLink Bundle.tN 198 Bundle.tN "backtrace" "Ljava/lang/Object;") (by simp [y_atX])) (hin (.lays Bundle.tN Bundle.tN "backtrace" "Ljava/lang/Object;") (by simp [y_atX])) e.platform hpl
  obtain ⟨cS, hcS, heS, -, hkeep⟩ := X.same.2.2.2.2.2 T.aS cs0 hcs0
  have off : ∀ i, (⟨T.aS, i⟩ : Loc) ∉ locs := fun i hm => by
    have q := hlocs _ hm cs0 hcs0
    rw [hiss] at q; cases q
  have hkn : cS.vm ≠ .unknown := by
    rw [heS]; intro q
    rw [show cs0.vm = .unknown from q] at hiss
    cases hiss
  have hne : T.aS ≠ a := Nat.ne_of_lt (Nat.lt_of_lt_of_le (Array.getElem?_eq_some_iff.mp hcs0).1 hnew)
  obtain ⟨iM, hffM⟩ := Y.msg
  obtain ⟨tC, dC, eC, nC⟩ := Cond.laysAt hfound hk Y.cause (hin (.lays cls Bundle.tN "cause" "Ljava/lang/Throwable;") (by simp [y_atX]))
  obtain ⟨tS, dS, eS, nS⟩ := Cond.laysAt hfound hk Y.stack (hin (.lays cls Bundle.tN "stackTrace" Bundle.steD) (by simp [y_atX]))
  obtain ⟨tP, dP, eP, nP⟩ := Cond.laysAt hfound hk Y.supp (hin (.lays cls Bundle.tN "suppressedExceptions" Bundle.listD) (by simp [y_atX]))
  obtain ⟨tM, dM, eM, nM⟩ := Cond.laysAt hfound hk hffM (hin (.lays cls Bundle.tN "detailMessage" "Ljava/lang/String;") (by simp [y_atX]))
  obtain ⟨tB, dB, eB, nB⟩ := Cond.laysAt hfound hk hffB (hin (.lays cls Bundle.tN "backtrace" "Ljava/lang/Object;") (by simp [y_atX]))
  have bC := Cond.laysApart eB eC nB nC (by rw [hnB, Y.causeName]; decide)
  have bS := Cond.laysApart eB eS nB nS (by rw [hnB, Y.stackName]; decide)
  have bP := Cond.laysApart eB eP nB nP (by rw [hnB, Y.suppName]; decide)
  have skip : SkipFacts T e.platform s (fun u => u) u0 ((preparedCellV T.toThrowableT (freshCell P.m.cls kX) a u0 sen).withEntry W.cur) := by
    refine ⟨{ ci198 := ci, i198 := i8, fBack := fB }, ⟨hk8, hg8, ha8, hsB⟩, ?_, fun _ _ => rfl⟩
    have q := fresh_default (c := P.m.cls) tB
    rw [htB] at q
    simpa [preparedCellV, Cell.setSlot, Cell.withEntry, Array.getElem?_setIfInBounds, bC, bS, bP, bC.symm, bS.symm, bP.symm, defaultValue] using q
  obtain ⟨tm, mC, cdC, kC, vm1, hnC, -, -, -, -, -, -, -, hW1, st1⟩ := Steps.initColdS (tb := p.tables) (e := e) (below := below) (s := s) (U := W) X.here hexec X.warmed hpl hown (t := Bundle.initS cls) rfl rfl (Bundle.fit_spec hcls).2
    (hin (.methodLink own ic (Bundle.initS cls)) (by simp [y_atX])) (h (.instanceMethod (Bundle.initS cls)) (by simp [y_atX, Bundle.passSAtoms])) (bytes := rx) (maxL := 2) (h (.code (Bundle.initS cls) rx 2 none) (by simp [y_atX, Bundle.passSAtoms]))
    (f := g) hg (a := a) (msg := msg) (rest := .ref a :: rest) hstack hd6
  cases Option.some.inj (hnC.symm.trans hPm)
  have X1 := X.noted hW1
  obtain ⟨vm2, X2, st2⟩ := X1.ctorMessageOffV hexec (g := { g with stack := .ref a :: rest }) hg hsize T L Z LZ M LM (P :: Ps) (fun Q hQ => by rcases List.mem_cons.mp hQ with rfl | hQ; exact LP; exact LPs Q hQ) ⟨k1, k2⟩ (u0 := u0) (sen := sen) (self := a) hmsg (cell := freshCell P.m.cls kX) (cellS := cS)
    hcell (fun _ => by simp) (by simp) rfl rfl sel0 selF hcS hne hkn (by rw [hkeep _ (off _)]; exact hu0) (by rw [hkeep _ (off _)]; exact hsen)
    (Takes.of_laid hk hord tC (by rw [Y.causeType]; rfl)) (Takes.of_laid hk hord tS (by rw [Y.stackType]; exact fits_refV_array _ u0)) (Takes.of_laid hk hord tP (by rw [Y.suppType]; exact fits_refV_object _ sen)) (Takes.of_laid hk hord tM (by rw [Y.msgType]; exact fits_refV_object _ ⟨msg, hmsg⟩)) Y.objLocals skip htr [] hd6
    (by simp only [List.length_cons, hlen]; omega) (by simp only [List.length_cons, hlen]; exact hRlocals)
  obtain ⟨walk, hrun, hend, hWU, hsame⟩ := X2.athrowLeaves hexec (g := { g with stack := .ref a :: rest, pc := g.pc + 3 }) hg hlocked hentered hout (a := a) (rest := rest) rfl hd9
  have hlt : a < ((W.setVm vm1).setVm vm2).heap.size := (Array.getElem?_eq_some_iff.mp hcell).1
  refine ⟨_, st1 _ (fun acts => ?_), hrun, hend, hWU, hsame.weaken (fun y hy hl9 => ?_) (Nat.le_refl _) (Nat.le_refl _), _, heapAt_setCell_self (s := (W.setVm vm1).setVm vm2) (plainBareV T.toThrowableT (freshCell P.m.cls kX) a u0 sen msg) hlt, hfound, rfl⟩
  · rw [doInvoke_state]
    exact st2 _ walk
  · rcases List.mem_append.mp hy with q | q
    · exact q
    · have hb : y.base = a := by
        simp only [List.mem_cons, List.not_mem_nil, or_false] at q
        rcases q with rfl | rfl | rfl | rfl | rfl <;> rfl
      rw [hb] at hl9
      exact absurd hl9 (Nat.not_lt.mpr hnew)
theorem y_throwSX {p : Program} {l : Launch} {e : Env} {R : Room} {s : State} {m : MethodId} {args : Array Value} {below : List Frame} {meth : Method} {c : Code} {H : Heap} {locs : List Loc} {cells slots : Nat} {free : Addr → Prop} {ls : Array Slot} {rest : List Value} {Qc : Array Value → State → Outcome → State → Prop} {XC : String → State → State → Prop} {cc : ByteArray} {pc ix : Nat} {rx : ByteArray} (x0 : decode rx 0 = .ok (.aload_n 0, 1)) (x1 : decode rx 1 = .ok (.aload_n 1, 1)) (x2 : decode rx 2 = .ok (.invokespecial ix, 3)) (x5 : decode rx 5 = .ok (.return_, 1)) (hexec : p.tables.exec = Jvm.exec) (hb : c.code = cc) (hl : l.stackTraces = false) {own cls text YY : String} {rr : List String} {ik is ic mc ms sa : Nat} {A : Nat → Prop}
    (hown : s.vm.findClass own = some m.cls) (hcls : Bundle.fit cls = true) (hnames : ∀ n ∈ (YY :: rr), Bundle.fit n = true)
    (hk : (Cond.classLink own ik cls).before args s = true) (hini : (Cond.initialized cls).before args s = true) (hstr : vk_R own is text sa s) (hat : ∀ w ∈ (y_atX own ic cls ix rx YY rr).filter vx_no, w.before args s = true)
    (hgood : ∀ w ∈ Cond.classLink own ik cls :: Cond.initialized cls :: (y_atX own ic cls ix rx YY rr).filter vx_no, vx_ot w = true)
    (hU : vx_Zq Bundle.tN "UNASSIGNED_STACK" Bundle.steD A s s.heap) (hN : vx_Zq Bundle.tN "SUPPRESSED_SENTINEL" Bundle.listD A s s.heap) (hS : va_S A s.heap H locs) (hsize : ls.size = c.maxLocals)
    (d0 : decode cc pc = .ok (.new ik, 3)) (d3 : decode cc (pc + 3) = .ok (.dup, 1)) (d4 : decode cc (pc + 4) = .ok (.ldc is, 2)) (d6 : decode cc (pc + 6) = .ok (.invokespecial ic, 3)) (d9 : decode cc (pc + 9) = .ok (.athrow, 1))
    (hout : ∀ x ∈ c.exceptionTable.toList, covers x (pc + 9) = false)
    (hRframes : (YY :: rr).length + 3 < R.frames) (hRlocals : (rest.map fun v => v.category).sum + (13 * ((YY :: rr).length + 1) + 43) ≤ R.locals) (hRcells : cells + 1 ≤ R.cells) (hRslots : slots + 6 ≤ R.slots) (hlocks : meth.locks = false)
    (hx : ∀ t : State, s.vm.Alike t.vm → H.size ≤ t.heap.size → (∀ q : Nat, q < H.size → t.heap[q]? = H[q]?) → XC cls s t)
    (hf : ∀ z ∈ locs, free z.base) (hc : cells + 1 ≤ mc) (hs : slots + 6 ≤ ms) :
    W p l e R s m args below meth c H locs cells slots (vx_MQ below Qc XC args s mc ms free) (F0 m pc ls rest) := by
  intro T hT X
  have htr : e.platform.stackTraces = false := (show e.platform.stackTraces = l.stackTraces by rw [X.admits.platform]).trans hl
  have Y := vx_rebase X (R' := { frames := R.frames, locals := R.locals, cells := 1, slots := 6 }) (Nat.le_refl _) (Nat.le_refl _) hRcells hRslots
  obtain ⟨s', hA⟩ : ∃ z, z = (T.setVm s.vm).setFrames (.invoking m args :: below) := ⟨_, rfl⟩
  rw [← hA] at Y
  have hvm : s'.vm = s.vm := by rw [hA]; rfl
  have hhp : s'.heap = H := by rw [hA]; exact hT
  have hW0 : s.WarmedH s'.vm := by rw [hvm]; exact State.WarmedH.refl s
  have hat' : ∀ w ∈ (y_atX own ic cls ix rx YY rr).filter vx_no, w.before args s' = true := fun w hw => vx_ot_at hW0 hvm.symm (hgood w (List.mem_cons_of_mem _ (List.mem_cons_of_mem _ hw))) (hat w hw)
  have hk' : (Cond.classLink own ik cls).before args s' = true := vx_ot_at hW0 hvm.symm (hgood _ List.mem_cons_self) hk
  have hini' : (Cond.initialized cls).before args s' = true := vx_ot_at hW0 hvm.symm (hgood _ (List.mem_cons_of_mem _ List.mem_cons_self)) hini
  have hU' : vx_Zq Bundle.tN "UNASSIGNED_STACK" Bundle.steD A s' s'.heap := by rw [hhp]; exact vx_Zq.moved hW0.alike (hU.kept hS.2.1)
  have hN' : vx_Zq Bundle.tN "SUPPRESSED_SENTINEL" Bundle.listD A s' s'.heap := by rw [hhp]; exact vx_Zq.moved hW0.alike (hN.kept hS.2.1)
  have h : ∀ w ∈ y_atX own ic cls ix rx YY rr, w.before args s' = true := vx_own hat' (vx_isRefq hU'.1) (vx_isRefq hN'.1) hU'.2.word hN'.2.word
  have hown' : s'.vm.findClass own = some m.cls := by rw [hvm]; exact hown
  have hins : (Cond.instantiable cls 6).before args s' = true := h _ (by simp [y_atX])
  obtain ⟨vm₁, cX, kX, hfX, hkX, -, -, X₁, st1⟩ := Y.newCold hexec (own := own) (C := cls) (index := ik) (n := 6) hown' hk' hins hini'
    (g := F0 m pc ls rest) rfl (by rw [hb]; exact d0) (Nat.le_refl _) (Nat.le_refl _)
  generalize hT1 : (T.setVm vm₁).pushCell { cls := cX, slots := kX.instanceTypes.map defaultValue, vm := .none } = T1 at X₁ st1
  have hcat : (Value.ref T.heap.size).category = 1 := rfl
  have hcellA : T1.heap[T.heap.size]? = some (freshCell cX kX) := by rw [← hT1]; exact State.heap_pushCell_size _ _
  have d3' : decode c.code (pc + 3) = .ok (.dup, 1) := by rw [hb]; exact d3
  have d4' : decode c.code (pc + 4) = .ok (.ldc is, 2) := by rw [hb]; exact d4
  have hstr' : vk_R own is text sa s' := vk_R.warm hW0 hstr
  obtain ⟨U, hsteps, hrun, hend, hW, hsame, ce, hce, hO⟩ := y_ctor X₁ hexec htr (own := own) (cls := cls) (YY := YY) (rr := rr) (ic := ic) x0 x1 x2 x5 hown' hcls hnames h (fun x hx => nomatch hx) hfX hkX hcellA (by rw [hhp, hT]; exact Nat.le_refl _) (msg := .ref sa) rfl
    (g := { method := m, pc := pc + 6, locals := ls, stack := .ref sa :: .ref T.heap.size :: .ref T.heap.size :: rest, locked := none }) rfl hsize rfl rfl (rest := rest) rfl
    (by rw [hb]; exact d6) (by rw [hb]; exact d9) hout hRframes (by simp only [List.map_cons, List.sum_cons, hcat]; omega) hlocks
  obtain ⟨f1, f2⟩ := vx_frame hsame
  rw [hhp] at f1 f2
  have hWs : s.WarmedH U.vm := State.WarmedH.trans hW0 hW
  have hcl : s.vm.findClass cls = some ce.cls := by
    have h9 := hO.1
    rw [hvm] at h9
    exact h9
  have hall : s.sameButNew ({ U with vm := s.vm } : State) locs mc ms := by
    subst hA
    obtain ⟨e1, e2⟩ := hsame
    rw [State.setFrames_setFrames] at e1
    have h2 : (T.setVm s.vm).sameButNew ({ U with vm := s.vm } : State) [] (0 + 1) (0 + 6) := ⟨e1, e2⟩
    have h3 := X.same.trans h2
    rw [List.append_nil] at h3
    exact h3.mono hc hs
  refine ⟨U, ?_, .threw T.heap.size, hrun, hend, Or.inr ⟨T.heap.size, rfl, cls, ce, locs, hx U hWs.alike f1 (fun q hq => f2 q hq (fun z hz => nomatch hz)), hce, hO.2, hcl, hWs, hall, hf⟩⟩
  refine st1 _ ?_
  show Steps p.tables e below (T1.setTop { method := m, pc := pc + 3, locals := ls, stack := .ref T.heap.size :: rest, locked := none }) _
  jvm_step X₁.here [X₁.here.top, hexec, d3', Value.category]
  exact X₁.ldcString hexec (own := own) (text := text) (index := is) (a := sa) hown' hstr'.1 hstr'.2
    (g := { method := m, pc := pc + 4, locals := ls, stack := .ref T.heap.size :: .ref T.heap.size :: rest, locked := none }) rfl d4' _ hsteps
def zL : List Nat := [6, 7, 7, 5, 8, 4, 8, 1, 1, 2, 10, 6]
def zB : List (List Int32) := [[109, 111, 100, 117, 108, 101], [112, 97, 99, 107, 97, 103, 101], [101, 120, 112, 111, 114, 116, 115], [111, 112, 101, 110, 115], [114, 101, 113, 117, 105, 114, 101, 115], [117, 115, 101, 115], [112, 114, 111, 118, 105, 100, 101, 115], [48], [49], [116, 111], [116, 114, 97, 110, 115, 105, 116, 105, 118, 101], [115, 116, 97, 116, 105, 99]]
def xR_JS : String := "java/lang/String"
def xR_JL : String := "java/lang/StringLatin1"
def xR_JP : String := "jdk/internal/util/Preconditions"
abbrev zT : Type := (Nat → Nat) × (Nat → Nat) × (Nat → Nat)
def zR (Z : zT) (U : State) : Prop := vk_R "LayerDesk$Shelf" 32 "module" (Z.1 0) U ∧ vk_R "LayerDesk$Shelf" 42 "package" (Z.1 1) U ∧ vk_R "LayerDesk$Shelf" 47 "exports" (Z.1 2) U ∧ vk_R "LayerDesk$Shelf" 49 "opens" (Z.1 3) U ∧ vk_R "LayerDesk$Shelf" 54 "requires" (Z.1 4) U ∧ vk_R "LayerDesk$Shelf" 59 "uses" (Z.1 5) U ∧ vk_R "LayerDesk$Shelf" 61 "provides" (Z.1 6) U ∧ vk_R "LayerDesk$Shelf" 66 "0" (Z.1 7) U ∧ vk_R "LayerDesk$Shelf" 68 "1" (Z.1 8) U ∧ vk_R "LayerDesk$Shelf" 109 "to" (Z.1 9) U ∧ vk_R "LayerDesk$Shelf" 124 "transitive" (Z.1 10) U ∧ vk_R "LayerDesk$Shelf" 126 "static" (Z.1 11) U ∧ vk_R "LayerDesk" 58 "not a line of a descriptor" (Z.2.2 58) U ∧ vk_R "LayerDesk" 65 "the line has no place now" (Z.2.2 65) U ∧ vk_R "LayerDesk" 80 "no roots, no such finder or no open parent" (Z.2.2 80) U ∧ vk_R "LayerDesk" 91 "a module is missing" (Z.2.2 91) U ∧ vk_R "LayerDesk" 104 "a cycle, a split, or five layers" (Z.2.2 104) U ∧ vk_R "LayerDesk" 161 "no such module, or no name" (Z.2.2 161) U ∧ vk_R "LayerDesk" 176 "the package comes from nowhere" (Z.2.2 176) U ∧ vk_R "LayerDesk" 181 "the module has no such package" (Z.2.2 181) U ∧ vk_R "LayerDesk" 190 "the layer is not open, or no name" (Z.2.2 190) U
theorem zR.warm {Z : zT} {s U : State} (hW : s.WarmedH U.vm) (h : zR Z s) : zR Z U := by
  obtain ⟨h0, h1, h2, h3, h4, h5, h6, h7, h8, h9, h10, h11, h12, h13, h14, h15, h16, h17, h18, h19, h20⟩ := h
  exact ⟨vk_R.warm hW h0, vk_R.warm hW h1, vk_R.warm hW h2, vk_R.warm hW h3, vk_R.warm hW h4, vk_R.warm hW h5, vk_R.warm hW h6, vk_R.warm hW h7, vk_R.warm hW h8, vk_R.warm hW h9, vk_R.warm hW h10, vk_R.warm hW h11, vk_R.warm hW h12, vk_R.warm hW h13, vk_R.warm hW h14, vk_R.warm hW h15, vk_R.warm hW h16, vk_R.warm hW h17, vk_R.warm hW h18, vk_R.warm hW h19, vk_R.warm hW h20⟩
theorem zR.same {Z : zT} {u U : State} (hv : U.vm = u.vm) (h : zR Z u) : zR Z U := by
  obtain ⟨h0, h1, h2, h3, h4, h5, h6, h7, h8, h9, h10, h11, h12, h13, h14, h15, h16, h17, h18, h19, h20⟩ := h
  exact ⟨vk_R.same hv h0, vk_R.same hv h1, vk_R.same hv h2, vk_R.same hv h3, vk_R.same hv h4, vk_R.same hv h5, vk_R.same hv h6, vk_R.same hv h7, vk_R.same hv h8, vk_R.same hv h9, vk_R.same hv h10, vk_R.same hv h11, vk_R.same hv h12, vk_R.same hv h13, vk_R.same hv h14, vk_R.same hv h15, vk_R.same hv h16, vk_R.same hv h17, vk_R.same hv h18, vk_R.same hv h19, vk_R.same hv h20⟩
def zN (U : State) : Prop := va_Nc "java/lang/IllegalStateException" "java/lang/IllegalArgumentException" U ∧ va_Nc "java/util/NoSuchElementException" "java/lang/IllegalArgumentException" U ∧ va_Nc "java/lang/IllegalStateException" "java/util/NoSuchElementException" U
theorem zN.moved {u U : State} (hvm : u.vm.Alike U.vm) (h : zN u) : zN U := ⟨va_Nc.moved hvm h.1, va_Nc.moved hvm h.2.1, va_Nc.moved hvm h.2.2⟩
def xZ (Z : zT) (A : Nat → Prop) (U : State) (H : Heap) : Prop := xUS A U H ∧ vk_S 12 zL zB Z.1 Z.2.1 A U H ∧ (va_Z "java/lang/String" "COMPACT_STRINGS" "Z" (.int 1) A U H ∧ vx_Zq "jdk/internal/util/Preconditions" "SIOOBE_FORMATTER" "Ljava/util/function/BiFunction;" A U H) ∧ zR Z U ∧ zN U
theorem xZ.kept {Z : zT} {A : Nat → Prop} {s : State} {H : Heap} {locs : List Loc} (h : xZ Z A s s.heap) (hS : va_S A s.heap H locs) : xZ Z A s H := ⟨xUS_kept h.1 hS, vk_S.kept h.2.1 hS.2.1, ⟨va_Z.kept h.2.2.1.1 hS.2.1, vx_Zq.kept h.2.2.1.2 hS.2.1⟩, h.2.2.2⟩
theorem xZ.narrow {Z : zT} {A B : Nat → Prop} {U : State} {H : Heap} (h : xZ Z A U H) (hAB : ∀ q, B q → A q) : xZ Z B U H := ⟨⟨vx_Zq.narrow h.1.1 hAB, vx_Zq.narrow h.1.2 hAB⟩, vk_S.narrow h.2.1 hAB, ⟨va_Z.narrow h.2.2.1.1 hAB, vx_Zq.narrow h.2.2.1.2 hAB⟩, h.2.2.2⟩
theorem xZ.warm {Z : zT} {A : Nat → Prop} {s U : State} {H : Heap} (hW : s.WarmedH U.vm) (h : xZ Z A s H) : xZ Z A U H := ⟨⟨vx_Zq.moved hW.alike h.1.1, vx_Zq.moved hW.alike h.1.2⟩, vk_S.moved hW.alike h.2.1, ⟨va_Z.moved hW.alike h.2.2.1.1, vx_Zq.moved hW.alike h.2.2.1.2⟩, zR.warm hW h.2.2.2.1, zN.moved hW.alike h.2.2.2.2⟩
def xPreZ (D : va_G) (kA : Nat → ClassId) (sz : Nat) (ws : va_W) (Z : zT) (U : State) : Prop := xPre D kA sz ws U ∧ xZ Z (va_A ws sz) U U.heap
theorem x_blindZ {av : List Value} {D : va_G} {kA : Nat → ClassId} {sz : Nat} {ws : va_W} {Z : zT} : FrameBlind (va_Pc av (xPreZ D kA sz ws Z)) := fun a U g mk h => by
  obtain ⟨q0, qp, ⟨qu, qv⟩, qs, ⟨qz, qy⟩, qr, qn⟩ := h
  have hp := x_blind (av := a.toList) (D := D) (kA := kA) (sz := sz) (ws := ws) a U g mk ⟨by simp, qp⟩
  exact ⟨q0, hp.2, ⟨vx_Zq.moved (u := U) (U := U.calling g mk a) (Vm.Alike.refl U.vm) qu, vx_Zq.moved (u := U) (U := U.calling g mk a) (Vm.Alike.refl U.vm) qv⟩, vk_S.moved (u := U) (U := U.calling g mk a) (Vm.Alike.refl U.vm) qs, ⟨va_Z.moved (u := U) (U := U.calling g mk a) (Vm.Alike.refl U.vm) qz, vx_Zq.moved (u := U) (U := U.calling g mk a) (Vm.Alike.refl U.vm) qy⟩, zR.same (u := U) (U := U.calling g mk a) rfl qr, zN.moved (u := U) (U := U.calling g mk a) (Vm.Alike.refl U.vm) qn⟩
theorem x_preSZ {s : State} {H : Heap} {D : va_G} {kA : Nat → ClassId} {wc : va_W} {A : Nat → Prop} {As : List Value} {Z : zT} (hK : xK D kA s) (hP : va_P D xcl wc H) (hD : va_D A wc) (hF : ∀ q, va_A wc H.size q → A q) (hZ : xZ Z A s H) : PreS s H (va_Pc As (xPreZ D kA H.size wc Z)) As :=
  ⟨x_blindZ, fun U hU1 hW => ⟨rfl, ⟨by rw [hU1], by rw [hU1]; exact hP, xK.warm hW hK, hD.weaken (fun _ _ _ _ => trivial)⟩, by rw [hU1]; exact xZ.warm hW (hZ.narrow hF)⟩⟩
theorem x_preTZ {s : State} {H : Heap} {D : va_G} {kA : Nat → ClassId} {wc : va_W} {A : Nat → Prop} {As : List Value} {Z : zT} {C : String} {b : Nat} (hr : ∃ cell : Cell, H[b]? = some cell ∧ cell.vm.isStatics = false ∧ s.vm.findClass C = some cell.cls) (hK : xK D kA s) (hP : va_P D xcl wc H) (hD : va_D A wc) (hF : ∀ q, va_A wc H.size q → A q) (hZ : xZ Z A s H) : PreV s H C b (va_Pc (.ref b :: As) (xPreZ D kA H.size wc Z)) As :=
  ⟨x_blindZ, hr, fun U hU1 hW => ⟨rfl, ⟨by rw [hU1], by rw [hU1]; exact hP, xK.warm hW hK, hD.weaken (fun _ _ _ _ => trivial)⟩, by rw [hU1]; exact xZ.warm hW (hZ.narrow hF)⟩⟩
theorem px_preVZ {s : State} {H : Heap} {D : va_G} {kA : Nat → ClassId} {A : Nat → Prop} {As : List Value} {Z : zT} {ad : Nat → Nat → Nat} {E : Nat → Nat → va_E} {RL : List (Nat × Nat)} {b o ci : Nat} {fs : List Value} {q : vw_C} (hK : xK D kA s) (hP : va_P D xcl (rp ad E RL) H) (hD : va_D A (rp ad E RL)) (hm : (b, o) ∈ RL) (he : E b o = .inr (ci, fs)) (hc : xcl[ci]? = some q) (hF : ∀ q, va_A (rp ad E RL) H.size q → A q) (hZ : xZ Z A s H) : PreV s H q.1 (ad b o) (va_Pc (.ref (ad b o) :: As) (xPreZ D kA H.size (rp ad E RL) Z)) As := by
  obtain ⟨q0, h0⟩ := rp_get (ad := ad) (E := E) hm
  rw [he] at h0
  exact x_preTZ (va_recv hK.1 hP hc h0) hK hP hD hF hZ
theorem y_atA : ∀ w ∈ (vx_atS "LayerDesk" 60 "java/lang/IllegalArgumentException" ["java/lang/RuntimeException", "java/lang/Exception"]).filter goodWord, w ∈ wT := fun w hw => List.mem_filter.mpr ⟨(show ∀ w ∈ (vx_atS "LayerDesk" 60 "java/lang/IllegalArgumentException" ["java/lang/RuntimeException", "java/lang/Exception"]), w ∈ lw_tbl by decide +kernel) w (List.mem_filter.mp hw).1, (List.mem_filter.mp hw).2⟩
theorem y_ngA : ∀ w ∈ (vx_atS "LayerDesk" 60 "java/lang/IllegalArgumentException" ["java/lang/RuntimeException", "java/lang/Exception"]).filter (fun w => !goodWord w), w ∈ ([.declares ⟨"java/lang/RuntimeException", "<init>", "(Ljava/lang/String;)V"⟩, .declares ⟨"java/lang/Exception", "<init>", "(Ljava/lang/String;)V"⟩, .declares ⟨"java/lang/Throwable", "<init>", "(Ljava/lang/String;)V"⟩, .castable "java/lang/IllegalArgumentException" "java/lang/IllegalArgumentException"] : List Cond) := by decide +kernel
theorem y_otA (ik : Nat) : ∀ w ∈ Cond.classLink "LayerDesk" ik "java/lang/IllegalArgumentException" :: Cond.initialized "java/lang/IllegalArgumentException" :: vx_atS "LayerDesk" 60 "java/lang/IllegalArgumentException" ["java/lang/RuntimeException", "java/lang/Exception"], vx_ot w = true := by
  intro w hw
  rcases List.mem_cons.mp hw with rfl | hw
  · rfl
  rcases List.mem_cons.mp hw with rfl | hw
  · rfl
  · exact (show ∀ w ∈ vx_atS "LayerDesk" 60 "java/lang/IllegalArgumentException" ["java/lang/RuntimeException", "java/lang/Exception"], vx_ot w = true by decide +kernel) w hw
theorem y_hatA {args : Array Value} {s : State} (hT : ∀ w ∈ wT, w.before args s = true) (hE : xE2 s) : ∀ w ∈ vx_atS "LayerDesk" 60 "java/lang/IllegalArgumentException" ["java/lang/RuntimeException", "java/lang/Exception"], w.before args s = true := by
  obtain ⟨h1, h2, h3, h4, h5, h6⟩ := hE
  exact vx_hat (fun w hw => hT w (y_atA w hw)) y_ngA (vx_c (va_Nw.use rfl h1) (vx_c (va_Nw.use rfl h2) (vx_c (va_Nw.use rfl h3) (vx_c (va_Nw.use rfl h4) vx_n))))
theorem y_throwA {p : Program} {l : Launch} {e : Env} {R : Room} {s : State} {m : MethodId} {args : Array Value} {below : List Frame} {meth : Method} {c : Code} {H : Heap} {locs : List Loc} {cells slots : Nat} {cc : ByteArray} {pc : Nat} {ls : Array Slot} {rest : List Value} {D : va_G} {kA : Nat → ClassId} {σ : Type} {Pp : σ → Prop} {wf : σ → va_W} {EE : String → Prop} {ik is mc ms sa : Nat} {text : String} {A : Nat → Prop} {Qc : Array Value → State → Outcome → State → Prop} (u : σ) (hp : Pp u) (hE : EE "java/lang/IllegalArgumentException") (hx : p.tables.exec = Jvm.exec) (hb : c.code = cc) (hlt : l.stackTraces = false) (hown : s.vm.findClass "LayerDesk" = some m.cls) (hT : ∀ w ∈ wT, w.before args s = true) (hK : xK D kA s) (hk : Cond.classLink "LayerDesk" ik "java/lang/IllegalArgumentException" ∈ wT) (hini : Cond.initialized "java/lang/IllegalArgumentException" ∈ wT) (hstr : vk_R "LayerDesk" is text sa s) (hU : xUS A s s.heap) (hS : va_S A s.heap H locs) (hP : va_P D xcl (wf u) H) (hD : va_D A (wf u)) (hsize : ls.size = c.maxLocals)
    (d0 : decode cc pc = .ok (.new ik, 3)) (d3 : decode cc (pc + 3) = .ok (.dup, 1)) (d4 : decode cc (pc + 4) = .ok (.ldc is, 2)) (d6 : decode cc (pc + 6) = .ok (.invokespecial 60, 3)) (d9 : decode cc (pc + 9) = .ok (.athrow, 1)) (htab : ∀ x ∈ c.exceptionTable.toList, False)
    (hRframes : 5 < R.frames) (hRlocals : (rest.map fun v => v.category).sum + 82 ≤ R.locals) (hRcells : cells + 1 ≤ R.cells) (hRslots : slots + 6 ≤ R.slots) (hlocks : meth.locks = false) (hc : cells + 1 ≤ mc) (hs : slots + 6 ≤ ms) :
    W p l e R s m args below meth c H locs cells slots (vx_MQ below Qc (vx_X Pp (fun E u t => EE E ∧ va_P D xcl (wf u) t.heap ∧ va_D A (wf u)) A) args s mc ms A) (F0 m pc ls rest) :=
  vx_throwS (own := "LayerDesk") (cls := "java/lang/IllegalArgumentException") (names := ["java/lang/RuntimeException", "java/lang/Exception"]) (sa := sa) (ic := 60) hx hb hlt hown (by decide +kernel) (by decide +kernel) (hT _ hk) (hT _ hini) hstr (y_hatA hT hK.2.2) (y_otA ik) hU.1 hU.2 hS hsize d0 d3 d4 d6 d9 (fun x hx9 => (htab x hx9).elim) hRframes hRlocals hRcells hRslots hlocks
    (fun t ht hz hq => ⟨u, hp, ⟨hE, x_keepP hP hq, hD⟩, x_FX hS hz hq⟩) hS.2.2 hc hs
theorem y_atB : ∀ w ∈ (vx_atS "LayerDesk" 67 "java/lang/IllegalStateException" ["java/lang/RuntimeException", "java/lang/Exception"]).filter goodWord, w ∈ wT := fun w hw => List.mem_filter.mpr ⟨(show ∀ w ∈ (vx_atS "LayerDesk" 67 "java/lang/IllegalStateException" ["java/lang/RuntimeException", "java/lang/Exception"]), w ∈ lw_tbl by decide +kernel) w (List.mem_filter.mp hw).1, (List.mem_filter.mp hw).2⟩
theorem y_ngB : ∀ w ∈ (vx_atS "LayerDesk" 67 "java/lang/IllegalStateException" ["java/lang/RuntimeException", "java/lang/Exception"]).filter (fun w => !goodWord w), w ∈ ([.declares ⟨"java/lang/RuntimeException", "<init>", "(Ljava/lang/String;)V"⟩, .declares ⟨"java/lang/Exception", "<init>", "(Ljava/lang/String;)V"⟩, .declares ⟨"java/lang/Throwable", "<init>", "(Ljava/lang/String;)V"⟩, .castable "java/lang/IllegalStateException" "java/lang/IllegalStateException"] : List Cond) := by decide +kernel
theorem y_otB (ik : Nat) : ∀ w ∈ Cond.classLink "LayerDesk" ik "java/lang/IllegalStateException" :: Cond.initialized "java/lang/IllegalStateException" :: vx_atS "LayerDesk" 67 "java/lang/IllegalStateException" ["java/lang/RuntimeException", "java/lang/Exception"], vx_ot w = true := by
  intro w hw
  rcases List.mem_cons.mp hw with rfl | hw
  · rfl
  rcases List.mem_cons.mp hw with rfl | hw
  · rfl
  · exact (show ∀ w ∈ vx_atS "LayerDesk" 67 "java/lang/IllegalStateException" ["java/lang/RuntimeException", "java/lang/Exception"], vx_ot w = true by decide +kernel) w hw
theorem y_hatB {args : Array Value} {s : State} (hT : ∀ w ∈ wT, w.before args s = true) (hE : xE2 s) : ∀ w ∈ vx_atS "LayerDesk" 67 "java/lang/IllegalStateException" ["java/lang/RuntimeException", "java/lang/Exception"], w.before args s = true := by
  obtain ⟨h1, h2, h3, h4, h5, h6⟩ := hE
  exact vx_hat (fun w hw => hT w (y_atB w hw)) y_ngB (vx_c (va_Nw.use rfl h1) (vx_c (va_Nw.use rfl h2) (vx_c (va_Nw.use rfl h3) (vx_c (va_Nw.use rfl h5) vx_n))))
theorem y_throwB {p : Program} {l : Launch} {e : Env} {R : Room} {s : State} {m : MethodId} {args : Array Value} {below : List Frame} {meth : Method} {c : Code} {H : Heap} {locs : List Loc} {cells slots : Nat} {cc : ByteArray} {pc : Nat} {ls : Array Slot} {rest : List Value} {D : va_G} {kA : Nat → ClassId} {σ : Type} {Pp : σ → Prop} {wf : σ → va_W} {EE : String → Prop} {ik is mc ms sa : Nat} {text : String} {A : Nat → Prop} {Qc : Array Value → State → Outcome → State → Prop} (u : σ) (hp : Pp u) (hE : EE "java/lang/IllegalStateException") (hx : p.tables.exec = Jvm.exec) (hb : c.code = cc) (hlt : l.stackTraces = false) (hown : s.vm.findClass "LayerDesk" = some m.cls) (hT : ∀ w ∈ wT, w.before args s = true) (hK : xK D kA s) (hk : Cond.classLink "LayerDesk" ik "java/lang/IllegalStateException" ∈ wT) (hini : Cond.initialized "java/lang/IllegalStateException" ∈ wT) (hstr : vk_R "LayerDesk" is text sa s) (hU : xUS A s s.heap) (hS : va_S A s.heap H locs) (hP : va_P D xcl (wf u) H) (hD : va_D A (wf u)) (hsize : ls.size = c.maxLocals)
    (d0 : decode cc pc = .ok (.new ik, 3)) (d3 : decode cc (pc + 3) = .ok (.dup, 1)) (d4 : decode cc (pc + 4) = .ok (.ldc is, 2)) (d6 : decode cc (pc + 6) = .ok (.invokespecial 67, 3)) (d9 : decode cc (pc + 9) = .ok (.athrow, 1)) (htab : ∀ x ∈ c.exceptionTable.toList, False)
    (hRframes : 5 < R.frames) (hRlocals : (rest.map fun v => v.category).sum + 82 ≤ R.locals) (hRcells : cells + 1 ≤ R.cells) (hRslots : slots + 6 ≤ R.slots) (hlocks : meth.locks = false) (hc : cells + 1 ≤ mc) (hs : slots + 6 ≤ ms) :
    W p l e R s m args below meth c H locs cells slots (vx_MQ below Qc (vx_X Pp (fun E u t => EE E ∧ va_P D xcl (wf u) t.heap ∧ va_D A (wf u)) A) args s mc ms A) (F0 m pc ls rest) :=
  vx_throwS (own := "LayerDesk") (cls := "java/lang/IllegalStateException") (names := ["java/lang/RuntimeException", "java/lang/Exception"]) (sa := sa) (ic := 67) hx hb hlt hown (by decide +kernel) (by decide +kernel) (hT _ hk) (hT _ hini) hstr (y_hatB hT hK.2.2) (y_otB ik) hU.1 hU.2 hS hsize d0 d3 d4 d6 d9 (fun x hx9 => (htab x hx9).elim) hRframes hRlocals hRcells hRslots hlocks
    (fun t ht hz hq => ⟨u, hp, ⟨hE, x_keepP hP hq, hD⟩, x_FX hS hz hq⟩) hS.2.2 hc hs
theorem y_atC : ∀ w ∈ ((y_atX "LayerDesk" 93 "java/util/NoSuchElementException" 13 prog_21_method_4_code "java/lang/RuntimeException" ["java/lang/Exception"]).filter vx_no).filter goodWord, w ∈ wT := fun w hw => List.mem_filter.mpr ⟨(show ∀ w ∈ ((y_atX "LayerDesk" 93 "java/util/NoSuchElementException" 13 prog_21_method_4_code "java/lang/RuntimeException" ["java/lang/Exception"]).filter vx_no), w ∈ lw_tbl by decide +kernel) w (List.mem_filter.mp hw).1, (List.mem_filter.mp hw).2⟩
theorem y_ngC : ∀ w ∈ ((y_atX "LayerDesk" 93 "java/util/NoSuchElementException" 13 prog_21_method_4_code "java/lang/RuntimeException" ["java/lang/Exception"]).filter vx_no).filter (fun w => !goodWord w), w ∈ ([.declares ⟨"java/lang/RuntimeException", "<init>", "(Ljava/lang/String;)V"⟩, .declares ⟨"java/lang/Exception", "<init>", "(Ljava/lang/String;)V"⟩, .declares ⟨"java/lang/Throwable", "<init>", "(Ljava/lang/String;)V"⟩, .castable "java/util/NoSuchElementException" "java/util/NoSuchElementException"] : List Cond) := by decide +kernel
theorem y_otC (ik : Nat) : ∀ w ∈ Cond.classLink "LayerDesk" ik "java/util/NoSuchElementException" :: Cond.initialized "java/util/NoSuchElementException" :: ((y_atX "LayerDesk" 93 "java/util/NoSuchElementException" 13 prog_21_method_4_code "java/lang/RuntimeException" ["java/lang/Exception"]).filter vx_no), vx_ot w = true := by
  intro w hw
  rcases List.mem_cons.mp hw with rfl | hw
  · rfl
  rcases List.mem_cons.mp hw with rfl | hw
  · rfl
  · exact (show ∀ w ∈ ((y_atX "LayerDesk" 93 "java/util/NoSuchElementException" 13 prog_21_method_4_code "java/lang/RuntimeException" ["java/lang/Exception"]).filter vx_no), vx_ot w = true by decide +kernel) w hw
theorem y_hatC {args : Array Value} {s : State} (hT : ∀ w ∈ wT, w.before args s = true) (hE : xE2 s) : ∀ w ∈ ((y_atX "LayerDesk" 93 "java/util/NoSuchElementException" 13 prog_21_method_4_code "java/lang/RuntimeException" ["java/lang/Exception"]).filter vx_no), w.before args s = true := by
  obtain ⟨h1, h2, h3, h4, h5, h6⟩ := hE
  exact vx_hat (fun w hw => hT w (y_atC w hw)) y_ngC (vx_c (va_Nw.use rfl h1) (vx_c (va_Nw.use rfl h2) (vx_c (va_Nw.use rfl h3) (vx_c (va_Nw.use rfl h6) vx_n))))
theorem y_throwC {p : Program} {l : Launch} {e : Env} {R : Room} {s : State} {m : MethodId} {args : Array Value} {below : List Frame} {meth : Method} {c : Code} {H : Heap} {locs : List Loc} {cells slots : Nat} {cc : ByteArray} {pc : Nat} {ls : Array Slot} {rest : List Value} {D : va_G} {kA : Nat → ClassId} {σ : Type} {Pp : σ → Prop} {wf : σ → va_W} {EE : String → Prop} {ik is mc ms sa : Nat} {text : String} {A : Nat → Prop} {Qc : Array Value → State → Outcome → State → Prop} (u : σ) (hp : Pp u) (hE : EE "java/util/NoSuchElementException") (hx : p.tables.exec = Jvm.exec) (hb : c.code = cc) (hlt : l.stackTraces = false) (hown : s.vm.findClass "LayerDesk" = some m.cls) (hT : ∀ w ∈ wT, w.before args s = true) (hK : xK D kA s) (hk : Cond.classLink "LayerDesk" ik "java/util/NoSuchElementException" ∈ wT) (hini : Cond.initialized "java/util/NoSuchElementException" ∈ wT) (hstr : vk_R "LayerDesk" is text sa s) (hU : xUS A s s.heap) (hS : va_S A s.heap H locs) (hP : va_P D xcl (wf u) H) (hD : va_D A (wf u)) (hsize : ls.size = c.maxLocals)
    (d0 : decode cc pc = .ok (.new ik, 3)) (d3 : decode cc (pc + 3) = .ok (.dup, 1)) (d4 : decode cc (pc + 4) = .ok (.ldc is, 2)) (d6 : decode cc (pc + 6) = .ok (.invokespecial 93, 3)) (d9 : decode cc (pc + 9) = .ok (.athrow, 1)) (htab : ∀ x ∈ c.exceptionTable.toList, False)
    (hRframes : 5 < R.frames) (hRlocals : (rest.map fun v => v.category).sum + 82 ≤ R.locals) (hRcells : cells + 1 ≤ R.cells) (hRslots : slots + 6 ≤ R.slots) (hlocks : meth.locks = false) (hc : cells + 1 ≤ mc) (hs : slots + 6 ≤ ms) :
    W p l e R s m args below meth c H locs cells slots (vx_MQ below Qc (vx_X Pp (fun E u t => EE E ∧ va_P D xcl (wf u) t.heap ∧ va_D A (wf u)) A) args s mc ms A) (F0 m pc ls rest) :=
  y_throwSX (by decide +kernel) (by decide +kernel) (by decide +kernel) (by decide +kernel) (own := "LayerDesk") (cls := "java/util/NoSuchElementException") (YY := "java/lang/RuntimeException") (rr := ["java/lang/Exception"]) (sa := sa) (ic := 93) (ix := 13) (rx := prog_21_method_4_code) hx hb hlt hown (by decide +kernel) (by decide +kernel) (hT _ hk) (hT _ hini) hstr (y_hatC hT hK.2.2) (y_otC ik) hU.1 hU.2 hS hsize d0 d3 d4 d6 d9 (fun x hx9 => (htab x hx9).elim) hRframes hRlocals hRcells hRslots hlocks
    (fun t ht hz hq => ⟨u, hp, ⟨hE, x_keepP hP hq, hD⟩, x_FX hS hz hq⟩) hS.2.2 hc hs
theorem z_len : ∀ i, i < 12 → zL.getD i 0 ≤ 10 := by decide
abbrev xb_JS_coder : ByteArray := prog_17_method_152_code
def xy_JS_coder : MethodName := ⟨"java/lang/String", "coder", "()B"⟩
abbrev xb_JS_isLatin1 : ByteArray := prog_17_method_154_code
def xy_JS_isLatin1 : MethodName := ⟨"java/lang/String", "isLatin1", "()Z"⟩
abbrev xb_JS_length : ByteArray := prog_17_method_54_code
def xy_JS_length : MethodName := ⟨"java/lang/String", "length", "()I"⟩
abbrev xb_JP_checkIndex : ByteArray := prog_22_method_11_code
def xy_JP_checkIndex : MethodName := ⟨"jdk/internal/util/Preconditions", "checkIndex", "(IILjava/util/function/BiFunction;)I"⟩
abbrev xb_JS_checkIndex : ByteArray := prog_17_method_155_code
def xy_JS_checkIndex : MethodName := ⟨"java/lang/String", "checkIndex", "(II)V"⟩
abbrev xb_JL_charAt : ByteArray := prog_18_method_2_code
def xy_JL_charAt : MethodName := ⟨"java/lang/StringLatin1", "charAt", "([BI)C"⟩
abbrev xb_JS_charAt : ByteArray := prog_17_method_56_code
def xy_JS_charAt : MethodName := ⟨"java/lang/String", "charAt", "(I)C"⟩
theorem xd_JL_charAt_0 : decode xb_JL_charAt 0 = .ok (.iload_n 1, 1) := by decide +kernel
theorem xd_JL_charAt_1 : decode xb_JL_charAt 1 = .ok (.aload_n 0, 1) := by decide +kernel
theorem xd_JL_charAt_2 : decode xb_JL_charAt 2 = .ok (.arraylength, 1) := by decide +kernel
theorem xd_JL_charAt_3 : decode xb_JL_charAt 3 = .ok (.invokestatic 9, 3) := by decide +kernel
theorem xd_JL_charAt_6 : decode xb_JL_charAt 6 = .ok (.aload_n 0, 1) := by decide +kernel
theorem xd_JL_charAt_7 : decode xb_JL_charAt 7 = .ok (.iload_n 1, 1) := by decide +kernel
theorem xd_JL_charAt_8 : decode xb_JL_charAt 8 = .ok (.baload, 1) := by decide +kernel
theorem xd_JL_charAt_9 : decode xb_JL_charAt 9 = .ok (.sipush 255, 3) := by decide +kernel
theorem xd_JL_charAt_12 : decode xb_JL_charAt 12 = .ok (.iand, 1) := by decide +kernel
theorem xd_JL_charAt_13 : decode xb_JL_charAt 13 = .ok (.i2c, 1) := by decide +kernel
theorem xd_JL_charAt_14 : decode xb_JL_charAt 14 = .ok (.ireturn, 1) := by decide +kernel
theorem xd_JP_checkIndex_0 : decode xb_JP_checkIndex 0 = .ok (.iload_n 0, 1) := by decide +kernel
theorem xd_JP_checkIndex_1 : decode xb_JP_checkIndex 1 = .ok (.ifCond .lt 8, 3) := by decide +kernel
theorem xd_JP_checkIndex_4 : decode xb_JP_checkIndex 4 = .ok (.iload_n 0, 1) := by decide +kernel
theorem xd_JP_checkIndex_5 : decode xb_JP_checkIndex 5 = .ok (.iload_n 1, 1) := by decide +kernel
theorem xd_JP_checkIndex_6 : decode xb_JP_checkIndex 6 = .ok (.if_icmp .lt 10, 3) := by decide +kernel
theorem xd_JP_checkIndex_16 : decode xb_JP_checkIndex 16 = .ok (.iload_n 0, 1) := by decide +kernel
theorem xd_JP_checkIndex_17 : decode xb_JP_checkIndex 17 = .ok (.ireturn, 1) := by decide +kernel
theorem xd_JS_charAt_0 : decode xb_JS_charAt 0 = .ok (.aload_n 0, 1) := by decide +kernel
theorem xd_JS_charAt_1 : decode xb_JS_charAt 1 = .ok (.invokevirtual 492, 3) := by decide +kernel
theorem xd_JS_charAt_4 : decode xb_JS_charAt 4 = .ok (.ifCond .eq 12, 3) := by decide +kernel
theorem xd_JS_charAt_7 : decode xb_JS_charAt 7 = .ok (.aload_n 0, 1) := by decide +kernel
theorem xd_JS_charAt_8 : decode xb_JS_charAt 8 = .ok (.getfield 9, 3) := by decide +kernel
theorem xd_JS_charAt_11 : decode xb_JS_charAt 11 = .ok (.iload_n 1, 1) := by decide +kernel
theorem xd_JS_charAt_12 : decode xb_JS_charAt 12 = .ok (.invokestatic 495, 3) := by decide +kernel
theorem xd_JS_charAt_15 : decode xb_JS_charAt 15 = .ok (.ireturn, 1) := by decide +kernel
theorem xd_JS_checkIndex_0 : decode xb_JS_checkIndex 0 = .ok (.iload_n 0, 1) := by decide +kernel
theorem xd_JS_checkIndex_1 : decode xb_JS_checkIndex 1 = .ok (.iload_n 1, 1) := by decide +kernel
theorem xd_JS_checkIndex_2 : decode xb_JS_checkIndex 2 = .ok (.getstatic 1053, 3) := by decide +kernel
theorem xd_JS_checkIndex_5 : decode xb_JS_checkIndex 5 = .ok (.invokestatic 1059, 3) := by decide +kernel
theorem xd_JS_checkIndex_8 : decode xb_JS_checkIndex 8 = .ok (.pop, 1) := by decide +kernel
theorem xd_JS_checkIndex_9 : decode xb_JS_checkIndex 9 = .ok (.return_, 1) := by decide +kernel
theorem xd_JS_coder_0 : decode xb_JS_coder 0 = .ok (.getstatic 38, 3) := by decide +kernel
theorem xd_JS_coder_3 : decode xb_JS_coder 3 = .ok (.ifCond .eq 10, 3) := by decide +kernel
theorem xd_JS_coder_6 : decode xb_JS_coder 6 = .ok (.aload_n 0, 1) := by decide +kernel
theorem xd_JS_coder_7 : decode xb_JS_coder 7 = .ok (.getfield 15, 3) := by decide +kernel
theorem xd_JS_coder_10 : decode xb_JS_coder 10 = .ok (.goto 4, 3) := by decide +kernel
theorem xd_JS_coder_14 : decode xb_JS_coder 14 = .ok (.ireturn, 1) := by decide +kernel
theorem xd_JS_isLatin1_0 : decode xb_JS_isLatin1 0 = .ok (.getstatic 38, 3) := by decide +kernel
theorem xd_JS_isLatin1_3 : decode xb_JS_isLatin1 3 = .ok (.ifCond .eq 14, 3) := by decide +kernel
theorem xd_JS_isLatin1_6 : decode xb_JS_isLatin1 6 = .ok (.aload_n 0, 1) := by decide +kernel
theorem xd_JS_isLatin1_7 : decode xb_JS_isLatin1 7 = .ok (.getfield 15, 3) := by decide +kernel
theorem xd_JS_isLatin1_10 : decode xb_JS_isLatin1 10 = .ok (.ifCond .ne 7, 3) := by decide +kernel
theorem xd_JS_isLatin1_13 : decode xb_JS_isLatin1 13 = .ok (.iconst 1, 1) := by decide +kernel
theorem xd_JS_isLatin1_14 : decode xb_JS_isLatin1 14 = .ok (.goto 4, 3) := by decide +kernel
theorem xd_JS_isLatin1_18 : decode xb_JS_isLatin1 18 = .ok (.ireturn, 1) := by decide +kernel
theorem xd_JS_length_0 : decode xb_JS_length 0 = .ok (.aload_n 0, 1) := by decide +kernel
theorem xd_JS_length_1 : decode xb_JS_length 1 = .ok (.getfield 9, 3) := by decide +kernel
theorem xd_JS_length_4 : decode xb_JS_length 4 = .ok (.arraylength, 1) := by decide +kernel
theorem xd_JS_length_5 : decode xb_JS_length 5 = .ok (.aload_n 0, 1) := by decide +kernel
theorem xd_JS_length_6 : decode xb_JS_length 6 = .ok (.invokevirtual 335, 3) := by decide +kernel
theorem xd_JS_length_9 : decode xb_JS_length 9 = .ok (.ishr, 1) := by decide +kernel
theorem xd_JS_length_10 : decode xb_JS_length 10 = .ok (.ireturn, 1) := by decide +kernel
theorem yv_0 : (Cond.fieldLink "java/lang/String" 38 "java/lang/String" "COMPACT_STRINGS" "Z") ∈ wT := wT_t (List.mem_append_left _ (List.mem_of_getElem? (i := 208) rfl)) rfl
theorem yv_1 : (Cond.fieldLink "java/lang/String" 15 "java/lang/String" "coder" "B") ∈ wT := wT_t (List.mem_append_right _ (List.mem_append_right _ (List.mem_append_right _ (List.mem_append_right _ (List.mem_of_getElem? (i := 112) rfl))))) rfl
theorem yv_2 : (Cond.fieldLink "java/lang/String" 9 "java/lang/String" "value" "[B") ∈ wT := wT_t (List.mem_append_right _ (List.mem_append_right _ (List.mem_append_right _ (List.mem_append_right _ (List.mem_of_getElem? (i := 111) rfl))))) rfl
theorem yv_3 : (Cond.code xy_JS_coder xb_JS_coder 1 (some .byte)) ∈ wT := wT_t (List.mem_append_left _ (List.mem_of_getElem? (i := 207) rfl)) rfl
theorem yv_4 : (Cond.methodLink "java/lang/String" 335 xy_JS_coder) ∈ wT := wT_t (List.mem_append_left _ (List.mem_of_getElem? (i := 204) rfl)) rfl
theorem yv_5 : (Cond.instanceMethod xy_JS_coder) ∈ wT := wT_t (List.mem_append_left _ (List.mem_of_getElem? (i := 205) rfl)) rfl
theorem yv_6 : (Cond.selects "java/lang/String" xy_JS_coder xy_JS_coder) ∈ wT := wT_t (List.mem_append_left _ (List.mem_of_getElem? (i := 206) rfl)) rfl
theorem yv_7 : (Cond.initialized "java/lang/String") ∈ wT := wT_t (List.mem_append_left _ (List.mem_of_getElem? (i := 6) rfl)) rfl
theorem yv_8 : (Cond.fieldLink "java/lang/String" 1053 "jdk/internal/util/Preconditions" "SIOOBE_FORMATTER" "Ljava/util/function/BiFunction;") ∈ wT := wT_t (List.mem_append_left _ (List.mem_of_getElem? (i := 224) rfl)) rfl
theorem yv_9 : (Cond.code xy_JP_checkIndex xb_JP_checkIndex 3 (some .int)) ∈ wT := wT_t (List.mem_append_left _ (List.mem_of_getElem? (i := 228) rfl)) rfl
theorem yv_10 : (Cond.methodLink "java/lang/String" 1059 xy_JP_checkIndex) ∈ wT := wT_t (List.mem_append_left _ (List.mem_of_getElem? (i := 226) rfl)) rfl
theorem yv_11 : (Cond.static xy_JP_checkIndex) ∈ wT := wT_t (List.mem_append_left _ (List.mem_of_getElem? (i := 227) rfl)) rfl
theorem yv_12 : (Cond.initialized "jdk/internal/util/Preconditions") ∈ wT := wT_t (List.mem_append_left _ (List.mem_of_getElem? (i := 8) rfl)) rfl
set_option maxHeartbeats 4000000 in
set_option maxRecDepth 100000 in
theorem xc_JS_coder (l : Launch) (D : va_G) (kA : Nat → ClassId) (sz : Nat) (ad : Nat → Nat → Nat) (E : Nat → Nat → va_E) (RL : List (Nat × Nat)) (Z : zT) (si : Nat) (hsi : si < 12) : Met l xy_JS_coder (.code xy_JS_coder xb_JS_coder 1 (some .byte) :: wT) { frames := 0, cells := 0, slots := 0, locals := 0 } (va_Pc [.ref (Z.1 si)] (xPreZ D kA sz (rp ad E RL) Z)) (va_Qi (fun (r : Int32) (u : Unit) => r = 0) (fun (u : Unit) t => va_P D xcl (rp ad E RL) t.heap ∧ va_D (va_A (rp ad E RL) sz) (rp ad E RL)) (va_A (rp ad E RL) sz)) 0 0 (va_A (rp ad E RL) sz) := by
  refine Met.ofW (cc := xb_JS_coder) (maxL := 1) (ret := (some .byte)) (by decide) rfl ?_
  intro p e s m args below meth c s₁ B hml hv
  obtain ⟨rfl, ⟨hsz, hP, hK, hD0⟩, hZ⟩ := hv
  have hx := B.exec
  have hb := B.bytes
  have hr := B.returns
  have hT := x_hT B.pre
  have hown : s.vm.findClass xR_JS = some m.cls := findClass_of_methodNamed B.named
  have hlocks := B.notSynchronized
  subst hsz
  have hD := hD0.self (sz := s.heap.size)
  generalize hAe : va_A (rp ad E RL) s.heap.size = A at hD hZ ⊢
  have hA : ∀ q : Nat, s.heap.size ≤ q → A q := fun q h => by rw [← hAe]; exact Or.inr h
  have hS : va_S A s.heap s.heap [] := va_S.rf
  have hl := lv_entry ([.ref (Z.1 si)]) (n := 1) (Nat.le_of_ble_eq_true rfl)
  rw [lg_entry_eq]
  generalize (lg_sl ([.ref (Z.1 si)]) ++ List.replicate (1 - (lg_sl ([.ref (Z.1 si)])).length) Slot.unset).toArray = ls at hl ⊢
  have hl : lv_has ls 1 [(0, .ref (Z.1 si))] := hl
  have hP : va_P D xcl (rp ad E RL) s.heap := hP
  refine va_gets (C := "java/lang/String") (n := "COMPACT_STRINGS") (d := "Z") (ref := "java/lang/String") hx hb hZ.2.2.1.1 hS hown (hT _ yv_0) (fun _ h9 => h9) xd_JS_coder_0 ?_
  refine lv_if_eq (tgt := 13) hx hb xd_JS_coder_3 (by decide) (fun hc1 => absurd hc1 (by decide)) (fun _ => ?_)
  refine lv_aload_n hx hb xd_JS_coder_6 rfl (lv_at hl 0 rfl) ?_
  refine vk_getf (o := "java/lang/String") (n := "coder") (d := "B") (ref := "java/lang/String") hx hb (hZ.2.1.1 si hsi).2.1 hS hown (hT _ yv_1) (fun _ h9 => h9) xd_JS_coder_7 ?_
  refine lv_goto (tgt := 14) hx hb xd_JS_coder_10 (by decide) ?_
  exact W.zret (v := 0) hx hb hr rfl (fun t ht hW => ⟨⟨0, (), rfl, rfl, by rw [ht]; exact hP, hD⟩, hS.F ht⟩) hS.2.2 xd_JS_coder_14
set_option maxHeartbeats 4000000 in
set_option maxRecDepth 100000 in
theorem xc_JS_isLatin1 (l : Launch) (D : va_G) (kA : Nat → ClassId) (sz : Nat) (ad : Nat → Nat → Nat) (E : Nat → Nat → va_E) (RL : List (Nat × Nat)) (Z : zT) (si : Nat) (hsi : si < 12) : Met l xy_JS_isLatin1 (.code xy_JS_isLatin1 xb_JS_isLatin1 1 (some .boolean) :: wT) { frames := 0, cells := 0, slots := 0, locals := 0 } (va_Pc [.ref (Z.1 si)] (xPreZ D kA sz (rp ad E RL) Z)) (va_Qi (fun (r : Int32) (u : Unit) => r = 1) (fun (u : Unit) t => va_P D xcl (rp ad E RL) t.heap ∧ va_D (va_A (rp ad E RL) sz) (rp ad E RL)) (va_A (rp ad E RL) sz)) 0 0 (va_A (rp ad E RL) sz) := by
  refine Met.ofW (cc := xb_JS_isLatin1) (maxL := 1) (ret := (some .boolean)) (by decide) rfl ?_
  intro p e s m args below meth c s₁ B hml hv
  obtain ⟨rfl, ⟨hsz, hP, hK, hD0⟩, hZ⟩ := hv
  have hx := B.exec
  have hb := B.bytes
  have hr := B.returns
  have hT := x_hT B.pre
  have hown : s.vm.findClass xR_JS = some m.cls := findClass_of_methodNamed B.named
  have hlocks := B.notSynchronized
  subst hsz
  have hD := hD0.self (sz := s.heap.size)
  generalize hAe : va_A (rp ad E RL) s.heap.size = A at hD hZ ⊢
  have hA : ∀ q : Nat, s.heap.size ≤ q → A q := fun q h => by rw [← hAe]; exact Or.inr h
  have hS : va_S A s.heap s.heap [] := va_S.rf
  have hl := lv_entry ([.ref (Z.1 si)]) (n := 1) (Nat.le_of_ble_eq_true rfl)
  rw [lg_entry_eq]
  generalize (lg_sl ([.ref (Z.1 si)]) ++ List.replicate (1 - (lg_sl ([.ref (Z.1 si)])).length) Slot.unset).toArray = ls at hl ⊢
  have hl : lv_has ls 1 [(0, .ref (Z.1 si))] := hl
  have hP : va_P D xcl (rp ad E RL) s.heap := hP
  refine va_gets (C := "java/lang/String") (n := "COMPACT_STRINGS") (d := "Z") (ref := "java/lang/String") hx hb hZ.2.2.1.1 hS hown (hT _ yv_0) (fun _ h9 => h9) xd_JS_isLatin1_0 ?_
  refine lv_if_eq (tgt := 17) hx hb xd_JS_isLatin1_3 (by decide) (fun hc1 => absurd hc1 (by decide)) (fun _ => ?_)
  refine lv_aload_n hx hb xd_JS_isLatin1_6 rfl (lv_at hl 0 rfl) ?_
  refine vk_getf (o := "java/lang/String") (n := "coder") (d := "B") (ref := "java/lang/String") hx hb (hZ.2.1.1 si hsi).2.1 hS hown (hT _ yv_1) (fun _ h9 => h9) xd_JS_isLatin1_7 ?_
  refine lv_if_ne (tgt := 17) hx hb xd_JS_isLatin1_10 (by decide) (fun hc2 => absurd (by decide) hc2) (fun _ => ?_)
  refine lv_iconst (v := 1) hx hb xd_JS_isLatin1_13 (by decide) ?_
  refine lv_goto (tgt := 18) hx hb xd_JS_isLatin1_14 (by decide) ?_
  exact W.zret (v := 1) hx hb hr rfl (fun t ht hW => ⟨⟨1, (), rfl, rfl, by rw [ht]; exact hP, hD⟩, hS.F ht⟩) hS.2.2 xd_JS_isLatin1_18
set_option maxHeartbeats 4000000 in
set_option maxRecDepth 100000 in
theorem xc_JS_length (l : Launch) (D : va_G) (kA : Nat → ClassId) (sz : Nat) (ad : Nat → Nat → Nat) (E : Nat → Nat → va_E) (RL : List (Nat × Nat)) (Z : zT) (si : Nat) (hsi : si < 12) : Met l xy_JS_length (.code xy_JS_length xb_JS_length 1 (some .int) :: wT) { frames := 1, cells := 0, slots := 0, locals := 20 } (va_Pc [.ref (Z.1 si)] (xPreZ D kA sz (rp ad E RL) Z)) (va_Qi (fun (r : Int32) (u : Unit) => r = nI (zL.getD si 0)) (fun (u : Unit) t => va_P D xcl (rp ad E RL) t.heap ∧ va_D (va_A (rp ad E RL) sz) (rp ad E RL)) (va_A (rp ad E RL) sz)) 0 0 (va_A (rp ad E RL) sz) := by
  refine Met.ofW (cc := xb_JS_length) (maxL := 1) (ret := (some .int)) (by decide) rfl ?_
  intro p e s m args below meth c s₁ B hml hv
  obtain ⟨rfl, ⟨hsz, hP, hK, hD0⟩, hZ⟩ := hv
  have hx := B.exec
  have hb := B.bytes
  have hr := B.returns
  have hT := x_hT B.pre
  have hown : s.vm.findClass xR_JS = some m.cls := findClass_of_methodNamed B.named
  have hlocks := B.notSynchronized
  subst hsz
  have hD := hD0.self (sz := s.heap.size)
  generalize hAe : va_A (rp ad E RL) s.heap.size = A at hD hZ ⊢
  have hA : ∀ q : Nat, s.heap.size ≤ q → A q := fun q h => by rw [← hAe]; exact Or.inr h
  have hS : va_S A s.heap s.heap [] := va_S.rf
  have hl := lv_entry ([.ref (Z.1 si)]) (n := 1) (Nat.le_of_ble_eq_true rfl)
  rw [lg_entry_eq]
  generalize (lg_sl ([.ref (Z.1 si)]) ++ List.replicate (1 - (lg_sl ([.ref (Z.1 si)])).length) Slot.unset).toArray = ls at hl ⊢
  have hl : lv_has ls 1 [(0, .ref (Z.1 si))] := hl
  have hP : va_P D xcl (rp ad E RL) s.heap := hP
  refine lv_aload_n hx hb xd_JS_length_0 rfl (lv_at hl 0 rfl) ?_
  refine vk_getf (o := "java/lang/String") (n := "value") (d := "[B") (ref := "java/lang/String") hx hb (hZ.2.1.1 si hsi).2.2.1 hS hown (hT _ yv_2) (fun _ h9 => h9) xd_JS_length_1 ?_
  refine va_tlen (v := nI (zL.getD si 0)) hx hb (hZ.2.1.1 si hsi).2.2.2 hS rfl xd_JS_length_4 ?_
  refine lv_aload_n hx hb xd_JS_length_5 rfl (lv_at hl 0 rfl) ?_
  have hFc := px_free hD hS hA
  refine va_calli (va_runV (As := []) (rest := [.int (nI ((zL.getD si 0)))]) ⟨hx, hb, hml, hown, hT⟩ (xc_JS_coder l D kA s.heap.size ad E RL Z si (by first | assumption | omega)) (cwV 0 hT (wT_V yv_4 yv_5 yv_6 yv_7 yv_3) rfl rfl rfl (by decide +kernel) ⟨Nat.le_of_ble_eq_true rfl, Nat.le_of_ble_eq_true rfl⟩) (x_preTZ (vk_recv hZ.2.1 hsi hS) hK hP hD hFc (hZ.kept hS)) rfl rfl hl.1 rfl (lv_room (Nat.le_of_ble_eq_true rfl)) xd_JS_length_6 ⟨(Nat.le_of_ble_eq_true rfl), (Nat.le_of_ble_eq_true rfl)⟩) hS (fun q _ h => hFc q h) hFc (fun r1 u2 t H1 locs ht hvm hp3 hB hz1 hk1 hS => ?_)
  obtain ⟨hP1, hD1⟩ := hB
  rw [ht] at hP1
  have hD1 := hD1.weaken (fun _ _ _ h => hFc _ h)
  generalize H1 = H at hP1 hS ⊢
  have hP := hP1
  have hD := hD1
  have hP : va_P D xcl (rp ad E RL) H := hP
  have hD : va_D A (rp ad E RL) := hD
  rcases hp3 with rfl
  · refine W.eq (g2 := F0 m 9 ls [.int 0, .int (nI ((zL.getD si 0)))]) rfl ?_
    refine lv_ishr hx hb xd_JS_length_9 ?_
    refine xn_top (y := nI (zL.getD si 0)) (sc_shr0 (by have := z_len si hsi; omega)) ?_
    exact W.iret (v := (nI ((zL.getD si 0)))) hx hb hr (fun t ht hW => ⟨⟨(nI ((zL.getD si 0))), (), rfl, rfl, by rw [ht]; exact hP, hD⟩, hS.F ht⟩) hS.2.2 xd_JS_length_10
set_option maxHeartbeats 4000000 in
set_option maxRecDepth 100000 in
theorem xc_JP_ckN (l : Launch) (D : va_G) (kA : Nat → ClassId) (sz : Nat) (ad : Nat → Nat → Nat) (E : Nat → Nat → va_E) (RL : List (Nat × Nat)) (k : Nat) (n : Nat) (hkn : k < n) (hn9 : n ≤ 100) : Met l xy_JP_checkIndex (.code xy_JP_checkIndex xb_JP_checkIndex 3 (some .int) :: wT) { frames := 0, cells := 0, slots := 0, locals := 0 } (va_Pc [.int (nI k), .int (nI n), .null] (xPre D kA sz (rp ad E RL))) (va_Qi (fun (r : Int32) (u : Unit) => True) (fun (u : Unit) t => va_P D xcl (rp ad E RL) t.heap ∧ va_D (va_A (rp ad E RL) sz) (rp ad E RL)) (va_A (rp ad E RL) sz)) 0 0 (va_A (rp ad E RL) sz) := by
  refine Met.ofW (cc := xb_JP_checkIndex) (maxL := 3) (ret := (some .int)) (by decide) rfl ?_
  intro p e s m args below meth c s₁ B hml hv
  obtain ⟨rfl, hsz, hP, hK, hD0⟩ := hv
  have hx := B.exec
  have hb := B.bytes
  have hr := B.returns
  have hT := x_hT B.pre
  have hown : s.vm.findClass xR_JP = some m.cls := findClass_of_methodNamed B.named
  have hlocks := B.notSynchronized
  subst hsz
  have hD := hD0.self (sz := s.heap.size)
  generalize hAe : va_A (rp ad E RL) s.heap.size = A at hD ⊢
  have hA : ∀ q : Nat, s.heap.size ≤ q → A q := fun q h => by rw [← hAe]; exact Or.inr h
  have hS : va_S A s.heap s.heap [] := va_S.rf
  have hl := lv_entry ([.int (nI k), .int (nI n), .null]) (n := 3) (Nat.le_of_ble_eq_true rfl)
  rw [lg_entry_eq]
  generalize (lg_sl ([.int (nI k), .int (nI n), .null]) ++ List.replicate (3 - (lg_sl ([.int (nI k), .int (nI n), .null])).length) Slot.unset).toArray = ls at hl ⊢
  have hl : lv_has ls 3 [(0, .int (nI k)), (1, .int (nI n)), (2, .null)] := hl
  have hP : va_P D xcl (rp ad E RL) s.heap := hP
  refine lv_iload_n hx hb xd_JP_checkIndex_0 rfl (lv_at hl 0 rfl) ?_
  refine xz_lt (a := k) (tgt := 9) hx hb xd_JP_checkIndex_1 (by decide) (by omega) ?_
  refine lv_iload_n hx hb xd_JP_checkIndex_4 rfl (lv_at hl 0 rfl) ?_
  refine lv_iload_n hx hb xd_JP_checkIndex_5 rfl (lv_at hl 1 rfl) ?_
  refine xn_lt (a := k) (b := n) (tgt := 16) hx hb xd_JP_checkIndex_6 (by decide) (by omega) (by omega) (fun _ => ?_) (fun hc2 => absurd hc2 (by omega))
  refine lv_iload_n hx hb xd_JP_checkIndex_16 rfl (lv_at hl 0 rfl) ?_
  exact W.iret (v := (nI k)) hx hb hr (fun t ht hW => ⟨⟨(nI k), (), rfl, trivial, by rw [ht]; exact hP, hD⟩, hS.F ht⟩) hS.2.2 xd_JP_checkIndex_17
set_option maxHeartbeats 4000000 in
set_option maxRecDepth 100000 in
theorem xc_JP_ckR (l : Launch) (D : va_G) (kA : Nat → ClassId) (sz : Nat) (ad : Nat → Nat → Nat) (E : Nat → Nat → va_E) (RL : List (Nat × Nat)) (k : Nat) (n : Nat) (pa : Nat) (hkn : k < n) (hn9 : n ≤ 100) : Met l xy_JP_checkIndex (.code xy_JP_checkIndex xb_JP_checkIndex 3 (some .int) :: wT) { frames := 0, cells := 0, slots := 0, locals := 0 } (va_Pc [.int (nI k), .int (nI n), .ref pa] (xPre D kA sz (rp ad E RL))) (va_Qi (fun (r : Int32) (u : Unit) => True) (fun (u : Unit) t => va_P D xcl (rp ad E RL) t.heap ∧ va_D (va_A (rp ad E RL) sz) (rp ad E RL)) (va_A (rp ad E RL) sz)) 0 0 (va_A (rp ad E RL) sz) := by
  refine Met.ofW (cc := xb_JP_checkIndex) (maxL := 3) (ret := (some .int)) (by decide) rfl ?_
  intro p e s m args below meth c s₁ B hml hv
  obtain ⟨rfl, hsz, hP, hK, hD0⟩ := hv
  have hx := B.exec
  have hb := B.bytes
  have hr := B.returns
  have hT := x_hT B.pre
  have hown : s.vm.findClass xR_JP = some m.cls := findClass_of_methodNamed B.named
  have hlocks := B.notSynchronized
  subst hsz
  have hD := hD0.self (sz := s.heap.size)
  generalize hAe : va_A (rp ad E RL) s.heap.size = A at hD ⊢
  have hA : ∀ q : Nat, s.heap.size ≤ q → A q := fun q h => by rw [← hAe]; exact Or.inr h
  have hS : va_S A s.heap s.heap [] := va_S.rf
  have hl := lv_entry ([.int (nI k), .int (nI n), .ref pa]) (n := 3) (Nat.le_of_ble_eq_true rfl)
  rw [lg_entry_eq]
  generalize (lg_sl ([.int (nI k), .int (nI n), .ref pa]) ++ List.replicate (3 - (lg_sl ([.int (nI k), .int (nI n), .ref pa])).length) Slot.unset).toArray = ls at hl ⊢
  have hl : lv_has ls 3 [(0, .int (nI k)), (1, .int (nI n)), (2, .ref pa)] := hl
  have hP : va_P D xcl (rp ad E RL) s.heap := hP
  refine lv_iload_n hx hb xd_JP_checkIndex_0 rfl (lv_at hl 0 rfl) ?_
  refine xz_lt (a := k) (tgt := 9) hx hb xd_JP_checkIndex_1 (by decide) (by omega) ?_
  refine lv_iload_n hx hb xd_JP_checkIndex_4 rfl (lv_at hl 0 rfl) ?_
  refine lv_iload_n hx hb xd_JP_checkIndex_5 rfl (lv_at hl 1 rfl) ?_
  refine xn_lt (a := k) (b := n) (tgt := 16) hx hb xd_JP_checkIndex_6 (by decide) (by omega) (by omega) (fun _ => ?_) (fun hc2 => absurd hc2 (by omega))
  refine lv_iload_n hx hb xd_JP_checkIndex_16 rfl (lv_at hl 0 rfl) ?_
  exact W.iret (v := (nI k)) hx hb hr (fun t ht hW => ⟨⟨(nI k), (), rfl, trivial, by rw [ht]; exact hP, hD⟩, hS.F ht⟩) hS.2.2 xd_JP_checkIndex_17
set_option maxHeartbeats 4000000 in
set_option maxRecDepth 100000 in
theorem xc_JS_checkIndex (l : Launch) (D : va_G) (kA : Nat → ClassId) (sz : Nat) (ad : Nat → Nat → Nat) (E : Nat → Nat → va_E) (RL : List (Nat × Nat)) (Z : zT) (k : Nat) (n : Nat) (hkn : k < n) (hn9 : n ≤ 100) : Met l xy_JS_checkIndex (.code xy_JS_checkIndex xb_JS_checkIndex 2 none :: wT) { frames := 1, cells := 0, slots := 0, locals := 22 } (va_Pc [.int (nI k), .int (nI n)] (xPreZ D kA sz (rp ad E RL) Z)) (va_Qv (fun (u : Unit) => True) (fun (u : Unit) t => va_P D xcl (rp ad E RL) t.heap ∧ va_D (va_A (rp ad E RL) sz) (rp ad E RL)) (va_A (rp ad E RL) sz)) 0 0 (va_A (rp ad E RL) sz) := by
  refine Met.ofW (cc := xb_JS_checkIndex) (maxL := 2) (ret := none) (by decide) rfl ?_
  intro p e s m args below meth c s₁ B hml hv
  obtain ⟨rfl, ⟨hsz, hP, hK, hD0⟩, hZ⟩ := hv
  have hx := B.exec
  have hb := B.bytes
  have hr := B.returns
  have hT := x_hT B.pre
  have hown : s.vm.findClass xR_JS = some m.cls := findClass_of_methodNamed B.named
  have hlocks := B.notSynchronized
  subst hsz
  have hD := hD0.self (sz := s.heap.size)
  generalize hAe : va_A (rp ad E RL) s.heap.size = A at hD hZ ⊢
  have hA : ∀ q : Nat, s.heap.size ≤ q → A q := fun q h => by rw [← hAe]; exact Or.inr h
  have hS : va_S A s.heap s.heap [] := va_S.rf
  have hl := lv_entry ([.int (nI k), .int (nI n)]) (n := 2) (Nat.le_of_ble_eq_true rfl)
  rw [lg_entry_eq]
  generalize (lg_sl ([.int (nI k), .int (nI n)]) ++ List.replicate (2 - (lg_sl ([.int (nI k), .int (nI n)])).length) Slot.unset).toArray = ls at hl ⊢
  have hl : lv_has ls 2 [(0, .int (nI k)), (1, .int (nI n))] := hl
  have hP : va_P D xcl (rp ad E RL) s.heap := hP
  refine lv_iload_n hx hb xd_JS_checkIndex_0 rfl (lv_at hl 0 rfl) ?_
  refine lv_iload_n hx hb xd_JS_checkIndex_1 rfl (lv_at hl 1 rfl) ?_
  rcases hZ.2.2.1.2.1 with hz8 | ⟨t8, hz8⟩
  · refine va_gets (C := "jdk/internal/util/Preconditions") (n := "SIOOBE_FORMATTER") (d := "Ljava/util/function/BiFunction;") (ref := "jdk/internal/util/Preconditions") hx hb hz8 hS hown (hT _ yv_8) (fun _ h9 => h9) xd_JS_checkIndex_2 ?_
    have hFc := px_free hD hS hA
    refine va_calli (va_runS (As := [.int (nI k), .int (nI n), .null]) (rest := []) ⟨hx, hb, hml, hown, hT⟩ (xc_JP_ckN l D kA s.heap.size ad E RL k n (by first | assumption | omega) (by first | assumption | omega)) (va_cwS 3 hT (wT_S yv_10 yv_11 yv_12 yv_9) rfl rfl rfl (by decide +kernel) ⟨Nat.le_of_ble_eq_true rfl, Nat.le_of_ble_eq_true rfl⟩) (x_preS hK hP hD) rfl rfl hl.1 rfl (lv_room (Nat.le_of_ble_eq_true rfl)) xd_JS_checkIndex_5 ⟨(Nat.le_of_ble_eq_true rfl), (Nat.le_of_ble_eq_true rfl)⟩) hS (fun q _ h => hFc q h) hFc (fun r1 u2 t H1 locs ht hvm hp3 hB hz1 hk1 hS => ?_)
    obtain ⟨hP1, hD1⟩ := hB
    rw [ht] at hP1
    have hD1 := hD1.weaken (fun _ _ _ h => hFc _ h)
    generalize H1 = H at hP1 hS ⊢
    have hP := hP1
    have hD := hD1
    have hP : va_P D xcl (rp ad E RL) H := hP
    have hD : va_D A (rp ad E RL) := hD
    refine lv_pop hx hb xd_JS_checkIndex_8 rfl ?_
    exact W.vret hx hb hr (fun t ht hW => ⟨⟨(), rfl, trivial, by rw [ht]; exact hP, hD⟩, hS.F ht⟩) hS.2.2 xd_JS_checkIndex_9
  · refine va_gets (C := "jdk/internal/util/Preconditions") (n := "SIOOBE_FORMATTER") (d := "Ljava/util/function/BiFunction;") (ref := "jdk/internal/util/Preconditions") hx hb hz8 hS hown (hT _ yv_8) (fun _ h9 => h9) xd_JS_checkIndex_2 ?_
    have hFc := px_free hD hS hA
    refine va_calli (va_runS (As := [.int (nI k), .int (nI n), .ref t8]) (rest := []) ⟨hx, hb, hml, hown, hT⟩ (xc_JP_ckR l D kA s.heap.size ad E RL k n t8 (by first | assumption | omega) (by first | assumption | omega)) (va_cwS 3 hT (wT_S yv_10 yv_11 yv_12 yv_9) rfl rfl rfl (by decide +kernel) ⟨Nat.le_of_ble_eq_true rfl, Nat.le_of_ble_eq_true rfl⟩) (x_preS hK hP hD) rfl rfl hl.1 rfl (lv_room (Nat.le_of_ble_eq_true rfl)) xd_JS_checkIndex_5 ⟨(Nat.le_of_ble_eq_true rfl), (Nat.le_of_ble_eq_true rfl)⟩) hS (fun q _ h => hFc q h) hFc (fun r4 u5 t H1 locs ht hvm hp6 hB hz1 hk1 hS => ?_)
    obtain ⟨hP1, hD1⟩ := hB
    rw [ht] at hP1
    have hD1 := hD1.weaken (fun _ _ _ h => hFc _ h)
    generalize H1 = H at hP1 hS ⊢
    have hP := hP1
    have hD := hD1
    have hP : va_P D xcl (rp ad E RL) H := hP
    have hD : va_D A (rp ad E RL) := hD
    refine lv_pop hx hb xd_JS_checkIndex_8 rfl ?_
    exact W.vret hx hb hr (fun t ht hW => ⟨⟨(), rfl, trivial, by rw [ht]; exact hP, hD⟩, hS.F ht⟩) hS.2.2 xd_JS_checkIndex_9
abbrev xb_Li_wordIs : ByteArray := prog_6_method_5_code
def xy_Li_wordIs : MethodName := ⟨"LayerDesk$Line", "wordIs", "(ILjava/lang/String;)Z"⟩
abbrev xb_Sh_acceptDescriptor : ByteArray := prog_10_method_6_code
def xy_Sh_acceptDescriptor : MethodName := ⟨"LayerDesk$Shelf", "acceptDescriptor", "(LLayerDesk$Line;)I"⟩
abbrev xb_Sh_acceptPackage : ByteArray := prog_10_method_7_code
def xy_Sh_acceptPackage : MethodName := ⟨"LayerDesk$Shelf", "acceptPackage", "(LLayerDesk$Line;)I"⟩
abbrev xb_Sh_acceptGrant : ByteArray := prog_10_method_8_code
def xy_Sh_acceptGrant : MethodName := ⟨"LayerDesk$Shelf", "acceptGrant", "(LLayerDesk$Line;)I"⟩
abbrev xb_Sh_acceptRequired : ByteArray := prog_10_method_9_code
def xy_Sh_acceptRequired : MethodName := ⟨"LayerDesk$Shelf", "acceptRequired", "(LLayerDesk$Line;)I"⟩
abbrev xb_Sh_acceptService : ByteArray := prog_10_method_10_code
def xy_Sh_acceptService : MethodName := ⟨"LayerDesk$Shelf", "acceptService", "(LLayerDesk$Line;)I"⟩
abbrev xb_Sh_accept : ByteArray := prog_10_method_4_code
def xy_Sh_accept : MethodName := ⟨"LayerDesk$Shelf", "accept", "(LLayerDesk$Line;)I"⟩
theorem xd_Li_wordIs_0 : decode xb_Li_wordIs 0 = .ok (.iload_n 1, 1) := by decide +kernel
theorem xd_Li_wordIs_1 : decode xb_Li_wordIs 1 = .ok (.ifCond .lt 31, 3) := by decide +kernel
theorem xd_Li_wordIs_4 : decode xb_Li_wordIs 4 = .ok (.iload_n 1, 1) := by decide +kernel
theorem xd_Li_wordIs_5 : decode xb_Li_wordIs 5 = .ok (.aload_n 0, 1) := by decide +kernel
theorem xd_Li_wordIs_6 : decode xb_Li_wordIs 6 = .ok (.getfield 24, 3) := by decide +kernel
theorem xd_Li_wordIs_9 : decode xb_Li_wordIs 9 = .ok (.if_icmp .ge 23, 3) := by decide +kernel
theorem xd_Li_wordIs_12 : decode xb_Li_wordIs 12 = .ok (.aload_n 0, 1) := by decide +kernel
theorem xd_Li_wordIs_13 : decode xb_Li_wordIs 13 = .ok (.getfield 17, 3) := by decide +kernel
theorem xd_Li_wordIs_16 : decode xb_Li_wordIs 16 = .ok (.iload_n 1, 1) := by decide +kernel
theorem xd_Li_wordIs_17 : decode xb_Li_wordIs 17 = .ok (.iaload, 1) := by decide +kernel
theorem xd_Li_wordIs_18 : decode xb_Li_wordIs 18 = .ok (.aload_n 0, 1) := by decide +kernel
theorem xd_Li_wordIs_19 : decode xb_Li_wordIs 19 = .ok (.getfield 13, 3) := by decide +kernel
theorem xd_Li_wordIs_22 : decode xb_Li_wordIs 22 = .ok (.iload_n 1, 1) := by decide +kernel
theorem xd_Li_wordIs_23 : decode xb_Li_wordIs 23 = .ok (.iaload, 1) := by decide +kernel
theorem xd_Li_wordIs_24 : decode xb_Li_wordIs 24 = .ok (.isub, 1) := by decide +kernel
theorem xd_Li_wordIs_25 : decode xb_Li_wordIs 25 = .ok (.aload_n 2, 1) := by decide +kernel
theorem xd_Li_wordIs_26 : decode xb_Li_wordIs 26 = .ok (.invokevirtual 34, 3) := by decide +kernel
theorem xd_Li_wordIs_29 : decode xb_Li_wordIs 29 = .ok (.if_icmp .eq 5, 3) := by decide +kernel
theorem xd_Li_wordIs_32 : decode xb_Li_wordIs 32 = .ok (.iconst 0, 1) := by decide +kernel
theorem xd_Li_wordIs_33 : decode xb_Li_wordIs 33 = .ok (.ireturn, 1) := by decide +kernel
theorem xd_Li_wordIs_34 : decode xb_Li_wordIs 34 = .ok (.iconst 0, 1) := by decide +kernel
theorem xd_Li_wordIs_35 : decode xb_Li_wordIs 35 = .ok (.istore_n 3, 1) := by decide +kernel
theorem xd_Li_wordIs_36 : decode xb_Li_wordIs 36 = .ok (.iload_n 3, 1) := by decide +kernel
theorem xd_Li_wordIs_37 : decode xb_Li_wordIs 37 = .ok (.aload_n 2, 1) := by decide +kernel
theorem xd_Li_wordIs_38 : decode xb_Li_wordIs 38 = .ok (.invokevirtual 34, 3) := by decide +kernel
theorem xd_Li_wordIs_41 : decode xb_Li_wordIs 41 = .ok (.if_icmp .ge 32, 3) := by decide +kernel
theorem xd_Li_wordIs_44 : decode xb_Li_wordIs 44 = .ok (.aload_n 0, 1) := by decide +kernel
theorem xd_Li_wordIs_45 : decode xb_Li_wordIs 45 = .ok (.getfield 9, 3) := by decide +kernel
theorem xd_Li_wordIs_48 : decode xb_Li_wordIs 48 = .ok (.aload_n 0, 1) := by decide +kernel
theorem xd_Li_wordIs_49 : decode xb_Li_wordIs 49 = .ok (.getfield 13, 3) := by decide +kernel
theorem xd_Li_wordIs_52 : decode xb_Li_wordIs 52 = .ok (.iload_n 1, 1) := by decide +kernel
theorem xd_Li_wordIs_53 : decode xb_Li_wordIs 53 = .ok (.iaload, 1) := by decide +kernel
theorem xd_Li_wordIs_54 : decode xb_Li_wordIs 54 = .ok (.iload_n 3, 1) := by decide +kernel
theorem xd_Li_wordIs_55 : decode xb_Li_wordIs 55 = .ok (.iadd, 1) := by decide +kernel
theorem xd_Li_wordIs_56 : decode xb_Li_wordIs 56 = .ok (.caload, 1) := by decide +kernel
theorem xd_Li_wordIs_57 : decode xb_Li_wordIs 57 = .ok (.aload_n 2, 1) := by decide +kernel
theorem xd_Li_wordIs_58 : decode xb_Li_wordIs 58 = .ok (.iload_n 3, 1) := by decide +kernel
theorem xd_Li_wordIs_59 : decode xb_Li_wordIs 59 = .ok (.invokevirtual 39, 3) := by decide +kernel
theorem xd_Li_wordIs_62 : decode xb_Li_wordIs 62 = .ok (.if_icmp .eq 5, 3) := by decide +kernel
theorem xd_Li_wordIs_65 : decode xb_Li_wordIs 65 = .ok (.iconst 0, 1) := by decide +kernel
theorem xd_Li_wordIs_66 : decode xb_Li_wordIs 66 = .ok (.ireturn, 1) := by decide +kernel
theorem xd_Li_wordIs_67 : decode xb_Li_wordIs 67 = .ok (.iinc 3 1, 3) := by decide +kernel
theorem xd_Li_wordIs_70 : decode xb_Li_wordIs 70 = .ok (.goto (-34), 3) := by decide +kernel
theorem xd_Li_wordIs_73 : decode xb_Li_wordIs 73 = .ok (.iconst 1, 1) := by decide +kernel
theorem xd_Li_wordIs_74 : decode xb_Li_wordIs 74 = .ok (.ireturn, 1) := by decide +kernel
theorem xd_Sh_accept_0 : decode xb_Sh_accept 0 = .ok (.aload_n 1, 1) := by decide +kernel
theorem xd_Sh_accept_1 : decode xb_Sh_accept 1 = .ok (.getfield 27, 3) := by decide +kernel
theorem xd_Sh_accept_4 : decode xb_Sh_accept 4 = .ok (.ifCond .ne 5, 3) := by decide +kernel
theorem xd_Sh_accept_7 : decode xb_Sh_accept 7 = .ok (.iconst 0, 1) := by decide +kernel
theorem xd_Sh_accept_8 : decode xb_Sh_accept 8 = .ok (.ireturn, 1) := by decide +kernel
theorem xd_Sh_accept_9 : decode xb_Sh_accept 9 = .ok (.aload_n 1, 1) := by decide +kernel
theorem xd_Sh_accept_10 : decode xb_Sh_accept 10 = .ok (.iconst 0, 1) := by decide +kernel
theorem xd_Sh_accept_11 : decode xb_Sh_accept 11 = .ok (.ldc 32, 2) := by decide +kernel
theorem xd_Sh_accept_13 : decode xb_Sh_accept 13 = .ok (.invokevirtual 34, 3) := by decide +kernel
theorem xd_Sh_accept_16 : decode xb_Sh_accept 16 = .ok (.ifCond .eq 9, 3) := by decide +kernel
theorem xd_Sh_accept_19 : decode xb_Sh_accept 19 = .ok (.aload_n 0, 1) := by decide +kernel
theorem xd_Sh_accept_20 : decode xb_Sh_accept 20 = .ok (.aload_n 1, 1) := by decide +kernel
theorem xd_Sh_accept_21 : decode xb_Sh_accept 21 = .ok (.invokevirtual 38, 3) := by decide +kernel
theorem xd_Sh_accept_24 : decode xb_Sh_accept 24 = .ok (.ireturn, 1) := by decide +kernel
theorem xd_Sh_accept_25 : decode xb_Sh_accept 25 = .ok (.aload_n 1, 1) := by decide +kernel
theorem xd_Sh_accept_26 : decode xb_Sh_accept 26 = .ok (.iconst 0, 1) := by decide +kernel
theorem xd_Sh_accept_27 : decode xb_Sh_accept 27 = .ok (.ldc 42, 2) := by decide +kernel
theorem xd_Sh_accept_29 : decode xb_Sh_accept 29 = .ok (.invokevirtual 34, 3) := by decide +kernel
theorem xd_Sh_accept_32 : decode xb_Sh_accept 32 = .ok (.ifCond .eq 9, 3) := by decide +kernel
theorem xd_Sh_accept_35 : decode xb_Sh_accept 35 = .ok (.aload_n 0, 1) := by decide +kernel
theorem xd_Sh_accept_36 : decode xb_Sh_accept 36 = .ok (.aload_n 1, 1) := by decide +kernel
theorem xd_Sh_accept_37 : decode xb_Sh_accept 37 = .ok (.invokevirtual 44, 3) := by decide +kernel
theorem xd_Sh_accept_40 : decode xb_Sh_accept 40 = .ok (.ireturn, 1) := by decide +kernel
theorem xd_Sh_accept_41 : decode xb_Sh_accept 41 = .ok (.aload_n 1, 1) := by decide +kernel
theorem xd_Sh_accept_42 : decode xb_Sh_accept 42 = .ok (.iconst 0, 1) := by decide +kernel
theorem xd_Sh_accept_43 : decode xb_Sh_accept 43 = .ok (.ldc 47, 2) := by decide +kernel
theorem xd_Sh_accept_45 : decode xb_Sh_accept 45 = .ok (.invokevirtual 34, 3) := by decide +kernel
theorem xd_Sh_accept_48 : decode xb_Sh_accept 48 = .ok (.ifCond .ne 13, 3) := by decide +kernel
theorem xd_Sh_accept_51 : decode xb_Sh_accept 51 = .ok (.aload_n 1, 1) := by decide +kernel
theorem xd_Sh_accept_52 : decode xb_Sh_accept 52 = .ok (.iconst 0, 1) := by decide +kernel
theorem xd_Sh_accept_53 : decode xb_Sh_accept 53 = .ok (.ldc 49, 2) := by decide +kernel
theorem xd_Sh_accept_55 : decode xb_Sh_accept 55 = .ok (.invokevirtual 34, 3) := by decide +kernel
theorem xd_Sh_accept_58 : decode xb_Sh_accept 58 = .ok (.ifCond .eq 9, 3) := by decide +kernel
theorem xd_Sh_accept_61 : decode xb_Sh_accept 61 = .ok (.aload_n 0, 1) := by decide +kernel
theorem xd_Sh_accept_62 : decode xb_Sh_accept 62 = .ok (.aload_n 1, 1) := by decide +kernel
theorem xd_Sh_accept_63 : decode xb_Sh_accept 63 = .ok (.invokevirtual 51, 3) := by decide +kernel
theorem xd_Sh_accept_66 : decode xb_Sh_accept 66 = .ok (.ireturn, 1) := by decide +kernel
theorem xd_Sh_accept_67 : decode xb_Sh_accept 67 = .ok (.aload_n 1, 1) := by decide +kernel
theorem xd_Sh_accept_68 : decode xb_Sh_accept 68 = .ok (.iconst 0, 1) := by decide +kernel
theorem xd_Sh_accept_69 : decode xb_Sh_accept 69 = .ok (.ldc 54, 2) := by decide +kernel
theorem xd_Sh_accept_71 : decode xb_Sh_accept 71 = .ok (.invokevirtual 34, 3) := by decide +kernel
theorem xd_Sh_accept_74 : decode xb_Sh_accept 74 = .ok (.ifCond .eq 9, 3) := by decide +kernel
theorem xd_Sh_accept_77 : decode xb_Sh_accept 77 = .ok (.aload_n 0, 1) := by decide +kernel
theorem xd_Sh_accept_78 : decode xb_Sh_accept 78 = .ok (.aload_n 1, 1) := by decide +kernel
theorem xd_Sh_accept_79 : decode xb_Sh_accept 79 = .ok (.invokevirtual 56, 3) := by decide +kernel
theorem xd_Sh_accept_82 : decode xb_Sh_accept 82 = .ok (.ireturn, 1) := by decide +kernel
theorem xd_Sh_accept_83 : decode xb_Sh_accept 83 = .ok (.aload_n 1, 1) := by decide +kernel
theorem xd_Sh_accept_84 : decode xb_Sh_accept 84 = .ok (.iconst 0, 1) := by decide +kernel
theorem xd_Sh_accept_85 : decode xb_Sh_accept 85 = .ok (.ldc 59, 2) := by decide +kernel
theorem xd_Sh_accept_87 : decode xb_Sh_accept 87 = .ok (.invokevirtual 34, 3) := by decide +kernel
theorem xd_Sh_accept_90 : decode xb_Sh_accept 90 = .ok (.ifCond .ne 13, 3) := by decide +kernel
theorem xd_Sh_accept_93 : decode xb_Sh_accept 93 = .ok (.aload_n 1, 1) := by decide +kernel
theorem xd_Sh_accept_94 : decode xb_Sh_accept 94 = .ok (.iconst 0, 1) := by decide +kernel
theorem xd_Sh_accept_95 : decode xb_Sh_accept 95 = .ok (.ldc 61, 2) := by decide +kernel
theorem xd_Sh_accept_97 : decode xb_Sh_accept 97 = .ok (.invokevirtual 34, 3) := by decide +kernel
theorem xd_Sh_accept_100 : decode xb_Sh_accept 100 = .ok (.ifCond .eq 9, 3) := by decide +kernel
theorem xd_Sh_accept_103 : decode xb_Sh_accept 103 = .ok (.aload_n 0, 1) := by decide +kernel
theorem xd_Sh_accept_104 : decode xb_Sh_accept 104 = .ok (.aload_n 1, 1) := by decide +kernel
theorem xd_Sh_accept_105 : decode xb_Sh_accept 105 = .ok (.invokevirtual 63, 3) := by decide +kernel
theorem xd_Sh_accept_108 : decode xb_Sh_accept 108 = .ok (.ireturn, 1) := by decide +kernel
theorem xd_Sh_accept_109 : decode xb_Sh_accept 109 = .ok (.iconst (-1), 1) := by decide +kernel
theorem xd_Sh_accept_110 : decode xb_Sh_accept 110 = .ok (.ireturn, 1) := by decide +kernel
theorem xd_Sh_acceptDescriptor_0 : decode xb_Sh_acceptDescriptor 0 = .ok (.aload_n 1, 1) := by decide +kernel
theorem xd_Sh_acceptDescriptor_1 : decode xb_Sh_acceptDescriptor 1 = .ok (.iconst 1, 1) := by decide +kernel
theorem xd_Sh_acceptDescriptor_2 : decode xb_Sh_acceptDescriptor 2 = .ok (.ldc 66, 2) := by decide +kernel
theorem xd_Sh_acceptDescriptor_4 : decode xb_Sh_acceptDescriptor 4 = .ok (.invokevirtual 34, 3) := by decide +kernel
theorem xd_Sh_acceptDescriptor_7 : decode xb_Sh_acceptDescriptor 7 = .ok (.ifCond .eq 7, 3) := by decide +kernel
theorem xd_Sh_acceptDescriptor_10 : decode xb_Sh_acceptDescriptor 10 = .ok (.iconst 0, 1) := by decide +kernel
theorem xd_Sh_acceptDescriptor_11 : decode xb_Sh_acceptDescriptor 11 = .ok (.goto 18, 3) := by decide +kernel
theorem xd_Sh_acceptDescriptor_14 : decode xb_Sh_acceptDescriptor 14 = .ok (.aload_n 1, 1) := by decide +kernel
theorem xd_Sh_acceptDescriptor_15 : decode xb_Sh_acceptDescriptor 15 = .ok (.iconst 1, 1) := by decide +kernel
theorem xd_Sh_acceptDescriptor_16 : decode xb_Sh_acceptDescriptor 16 = .ok (.ldc 68, 2) := by decide +kernel
theorem xd_Sh_acceptDescriptor_18 : decode xb_Sh_acceptDescriptor 18 = .ok (.invokevirtual 34, 3) := by decide +kernel
theorem xd_Sh_acceptDescriptor_21 : decode xb_Sh_acceptDescriptor 21 = .ok (.ifCond .eq 7, 3) := by decide +kernel
theorem xd_Sh_acceptDescriptor_24 : decode xb_Sh_acceptDescriptor 24 = .ok (.iconst 1, 1) := by decide +kernel
theorem xd_Sh_acceptDescriptor_25 : decode xb_Sh_acceptDescriptor 25 = .ok (.goto 4, 3) := by decide +kernel
theorem xd_Sh_acceptDescriptor_28 : decode xb_Sh_acceptDescriptor 28 = .ok (.iconst (-1), 1) := by decide +kernel
theorem xd_Sh_acceptDescriptor_29 : decode xb_Sh_acceptDescriptor 29 = .ok (.istore_n 2, 1) := by decide +kernel
theorem xd_Sh_acceptDescriptor_30 : decode xb_Sh_acceptDescriptor 30 = .ok (.aload_n 1, 1) := by decide +kernel
theorem xd_Sh_acceptDescriptor_31 : decode xb_Sh_acceptDescriptor 31 = .ok (.iconst 2, 1) := by decide +kernel
theorem xd_Sh_acceptDescriptor_32 : decode xb_Sh_acceptDescriptor 32 = .ok (.invokevirtual 70, 3) := by decide +kernel
theorem xd_Sh_acceptDescriptor_35 : decode xb_Sh_acceptDescriptor 35 = .ok (.istore_n 3, 1) := by decide +kernel
theorem xd_Sh_acceptDescriptor_36 : decode xb_Sh_acceptDescriptor 36 = .ok (.aload_n 1, 1) := by decide +kernel
theorem xd_Sh_acceptDescriptor_37 : decode xb_Sh_acceptDescriptor 37 = .ok (.getfield 27, 3) := by decide +kernel
theorem xd_Sh_acceptDescriptor_40 : decode xb_Sh_acceptDescriptor 40 = .ok (.iconst 3, 1) := by decide +kernel
theorem xd_Sh_acceptDescriptor_41 : decode xb_Sh_acceptDescriptor 41 = .ok (.if_icmp .ne 16, 3) := by decide +kernel
theorem xd_Sh_acceptDescriptor_44 : decode xb_Sh_acceptDescriptor 44 = .ok (.iload_n 2, 1) := by decide +kernel
theorem xd_Sh_acceptDescriptor_45 : decode xb_Sh_acceptDescriptor 45 = .ok (.iconst (-1), 1) := by decide +kernel
theorem xd_Sh_acceptDescriptor_46 : decode xb_Sh_acceptDescriptor 46 = .ok (.if_icmp .eq 11, 3) := by decide +kernel
theorem xd_Sh_acceptDescriptor_49 : decode xb_Sh_acceptDescriptor 49 = .ok (.iload_n 3, 1) := by decide +kernel
theorem xd_Sh_acceptDescriptor_50 : decode xb_Sh_acceptDescriptor 50 = .ok (.ifCond .eq 7, 3) := by decide +kernel
theorem xd_Sh_acceptDescriptor_53 : decode xb_Sh_acceptDescriptor 53 = .ok (.iconst 1, 1) := by decide +kernel
theorem xd_Sh_acceptDescriptor_54 : decode xb_Sh_acceptDescriptor 54 = .ok (.goto 4, 3) := by decide +kernel
theorem xd_Sh_acceptDescriptor_57 : decode xb_Sh_acceptDescriptor 57 = .ok (.iconst 0, 1) := by decide +kernel
theorem xd_Sh_acceptDescriptor_58 : decode xb_Sh_acceptDescriptor 58 = .ok (.istore 4, 2) := by decide +kernel
theorem xd_Sh_acceptDescriptor_60 : decode xb_Sh_acceptDescriptor 60 = .ok (.iload 4, 2) := by decide +kernel
theorem xd_Sh_acceptDescriptor_62 : decode xb_Sh_acceptDescriptor 62 = .ok (.ifCond .eq 12, 3) := by decide +kernel
theorem xd_Sh_acceptDescriptor_65 : decode xb_Sh_acceptDescriptor 65 = .ok (.aload_n 0, 1) := by decide +kernel
theorem xd_Sh_acceptDescriptor_66 : decode xb_Sh_acceptDescriptor 66 = .ok (.iload_n 2, 1) := by decide +kernel
theorem xd_Sh_acceptDescriptor_67 : decode xb_Sh_acceptDescriptor 67 = .ok (.iload_n 3, 1) := by decide +kernel
theorem xd_Sh_acceptDescriptor_68 : decode xb_Sh_acceptDescriptor 68 = .ok (.invokevirtual 74, 3) := by decide +kernel
theorem xd_Sh_acceptDescriptor_71 : decode xb_Sh_acceptDescriptor 71 = .ok (.ifnull 5, 3) := by decide +kernel
theorem xd_Sh_acceptDescriptor_74 : decode xb_Sh_acceptDescriptor 74 = .ok (.iconst (-1), 1) := by decide +kernel
theorem xd_Sh_acceptDescriptor_75 : decode xb_Sh_acceptDescriptor 75 = .ok (.ireturn, 1) := by decide +kernel
theorem xd_Sh_acceptDescriptor_76 : decode xb_Sh_acceptDescriptor 76 = .ok (.aload_n 0, 1) := by decide +kernel
theorem xd_Sh_acceptDescriptor_77 : decode xb_Sh_acceptDescriptor 77 = .ok (.getfield 17, 3) := by decide +kernel
theorem xd_Sh_acceptDescriptor_80 : decode xb_Sh_acceptDescriptor 80 = .ok (.bipush 12, 2) := by decide +kernel
theorem xd_Sh_acceptDescriptor_82 : decode xb_Sh_acceptDescriptor 82 = .ok (.if_icmp .lt 6, 3) := by decide +kernel
theorem xd_Sh_acceptDescriptor_85 : decode xb_Sh_acceptDescriptor 85 = .ok (.bipush (-2), 2) := by decide +kernel
theorem xd_Sh_acceptDescriptor_87 : decode xb_Sh_acceptDescriptor 87 = .ok (.ireturn, 1) := by decide +kernel
theorem xd_Sh_acceptDescriptor_88 : decode xb_Sh_acceptDescriptor 88 = .ok (.aload_n 0, 1) := by decide +kernel
theorem xd_Sh_acceptDescriptor_89 : decode xb_Sh_acceptDescriptor 89 = .ok (.getfield 11, 3) := by decide +kernel
theorem xd_Sh_acceptDescriptor_92 : decode xb_Sh_acceptDescriptor 92 = .ok (.aload_n 0, 1) := by decide +kernel
theorem xd_Sh_acceptDescriptor_93 : decode xb_Sh_acceptDescriptor 93 = .ok (.getfield 17, 3) := by decide +kernel
theorem xd_Sh_acceptDescriptor_96 : decode xb_Sh_acceptDescriptor 96 = .ok (.new 9, 3) := by decide +kernel
theorem xd_Sh_acceptDescriptor_99 : decode xb_Sh_acceptDescriptor 99 = .ok (.dup, 1) := by decide +kernel
theorem xd_Sh_acceptDescriptor_100 : decode xb_Sh_acceptDescriptor 100 = .ok (.aload_n 0, 1) := by decide +kernel
theorem xd_Sh_acceptDescriptor_101 : decode xb_Sh_acceptDescriptor 101 = .ok (.getfield 17, 3) := by decide +kernel
theorem xd_Sh_acceptDescriptor_104 : decode xb_Sh_acceptDescriptor 104 = .ok (.iload_n 2, 1) := by decide +kernel
theorem xd_Sh_acceptDescriptor_105 : decode xb_Sh_acceptDescriptor 105 = .ok (.iload_n 3, 1) := by decide +kernel
theorem xd_Sh_acceptDescriptor_106 : decode xb_Sh_acceptDescriptor 106 = .ok (.invokespecial 78, 3) := by decide +kernel
theorem xd_Sh_acceptDescriptor_109 : decode xb_Sh_acceptDescriptor 109 = .ok (.aastore, 1) := by decide +kernel
theorem xd_Sh_acceptDescriptor_110 : decode xb_Sh_acceptDescriptor 110 = .ok (.aload_n 0, 1) := by decide +kernel
theorem xd_Sh_acceptDescriptor_111 : decode xb_Sh_acceptDescriptor 111 = .ok (.dup, 1) := by decide +kernel
theorem xd_Sh_acceptDescriptor_112 : decode xb_Sh_acceptDescriptor 112 = .ok (.getfield 17, 3) := by decide +kernel
theorem xd_Sh_acceptDescriptor_115 : decode xb_Sh_acceptDescriptor 115 = .ok (.iconst 1, 1) := by decide +kernel
theorem xd_Sh_acceptDescriptor_116 : decode xb_Sh_acceptDescriptor 116 = .ok (.iadd, 1) := by decide +kernel
theorem xd_Sh_acceptDescriptor_117 : decode xb_Sh_acceptDescriptor 117 = .ok (.putfield 17, 3) := by decide +kernel
theorem xd_Sh_acceptDescriptor_120 : decode xb_Sh_acceptDescriptor 120 = .ok (.iconst 1, 1) := by decide +kernel
theorem xd_Sh_acceptDescriptor_121 : decode xb_Sh_acceptDescriptor 121 = .ok (.ireturn, 1) := by decide +kernel
theorem xd_Sh_acceptGrant_0 : decode xb_Sh_acceptGrant 0 = .ok (.aload_n 1, 1) := by decide +kernel
theorem xd_Sh_acceptGrant_1 : decode xb_Sh_acceptGrant 1 = .ok (.iconst 1, 1) := by decide +kernel
theorem xd_Sh_acceptGrant_2 : decode xb_Sh_acceptGrant 2 = .ok (.invokevirtual 70, 3) := by decide +kernel
theorem xd_Sh_acceptGrant_5 : decode xb_Sh_acceptGrant 5 = .ok (.istore_n 2, 1) := by decide +kernel
theorem xd_Sh_acceptGrant_6 : decode xb_Sh_acceptGrant 6 = .ok (.aload_n 1, 1) := by decide +kernel
theorem xd_Sh_acceptGrant_7 : decode xb_Sh_acceptGrant 7 = .ok (.getfield 27, 3) := by decide +kernel
theorem xd_Sh_acceptGrant_10 : decode xb_Sh_acceptGrant 10 = .ok (.iconst 2, 1) := by decide +kernel
theorem xd_Sh_acceptGrant_11 : decode xb_Sh_acceptGrant 11 = .ok (.if_icmp .ne 7, 3) := by decide +kernel
theorem xd_Sh_acceptGrant_14 : decode xb_Sh_acceptGrant 14 = .ok (.iconst 0, 1) := by decide +kernel
theorem xd_Sh_acceptGrant_15 : decode xb_Sh_acceptGrant 15 = .ok (.goto 8, 3) := by decide +kernel
theorem xd_Sh_acceptGrant_18 : decode xb_Sh_acceptGrant 18 = .ok (.aload_n 1, 1) := by decide +kernel
theorem xd_Sh_acceptGrant_19 : decode xb_Sh_acceptGrant 19 = .ok (.iconst 3, 1) := by decide +kernel
theorem xd_Sh_acceptGrant_20 : decode xb_Sh_acceptGrant 20 = .ok (.invokevirtual 70, 3) := by decide +kernel
theorem xd_Sh_acceptGrant_23 : decode xb_Sh_acceptGrant 23 = .ok (.istore_n 3, 1) := by decide +kernel
theorem xd_Sh_acceptGrant_24 : decode xb_Sh_acceptGrant 24 = .ok (.aload_n 1, 1) := by decide +kernel
theorem xd_Sh_acceptGrant_25 : decode xb_Sh_acceptGrant 25 = .ok (.getfield 27, 3) := by decide +kernel
theorem xd_Sh_acceptGrant_28 : decode xb_Sh_acceptGrant 28 = .ok (.iconst 4, 1) := by decide +kernel
theorem xd_Sh_acceptGrant_29 : decode xb_Sh_acceptGrant 29 = .ok (.if_icmp .ne 21, 3) := by decide +kernel
theorem xd_Sh_acceptGrant_32 : decode xb_Sh_acceptGrant 32 = .ok (.aload_n 1, 1) := by decide +kernel
theorem xd_Sh_acceptGrant_33 : decode xb_Sh_acceptGrant 33 = .ok (.iconst 2, 1) := by decide +kernel
theorem xd_Sh_acceptGrant_34 : decode xb_Sh_acceptGrant 34 = .ok (.ldc 109, 2) := by decide +kernel
theorem xd_Sh_acceptGrant_36 : decode xb_Sh_acceptGrant 36 = .ok (.invokevirtual 34, 3) := by decide +kernel
theorem xd_Sh_acceptGrant_39 : decode xb_Sh_acceptGrant 39 = .ok (.ifCond .eq 11, 3) := by decide +kernel
theorem xd_Sh_acceptGrant_42 : decode xb_Sh_acceptGrant 42 = .ok (.iload_n 3, 1) := by decide +kernel
theorem xd_Sh_acceptGrant_43 : decode xb_Sh_acceptGrant 43 = .ok (.ifCond .eq 7, 3) := by decide +kernel
theorem xd_Sh_acceptGrant_46 : decode xb_Sh_acceptGrant 46 = .ok (.iconst 1, 1) := by decide +kernel
theorem xd_Sh_acceptGrant_47 : decode xb_Sh_acceptGrant 47 = .ok (.goto 4, 3) := by decide +kernel
theorem xd_Sh_acceptGrant_50 : decode xb_Sh_acceptGrant 50 = .ok (.iconst 0, 1) := by decide +kernel
theorem xd_Sh_acceptGrant_51 : decode xb_Sh_acceptGrant 51 = .ok (.istore 4, 2) := by decide +kernel
theorem xd_Sh_acceptGrant_53 : decode xb_Sh_acceptGrant 53 = .ok (.iload_n 2, 1) := by decide +kernel
theorem xd_Sh_acceptGrant_54 : decode xb_Sh_acceptGrant 54 = .ok (.ifCond .eq 16, 3) := by decide +kernel
theorem xd_Sh_acceptGrant_57 : decode xb_Sh_acceptGrant 57 = .ok (.aload_n 1, 1) := by decide +kernel
theorem xd_Sh_acceptGrant_58 : decode xb_Sh_acceptGrant 58 = .ok (.getfield 27, 3) := by decide +kernel
theorem xd_Sh_acceptGrant_61 : decode xb_Sh_acceptGrant 61 = .ok (.iconst 2, 1) := by decide +kernel
theorem xd_Sh_acceptGrant_62 : decode xb_Sh_acceptGrant 62 = .ok (.if_icmp .eq 10, 3) := by decide +kernel
theorem xd_Sh_acceptGrant_65 : decode xb_Sh_acceptGrant 65 = .ok (.iload 4, 2) := by decide +kernel
theorem xd_Sh_acceptGrant_67 : decode xb_Sh_acceptGrant 67 = .ok (.ifCond .ne 5, 3) := by decide +kernel
theorem xd_Sh_acceptGrant_70 : decode xb_Sh_acceptGrant 70 = .ok (.iconst (-1), 1) := by decide +kernel
theorem xd_Sh_acceptGrant_71 : decode xb_Sh_acceptGrant 71 = .ok (.ireturn, 1) := by decide +kernel
theorem xd_Sh_acceptGrant_72 : decode xb_Sh_acceptGrant 72 = .ok (.aload_n 0, 1) := by decide +kernel
theorem xd_Sh_acceptGrant_73 : decode xb_Sh_acceptGrant 73 = .ok (.invokevirtual 81, 3) := by decide +kernel
theorem xd_Sh_acceptGrant_76 : decode xb_Sh_acceptGrant 76 = .ok (.astore 5, 2) := by decide +kernel
theorem xd_Sh_acceptGrant_78 : decode xb_Sh_acceptGrant 78 = .ok (.aload 5, 2) := by decide +kernel
theorem xd_Sh_acceptGrant_80 : decode xb_Sh_acceptGrant 80 = .ok (.ifnonnull 6, 3) := by decide +kernel
theorem xd_Sh_acceptGrant_83 : decode xb_Sh_acceptGrant 83 = .ok (.bipush (-2), 2) := by decide +kernel
theorem xd_Sh_acceptGrant_85 : decode xb_Sh_acceptGrant 85 = .ok (.ireturn, 1) := by decide +kernel
theorem xd_Sh_acceptGrant_86 : decode xb_Sh_acceptGrant 86 = .ok (.aload_n 1, 1) := by decide +kernel
theorem xd_Sh_acceptGrant_87 : decode xb_Sh_acceptGrant 87 = .ok (.iconst 0, 1) := by decide +kernel
theorem xd_Sh_acceptGrant_88 : decode xb_Sh_acceptGrant 88 = .ok (.ldc 47, 2) := by decide +kernel
theorem xd_Sh_acceptGrant_90 : decode xb_Sh_acceptGrant 90 = .ok (.invokevirtual 34, 3) := by decide +kernel
theorem xd_Sh_acceptGrant_93 : decode xb_Sh_acceptGrant 93 = .ok (.ifCond .eq 12, 3) := by decide +kernel
theorem xd_Sh_acceptGrant_96 : decode xb_Sh_acceptGrant 96 = .ok (.aload 5, 2) := by decide +kernel
theorem xd_Sh_acceptGrant_98 : decode xb_Sh_acceptGrant 98 = .ok (.iload_n 2, 1) := by decide +kernel
theorem xd_Sh_acceptGrant_99 : decode xb_Sh_acceptGrant 99 = .ok (.invokevirtual 111, 3) := by decide +kernel
theorem xd_Sh_acceptGrant_102 : decode xb_Sh_acceptGrant 102 = .ok (.goto 9, 3) := by decide +kernel
theorem xd_Sh_acceptGrant_105 : decode xb_Sh_acceptGrant 105 = .ok (.aload 5, 2) := by decide +kernel
theorem xd_Sh_acceptGrant_107 : decode xb_Sh_acceptGrant 107 = .ok (.iload_n 2, 1) := by decide +kernel
theorem xd_Sh_acceptGrant_108 : decode xb_Sh_acceptGrant 108 = .ok (.invokevirtual 115, 3) := by decide +kernel
theorem xd_Sh_acceptGrant_111 : decode xb_Sh_acceptGrant 111 = .ok (.astore 6, 2) := by decide +kernel
theorem xd_Sh_acceptGrant_113 : decode xb_Sh_acceptGrant 113 = .ok (.aload 6, 2) := by decide +kernel
theorem xd_Sh_acceptGrant_115 : decode xb_Sh_acceptGrant 115 = .ok (.ifnonnull 5, 3) := by decide +kernel
theorem xd_Sh_acceptGrant_118 : decode xb_Sh_acceptGrant 118 = .ok (.iconst (-1), 1) := by decide +kernel
theorem xd_Sh_acceptGrant_119 : decode xb_Sh_acceptGrant 119 = .ok (.ireturn, 1) := by decide +kernel
theorem xd_Sh_acceptGrant_120 : decode xb_Sh_acceptGrant 120 = .ok (.aload 5, 2) := by decide +kernel
theorem xd_Sh_acceptGrant_122 : decode xb_Sh_acceptGrant 122 = .ok (.getfield 95, 3) := by decide +kernel
theorem xd_Sh_acceptGrant_125 : decode xb_Sh_acceptGrant 125 = .ok (.ifCond .ne 12, 3) := by decide +kernel
theorem xd_Sh_acceptGrant_128 : decode xb_Sh_acceptGrant 128 = .ok (.aload 6, 2) := by decide +kernel
theorem xd_Sh_acceptGrant_130 : decode xb_Sh_acceptGrant 130 = .ok (.iload_n 3, 1) := by decide +kernel
theorem xd_Sh_acceptGrant_131 : decode xb_Sh_acceptGrant 131 = .ok (.invokevirtual 118, 3) := by decide +kernel
theorem xd_Sh_acceptGrant_134 : decode xb_Sh_acceptGrant 134 = .ok (.ifCond .ne 6, 3) := by decide +kernel
theorem xd_Sh_acceptGrant_137 : decode xb_Sh_acceptGrant 137 = .ok (.bipush (-2), 2) := by decide +kernel
theorem xd_Sh_acceptGrant_139 : decode xb_Sh_acceptGrant 139 = .ok (.ireturn, 1) := by decide +kernel
theorem xd_Sh_acceptGrant_140 : decode xb_Sh_acceptGrant 140 = .ok (.aload 6, 2) := by decide +kernel
theorem xd_Sh_acceptGrant_142 : decode xb_Sh_acceptGrant 142 = .ok (.iload_n 3, 1) := by decide +kernel
theorem xd_Sh_acceptGrant_143 : decode xb_Sh_acceptGrant 143 = .ok (.invokevirtual 121, 3) := by decide +kernel
theorem xd_Sh_acceptGrant_146 : decode xb_Sh_acceptGrant 146 = .ok (.iconst 2, 1) := by decide +kernel
theorem xd_Sh_acceptGrant_147 : decode xb_Sh_acceptGrant 147 = .ok (.ireturn, 1) := by decide +kernel
theorem xd_Sh_acceptPackage_0 : decode xb_Sh_acceptPackage 0 = .ok (.aload_n 1, 1) := by decide +kernel
theorem xd_Sh_acceptPackage_1 : decode xb_Sh_acceptPackage 1 = .ok (.iconst 1, 1) := by decide +kernel
theorem xd_Sh_acceptPackage_2 : decode xb_Sh_acceptPackage 2 = .ok (.invokevirtual 70, 3) := by decide +kernel
theorem xd_Sh_acceptPackage_5 : decode xb_Sh_acceptPackage 5 = .ok (.istore_n 2, 1) := by decide +kernel
theorem xd_Sh_acceptPackage_6 : decode xb_Sh_acceptPackage 6 = .ok (.aload_n 1, 1) := by decide +kernel
theorem xd_Sh_acceptPackage_7 : decode xb_Sh_acceptPackage 7 = .ok (.getfield 27, 3) := by decide +kernel
theorem xd_Sh_acceptPackage_10 : decode xb_Sh_acceptPackage 10 = .ok (.iconst 2, 1) := by decide +kernel
theorem xd_Sh_acceptPackage_11 : decode xb_Sh_acceptPackage 11 = .ok (.if_icmp .ne 7, 3) := by decide +kernel
theorem xd_Sh_acceptPackage_14 : decode xb_Sh_acceptPackage 14 = .ok (.iload_n 2, 1) := by decide +kernel
theorem xd_Sh_acceptPackage_15 : decode xb_Sh_acceptPackage 15 = .ok (.ifCond .ne 5, 3) := by decide +kernel
theorem xd_Sh_acceptPackage_18 : decode xb_Sh_acceptPackage 18 = .ok (.iconst (-1), 1) := by decide +kernel
theorem xd_Sh_acceptPackage_19 : decode xb_Sh_acceptPackage 19 = .ok (.ireturn, 1) := by decide +kernel
theorem xd_Sh_acceptPackage_20 : decode xb_Sh_acceptPackage 20 = .ok (.aload_n 0, 1) := by decide +kernel
theorem xd_Sh_acceptPackage_21 : decode xb_Sh_acceptPackage 21 = .ok (.invokevirtual 81, 3) := by decide +kernel
theorem xd_Sh_acceptPackage_24 : decode xb_Sh_acceptPackage 24 = .ok (.astore_n 3, 1) := by decide +kernel
theorem xd_Sh_acceptPackage_25 : decode xb_Sh_acceptPackage 25 = .ok (.aload_n 3, 1) := by decide +kernel
theorem xd_Sh_acceptPackage_26 : decode xb_Sh_acceptPackage 26 = .ok (.ifnonnull 6, 3) := by decide +kernel
theorem xd_Sh_acceptPackage_29 : decode xb_Sh_acceptPackage 29 = .ok (.bipush (-2), 2) := by decide +kernel
theorem xd_Sh_acceptPackage_31 : decode xb_Sh_acceptPackage 31 = .ok (.ireturn, 1) := by decide +kernel
theorem xd_Sh_acceptPackage_32 : decode xb_Sh_acceptPackage 32 = .ok (.aload_n 3, 1) := by decide +kernel
theorem xd_Sh_acceptPackage_33 : decode xb_Sh_acceptPackage 33 = .ok (.getfield 85, 3) := by decide +kernel
theorem xd_Sh_acceptPackage_36 : decode xb_Sh_acceptPackage 36 = .ok (.iload_n 2, 1) := by decide +kernel
theorem xd_Sh_acceptPackage_37 : decode xb_Sh_acceptPackage 37 = .ok (.invokevirtual 89, 3) := by decide +kernel
theorem xd_Sh_acceptPackage_40 : decode xb_Sh_acceptPackage 40 = .ok (.ifCond .eq 5, 3) := by decide +kernel
theorem xd_Sh_acceptPackage_43 : decode xb_Sh_acceptPackage 43 = .ok (.iconst (-1), 1) := by decide +kernel
theorem xd_Sh_acceptPackage_44 : decode xb_Sh_acceptPackage 44 = .ok (.ireturn, 1) := by decide +kernel
theorem xd_Sh_acceptPackage_45 : decode xb_Sh_acceptPackage 45 = .ok (.aload_n 3, 1) := by decide +kernel
theorem xd_Sh_acceptPackage_46 : decode xb_Sh_acceptPackage 46 = .ok (.getfield 95, 3) := by decide +kernel
theorem xd_Sh_acceptPackage_49 : decode xb_Sh_acceptPackage 49 = .ok (.ifCond .ne 13, 3) := by decide +kernel
theorem xd_Sh_acceptPackage_52 : decode xb_Sh_acceptPackage 52 = .ok (.aload_n 3, 1) := by decide +kernel
theorem xd_Sh_acceptPackage_53 : decode xb_Sh_acceptPackage 53 = .ok (.getfield 85, 3) := by decide +kernel
theorem xd_Sh_acceptPackage_56 : decode xb_Sh_acceptPackage 56 = .ok (.invokevirtual 99, 3) := by decide +kernel
theorem xd_Sh_acceptPackage_59 : decode xb_Sh_acceptPackage 59 = .ok (.ifCond .eq 6, 3) := by decide +kernel
theorem xd_Sh_acceptPackage_62 : decode xb_Sh_acceptPackage 62 = .ok (.bipush (-2), 2) := by decide +kernel
theorem xd_Sh_acceptPackage_64 : decode xb_Sh_acceptPackage 64 = .ok (.ireturn, 1) := by decide +kernel
theorem xd_Sh_acceptPackage_65 : decode xb_Sh_acceptPackage 65 = .ok (.aload_n 3, 1) := by decide +kernel
theorem xd_Sh_acceptPackage_66 : decode xb_Sh_acceptPackage 66 = .ok (.iload_n 2, 1) := by decide +kernel
theorem xd_Sh_acceptPackage_67 : decode xb_Sh_acceptPackage 67 = .ok (.invokevirtual 103, 3) := by decide +kernel
theorem xd_Sh_acceptPackage_70 : decode xb_Sh_acceptPackage 70 = .ok (.iconst 2, 1) := by decide +kernel
theorem xd_Sh_acceptPackage_71 : decode xb_Sh_acceptPackage 71 = .ok (.ireturn, 1) := by decide +kernel
theorem xd_Sh_acceptRequired_0 : decode xb_Sh_acceptRequired 0 = .ok (.aload_n 1, 1) := by decide +kernel
theorem xd_Sh_acceptRequired_1 : decode xb_Sh_acceptRequired 1 = .ok (.getfield 27, 3) := by decide +kernel
theorem xd_Sh_acceptRequired_4 : decode xb_Sh_acceptRequired 4 = .ok (.iconst 3, 1) := by decide +kernel
theorem xd_Sh_acceptRequired_5 : decode xb_Sh_acceptRequired 5 = .ok (.if_icmp .lt 17, 3) := by decide +kernel
theorem xd_Sh_acceptRequired_8 : decode xb_Sh_acceptRequired 8 = .ok (.aload_n 1, 1) := by decide +kernel
theorem xd_Sh_acceptRequired_9 : decode xb_Sh_acceptRequired 9 = .ok (.iconst 1, 1) := by decide +kernel
theorem xd_Sh_acceptRequired_10 : decode xb_Sh_acceptRequired 10 = .ok (.ldc 124, 2) := by decide +kernel
theorem xd_Sh_acceptRequired_12 : decode xb_Sh_acceptRequired 12 = .ok (.invokevirtual 34, 3) := by decide +kernel
theorem xd_Sh_acceptRequired_15 : decode xb_Sh_acceptRequired 15 = .ok (.ifCond .eq 7, 3) := by decide +kernel
theorem xd_Sh_acceptRequired_18 : decode xb_Sh_acceptRequired 18 = .ok (.iconst 1, 1) := by decide +kernel
theorem xd_Sh_acceptRequired_19 : decode xb_Sh_acceptRequired 19 = .ok (.goto 4, 3) := by decide +kernel
theorem xd_Sh_acceptRequired_22 : decode xb_Sh_acceptRequired 22 = .ok (.iconst 0, 1) := by decide +kernel
theorem xd_Sh_acceptRequired_23 : decode xb_Sh_acceptRequired 23 = .ok (.istore_n 2, 1) := by decide +kernel
theorem xd_Sh_acceptRequired_24 : decode xb_Sh_acceptRequired 24 = .ok (.aload_n 1, 1) := by decide +kernel
theorem xd_Sh_acceptRequired_25 : decode xb_Sh_acceptRequired 25 = .ok (.getfield 27, 3) := by decide +kernel
theorem xd_Sh_acceptRequired_28 : decode xb_Sh_acceptRequired 28 = .ok (.iconst 3, 1) := by decide +kernel
theorem xd_Sh_acceptRequired_29 : decode xb_Sh_acceptRequired 29 = .ok (.if_icmp .lt 22, 3) := by decide +kernel
theorem xd_Sh_acceptRequired_32 : decode xb_Sh_acceptRequired 32 = .ok (.aload_n 1, 1) := by decide +kernel
theorem xd_Sh_acceptRequired_33 : decode xb_Sh_acceptRequired 33 = .ok (.aload_n 1, 1) := by decide +kernel
theorem xd_Sh_acceptRequired_34 : decode xb_Sh_acceptRequired 34 = .ok (.getfield 27, 3) := by decide +kernel
theorem xd_Sh_acceptRequired_37 : decode xb_Sh_acceptRequired 37 = .ok (.iconst 2, 1) := by decide +kernel
theorem xd_Sh_acceptRequired_38 : decode xb_Sh_acceptRequired 38 = .ok (.isub, 1) := by decide +kernel
theorem xd_Sh_acceptRequired_39 : decode xb_Sh_acceptRequired 39 = .ok (.ldc 126, 2) := by decide +kernel
theorem xd_Sh_acceptRequired_41 : decode xb_Sh_acceptRequired 41 = .ok (.invokevirtual 34, 3) := by decide +kernel
theorem xd_Sh_acceptRequired_44 : decode xb_Sh_acceptRequired 44 = .ok (.ifCond .eq 7, 3) := by decide +kernel
theorem xd_Sh_acceptRequired_47 : decode xb_Sh_acceptRequired 47 = .ok (.iconst 1, 1) := by decide +kernel
theorem xd_Sh_acceptRequired_48 : decode xb_Sh_acceptRequired 48 = .ok (.goto 4, 3) := by decide +kernel
theorem xd_Sh_acceptRequired_51 : decode xb_Sh_acceptRequired 51 = .ok (.iconst 0, 1) := by decide +kernel
theorem xd_Sh_acceptRequired_52 : decode xb_Sh_acceptRequired 52 = .ok (.istore_n 3, 1) := by decide +kernel
theorem xd_Sh_acceptRequired_53 : decode xb_Sh_acceptRequired 53 = .ok (.iconst 2, 1) := by decide +kernel
theorem xd_Sh_acceptRequired_54 : decode xb_Sh_acceptRequired 54 = .ok (.iload_n 2, 1) := by decide +kernel
theorem xd_Sh_acceptRequired_55 : decode xb_Sh_acceptRequired 55 = .ok (.ifCond .eq 7, 3) := by decide +kernel
theorem xd_Sh_acceptRequired_58 : decode xb_Sh_acceptRequired 58 = .ok (.iconst 1, 1) := by decide +kernel
theorem xd_Sh_acceptRequired_59 : decode xb_Sh_acceptRequired 59 = .ok (.goto 4, 3) := by decide +kernel
theorem xd_Sh_acceptRequired_62 : decode xb_Sh_acceptRequired 62 = .ok (.iconst 0, 1) := by decide +kernel
theorem xd_Sh_acceptRequired_63 : decode xb_Sh_acceptRequired 63 = .ok (.iadd, 1) := by decide +kernel
theorem xd_Sh_acceptRequired_64 : decode xb_Sh_acceptRequired 64 = .ok (.iload_n 3, 1) := by decide +kernel
theorem xd_Sh_acceptRequired_65 : decode xb_Sh_acceptRequired 65 = .ok (.ifCond .eq 7, 3) := by decide +kernel
theorem xd_Sh_acceptRequired_68 : decode xb_Sh_acceptRequired 68 = .ok (.iconst 1, 1) := by decide +kernel
theorem xd_Sh_acceptRequired_69 : decode xb_Sh_acceptRequired 69 = .ok (.goto 4, 3) := by decide +kernel
theorem xd_Sh_acceptRequired_72 : decode xb_Sh_acceptRequired 72 = .ok (.iconst 0, 1) := by decide +kernel
theorem xd_Sh_acceptRequired_73 : decode xb_Sh_acceptRequired 73 = .ok (.iadd, 1) := by decide +kernel
theorem xd_Sh_acceptRequired_74 : decode xb_Sh_acceptRequired 74 = .ok (.istore 4, 2) := by decide +kernel
theorem xd_Sh_acceptRequired_76 : decode xb_Sh_acceptRequired 76 = .ok (.aload_n 1, 1) := by decide +kernel
theorem xd_Sh_acceptRequired_77 : decode xb_Sh_acceptRequired 77 = .ok (.aload_n 1, 1) := by decide +kernel
theorem xd_Sh_acceptRequired_78 : decode xb_Sh_acceptRequired 78 = .ok (.getfield 27, 3) := by decide +kernel
theorem xd_Sh_acceptRequired_81 : decode xb_Sh_acceptRequired 81 = .ok (.iconst 1, 1) := by decide +kernel
theorem xd_Sh_acceptRequired_82 : decode xb_Sh_acceptRequired 82 = .ok (.isub, 1) := by decide +kernel
theorem xd_Sh_acceptRequired_83 : decode xb_Sh_acceptRequired 83 = .ok (.invokevirtual 70, 3) := by decide +kernel
theorem xd_Sh_acceptRequired_86 : decode xb_Sh_acceptRequired 86 = .ok (.istore 5, 2) := by decide +kernel
theorem xd_Sh_acceptRequired_88 : decode xb_Sh_acceptRequired 88 = .ok (.aload_n 1, 1) := by decide +kernel
theorem xd_Sh_acceptRequired_89 : decode xb_Sh_acceptRequired 89 = .ok (.getfield 27, 3) := by decide +kernel
theorem xd_Sh_acceptRequired_92 : decode xb_Sh_acceptRequired 92 = .ok (.iload 4, 2) := by decide +kernel
theorem xd_Sh_acceptRequired_94 : decode xb_Sh_acceptRequired 94 = .ok (.if_icmp .ne 8, 3) := by decide +kernel
theorem xd_Sh_acceptRequired_97 : decode xb_Sh_acceptRequired 97 = .ok (.iload 5, 2) := by decide +kernel
theorem xd_Sh_acceptRequired_99 : decode xb_Sh_acceptRequired 99 = .ok (.ifCond .ne 5, 3) := by decide +kernel
theorem xd_Sh_acceptRequired_102 : decode xb_Sh_acceptRequired 102 = .ok (.iconst (-1), 1) := by decide +kernel
theorem xd_Sh_acceptRequired_103 : decode xb_Sh_acceptRequired 103 = .ok (.ireturn, 1) := by decide +kernel
theorem xd_Sh_acceptRequired_104 : decode xb_Sh_acceptRequired 104 = .ok (.aload_n 0, 1) := by decide +kernel
theorem xd_Sh_acceptRequired_105 : decode xb_Sh_acceptRequired 105 = .ok (.invokevirtual 81, 3) := by decide +kernel
theorem xd_Sh_acceptRequired_108 : decode xb_Sh_acceptRequired 108 = .ok (.astore 6, 2) := by decide +kernel
theorem xd_Sh_acceptRequired_110 : decode xb_Sh_acceptRequired 110 = .ok (.aload 6, 2) := by decide +kernel
theorem xd_Sh_acceptRequired_112 : decode xb_Sh_acceptRequired 112 = .ok (.ifnonnull 6, 3) := by decide +kernel
theorem xd_Sh_acceptRequired_115 : decode xb_Sh_acceptRequired 115 = .ok (.bipush (-2), 2) := by decide +kernel
theorem xd_Sh_acceptRequired_117 : decode xb_Sh_acceptRequired 117 = .ok (.ireturn, 1) := by decide +kernel
theorem xd_Sh_acceptRequired_118 : decode xb_Sh_acceptRequired 118 = .ok (.aload 6, 2) := by decide +kernel
theorem xd_Sh_acceptRequired_120 : decode xb_Sh_acceptRequired 120 = .ok (.getfield 24, 3) := by decide +kernel
theorem xd_Sh_acceptRequired_123 : decode xb_Sh_acceptRequired 123 = .ok (.iload 5, 2) := by decide +kernel
theorem xd_Sh_acceptRequired_125 : decode xb_Sh_acceptRequired 125 = .ok (.if_icmp .eq 16, 3) := by decide +kernel
theorem xd_Sh_acceptRequired_128 : decode xb_Sh_acceptRequired 128 = .ok (.aload 6, 2) := by decide +kernel
theorem xd_Sh_acceptRequired_130 : decode xb_Sh_acceptRequired 130 = .ok (.getfield 128, 3) := by decide +kernel
theorem xd_Sh_acceptRequired_133 : decode xb_Sh_acceptRequired 133 = .ok (.iload 5, 2) := by decide +kernel
theorem xd_Sh_acceptRequired_135 : decode xb_Sh_acceptRequired 135 = .ok (.invokevirtual 89, 3) := by decide +kernel
theorem xd_Sh_acceptRequired_138 : decode xb_Sh_acceptRequired 138 = .ok (.ifCond .eq 5, 3) := by decide +kernel
theorem xd_Sh_acceptRequired_141 : decode xb_Sh_acceptRequired 141 = .ok (.iconst (-1), 1) := by decide +kernel
theorem xd_Sh_acceptRequired_142 : decode xb_Sh_acceptRequired 142 = .ok (.ireturn, 1) := by decide +kernel
theorem xd_Sh_acceptRequired_143 : decode xb_Sh_acceptRequired 143 = .ok (.aload 6, 2) := by decide +kernel
theorem xd_Sh_acceptRequired_145 : decode xb_Sh_acceptRequired 145 = .ok (.getfield 95, 3) := by decide +kernel
theorem xd_Sh_acceptRequired_148 : decode xb_Sh_acceptRequired 148 = .ok (.ifCond .ne 14, 3) := by decide +kernel
theorem xd_Sh_acceptRequired_151 : decode xb_Sh_acceptRequired 151 = .ok (.aload 6, 2) := by decide +kernel
theorem xd_Sh_acceptRequired_153 : decode xb_Sh_acceptRequired 153 = .ok (.getfield 128, 3) := by decide +kernel
theorem xd_Sh_acceptRequired_156 : decode xb_Sh_acceptRequired 156 = .ok (.invokevirtual 99, 3) := by decide +kernel
theorem xd_Sh_acceptRequired_159 : decode xb_Sh_acceptRequired 159 = .ok (.ifCond .eq 6, 3) := by decide +kernel
theorem xd_Sh_acceptRequired_162 : decode xb_Sh_acceptRequired 162 = .ok (.bipush (-2), 2) := by decide +kernel
theorem xd_Sh_acceptRequired_164 : decode xb_Sh_acceptRequired 164 = .ok (.ireturn, 1) := by decide +kernel
theorem xd_Sh_acceptRequired_165 : decode xb_Sh_acceptRequired 165 = .ok (.aload 6, 2) := by decide +kernel
theorem xd_Sh_acceptRequired_167 : decode xb_Sh_acceptRequired 167 = .ok (.iload 5, 2) := by decide +kernel
theorem xd_Sh_acceptRequired_169 : decode xb_Sh_acceptRequired 169 = .ok (.iload_n 2, 1) := by decide +kernel
theorem xd_Sh_acceptRequired_170 : decode xb_Sh_acceptRequired 170 = .ok (.iload_n 3, 1) := by decide +kernel
theorem xd_Sh_acceptRequired_171 : decode xb_Sh_acceptRequired 171 = .ok (.invokevirtual 131, 3) := by decide +kernel
theorem xd_Sh_acceptRequired_174 : decode xb_Sh_acceptRequired 174 = .ok (.iconst 2, 1) := by decide +kernel
theorem xd_Sh_acceptRequired_175 : decode xb_Sh_acceptRequired 175 = .ok (.ireturn, 1) := by decide +kernel
theorem xd_Sh_acceptService_0 : decode xb_Sh_acceptService 0 = .ok (.aload_n 1, 1) := by decide +kernel
theorem xd_Sh_acceptService_1 : decode xb_Sh_acceptService 1 = .ok (.iconst 1, 1) := by decide +kernel
theorem xd_Sh_acceptService_2 : decode xb_Sh_acceptService 2 = .ok (.invokevirtual 70, 3) := by decide +kernel
theorem xd_Sh_acceptService_5 : decode xb_Sh_acceptService 5 = .ok (.istore_n 2, 1) := by decide +kernel
theorem xd_Sh_acceptService_6 : decode xb_Sh_acceptService 6 = .ok (.aload_n 1, 1) := by decide +kernel
theorem xd_Sh_acceptService_7 : decode xb_Sh_acceptService 7 = .ok (.getfield 27, 3) := by decide +kernel
theorem xd_Sh_acceptService_10 : decode xb_Sh_acceptService 10 = .ok (.iconst 2, 1) := by decide +kernel
theorem xd_Sh_acceptService_11 : decode xb_Sh_acceptService 11 = .ok (.if_icmp .ne 7, 3) := by decide +kernel
theorem xd_Sh_acceptService_14 : decode xb_Sh_acceptService 14 = .ok (.iload_n 2, 1) := by decide +kernel
theorem xd_Sh_acceptService_15 : decode xb_Sh_acceptService 15 = .ok (.ifCond .ne 5, 3) := by decide +kernel
theorem xd_Sh_acceptService_18 : decode xb_Sh_acceptService 18 = .ok (.iconst (-1), 1) := by decide +kernel
theorem xd_Sh_acceptService_19 : decode xb_Sh_acceptService 19 = .ok (.ireturn, 1) := by decide +kernel
theorem xd_Sh_acceptService_20 : decode xb_Sh_acceptService 20 = .ok (.aload_n 0, 1) := by decide +kernel
theorem xd_Sh_acceptService_21 : decode xb_Sh_acceptService 21 = .ok (.invokevirtual 81, 3) := by decide +kernel
theorem xd_Sh_acceptService_24 : decode xb_Sh_acceptService 24 = .ok (.astore_n 3, 1) := by decide +kernel
theorem xd_Sh_acceptService_25 : decode xb_Sh_acceptService 25 = .ok (.aload_n 3, 1) := by decide +kernel
theorem xd_Sh_acceptService_26 : decode xb_Sh_acceptService 26 = .ok (.ifnonnull 6, 3) := by decide +kernel
theorem xd_Sh_acceptService_29 : decode xb_Sh_acceptService 29 = .ok (.bipush (-2), 2) := by decide +kernel
theorem xd_Sh_acceptService_31 : decode xb_Sh_acceptService 31 = .ok (.ireturn, 1) := by decide +kernel
theorem xd_Sh_acceptService_32 : decode xb_Sh_acceptService 32 = .ok (.aload_n 1, 1) := by decide +kernel
theorem xd_Sh_acceptService_33 : decode xb_Sh_acceptService 33 = .ok (.iconst 0, 1) := by decide +kernel
theorem xd_Sh_acceptService_34 : decode xb_Sh_acceptService 34 = .ok (.ldc 59, 2) := by decide +kernel
theorem xd_Sh_acceptService_36 : decode xb_Sh_acceptService 36 = .ok (.invokevirtual 34, 3) := by decide +kernel
theorem xd_Sh_acceptService_39 : decode xb_Sh_acceptService 39 = .ok (.ifCond .eq 10, 3) := by decide +kernel
theorem xd_Sh_acceptService_42 : decode xb_Sh_acceptService 42 = .ok (.aload_n 3, 1) := by decide +kernel
theorem xd_Sh_acceptService_43 : decode xb_Sh_acceptService 43 = .ok (.getfield 135, 3) := by decide +kernel
theorem xd_Sh_acceptService_46 : decode xb_Sh_acceptService 46 = .ok (.goto 7, 3) := by decide +kernel
theorem xd_Sh_acceptService_49 : decode xb_Sh_acceptService 49 = .ok (.aload_n 3, 1) := by decide +kernel
theorem xd_Sh_acceptService_50 : decode xb_Sh_acceptService 50 = .ok (.getfield 138, 3) := by decide +kernel
theorem xd_Sh_acceptService_53 : decode xb_Sh_acceptService 53 = .ok (.astore 4, 2) := by decide +kernel
theorem xd_Sh_acceptService_55 : decode xb_Sh_acceptService 55 = .ok (.aload 4, 2) := by decide +kernel
theorem xd_Sh_acceptService_57 : decode xb_Sh_acceptService 57 = .ok (.iload_n 2, 1) := by decide +kernel
theorem xd_Sh_acceptService_58 : decode xb_Sh_acceptService 58 = .ok (.invokevirtual 89, 3) := by decide +kernel
theorem xd_Sh_acceptService_61 : decode xb_Sh_acceptService 61 = .ok (.ifCond .eq 5, 3) := by decide +kernel
theorem xd_Sh_acceptService_64 : decode xb_Sh_acceptService 64 = .ok (.iconst (-1), 1) := by decide +kernel
theorem xd_Sh_acceptService_65 : decode xb_Sh_acceptService 65 = .ok (.ireturn, 1) := by decide +kernel
theorem xd_Sh_acceptService_66 : decode xb_Sh_acceptService 66 = .ok (.aload_n 3, 1) := by decide +kernel
theorem xd_Sh_acceptService_67 : decode xb_Sh_acceptService 67 = .ok (.getfield 95, 3) := by decide +kernel
theorem xd_Sh_acceptService_70 : decode xb_Sh_acceptService 70 = .ok (.ifCond .ne 11, 3) := by decide +kernel
theorem xd_Sh_acceptService_73 : decode xb_Sh_acceptService 73 = .ok (.aload 4, 2) := by decide +kernel
theorem xd_Sh_acceptService_75 : decode xb_Sh_acceptService 75 = .ok (.invokevirtual 99, 3) := by decide +kernel
theorem xd_Sh_acceptService_78 : decode xb_Sh_acceptService 78 = .ok (.ifCond .eq 6, 3) := by decide +kernel
theorem xd_Sh_acceptService_81 : decode xb_Sh_acceptService 81 = .ok (.bipush (-2), 2) := by decide +kernel
theorem xd_Sh_acceptService_83 : decode xb_Sh_acceptService 83 = .ok (.ireturn, 1) := by decide +kernel
theorem xd_Sh_acceptService_84 : decode xb_Sh_acceptService 84 = .ok (.aload 4, 2) := by decide +kernel
theorem xd_Sh_acceptService_86 : decode xb_Sh_acceptService 86 = .ok (.iload_n 2, 1) := by decide +kernel
theorem xd_Sh_acceptService_87 : decode xb_Sh_acceptService 87 = .ok (.invokevirtual 141, 3) := by decide +kernel
theorem xd_Sh_acceptService_90 : decode xb_Sh_acceptService 90 = .ok (.iconst 2, 1) := by decide +kernel
theorem xd_Sh_acceptService_91 : decode xb_Sh_acceptService 91 = .ok (.ireturn, 1) := by decide +kernel
abbrev xb_De_line : ByteArray := prog_1_method_3_code
def xy_De_line : MethodName := ⟨"LayerDesk", "line", "()I"⟩
abbrev xb_De_load : ByteArray := prog_1_method_11_code
def xy_De_load : MethodName := ⟨"LayerDesk", "load", "(II)I"⟩
abbrev xb_De_peek : ByteArray := prog_1_method_12_code
def xy_De_peek : MethodName := ⟨"LayerDesk", "peek", "(IIII)Z"⟩
abbrev xb_De_provider : ByteArray := prog_1_method_13_code
def xy_De_provider : MethodName := ⟨"LayerDesk", "provider", "(II)I"⟩
abbrev xb_De_layer : ByteArray := prog_1_method_4_code
def xy_De_layer : MethodName := ⟨"LayerDesk", "layer", "(IIZ)I"⟩
theorem xd_De_layer_0 : decode xb_De_layer 0 = .ok (.aload_n 0, 1) := by decide +kernel
theorem xd_De_layer_1 : decode xb_De_layer 1 = .ok (.iconst 0, 1) := by decide +kernel
theorem xd_De_layer_2 : decode xb_De_layer 2 = .ok (.putfield 42, 3) := by decide +kernel
theorem xd_De_layer_5 : decode xb_De_layer 5 = .ok (.aload_n 0, 1) := by decide +kernel
theorem xd_De_layer_6 : decode xb_De_layer 6 = .ok (.getfield 10, 3) := by decide +kernel
theorem xd_De_layer_9 : decode xb_De_layer 9 = .ok (.invokevirtual 49, 3) := by decide +kernel
theorem xd_De_layer_12 : decode xb_De_layer 12 = .ok (.aload_n 0, 1) := by decide +kernel
theorem xd_De_layer_13 : decode xb_De_layer 13 = .ok (.iload_n 2, 1) := by decide +kernel
theorem xd_De_layer_14 : decode xb_De_layer 14 = .ok (.invokevirtual 68, 3) := by decide +kernel
theorem xd_De_layer_17 : decode xb_De_layer 17 = .ok (.astore 4, 2) := by decide +kernel
theorem xd_De_layer_19 : decode xb_De_layer 19 = .ok (.iload_n 2, 1) := by decide +kernel
theorem xd_De_layer_20 : decode xb_De_layer 20 = .ok (.iconst (-1), 1) := by decide +kernel
theorem xd_De_layer_21 : decode xb_De_layer 21 = .ok (.if_icmp .eq 8, 3) := by decide +kernel
theorem xd_De_layer_24 : decode xb_De_layer 24 = .ok (.aload 4, 2) := by decide +kernel
theorem xd_De_layer_26 : decode xb_De_layer 26 = .ok (.ifnull 7, 3) := by decide +kernel
theorem xd_De_layer_29 : decode xb_De_layer 29 = .ok (.iconst 1, 1) := by decide +kernel
theorem xd_De_layer_30 : decode xb_De_layer 30 = .ok (.goto 4, 3) := by decide +kernel
theorem xd_De_layer_33 : decode xb_De_layer 33 = .ok (.iconst 0, 1) := by decide +kernel
theorem xd_De_layer_34 : decode xb_De_layer 34 = .ok (.istore 5, 2) := by decide +kernel
theorem xd_De_layer_36 : decode xb_De_layer 36 = .ok (.aload_n 0, 1) := by decide +kernel
theorem xd_De_layer_37 : decode xb_De_layer 37 = .ok (.invokevirtual 72, 3) := by decide +kernel
theorem xd_De_layer_40 : decode xb_De_layer 40 = .ok (.ifCond .eq 15, 3) := by decide +kernel
theorem xd_De_layer_43 : decode xb_De_layer 43 = .ok (.iload_n 1, 1) := by decide +kernel
theorem xd_De_layer_44 : decode xb_De_layer 44 = .ok (.invokestatic 76, 3) := by decide +kernel
theorem xd_De_layer_47 : decode xb_De_layer 47 = .ok (.ifCond .eq 8, 3) := by decide +kernel
theorem xd_De_layer_50 : decode xb_De_layer 50 = .ok (.iload 5, 2) := by decide +kernel
theorem xd_De_layer_52 : decode xb_De_layer 52 = .ok (.ifCond .ne 13, 3) := by decide +kernel
theorem xd_De_layer_55 : decode xb_De_layer 55 = .ok (.new 56, 3) := by decide +kernel
theorem xd_De_layer_58 : decode xb_De_layer 58 = .ok (.dup, 1) := by decide +kernel
theorem xd_De_layer_59 : decode xb_De_layer 59 = .ok (.ldc 80, 2) := by decide +kernel
theorem xd_De_layer_61 : decode xb_De_layer 61 = .ok (.invokespecial 60, 3) := by decide +kernel
theorem xd_De_layer_64 : decode xb_De_layer 64 = .ok (.athrow, 1) := by decide +kernel
theorem xd_De_layer_65 : decode xb_De_layer 65 = .ok (.aload_n 0, 1) := by decide +kernel
theorem xd_De_layer_66 : decode xb_De_layer 66 = .ok (.getfield 28, 3) := by decide +kernel
theorem xd_De_layer_69 : decode xb_De_layer 69 = .ok (.iload_n 1, 1) := by decide +kernel
theorem xd_De_layer_70 : decode xb_De_layer 70 = .ok (.aload 4, 2) := by decide +kernel
theorem xd_De_layer_72 : decode xb_De_layer 72 = .ok (.invokevirtual 82, 3) := by decide +kernel
theorem xd_De_layer_75 : decode xb_De_layer 75 = .ok (.aload_n 0, 1) := by decide +kernel
theorem xd_De_layer_76 : decode xb_De_layer 76 = .ok (.invokevirtual 86, 3) := by decide +kernel
theorem xd_De_layer_79 : decode xb_De_layer 79 = .ok (.ifCond .ne 13, 3) := by decide +kernel
theorem xd_De_layer_82 : decode xb_De_layer 82 = .ok (.new 89, 3) := by decide +kernel
theorem xd_De_layer_85 : decode xb_De_layer 85 = .ok (.dup, 1) := by decide +kernel
theorem xd_De_layer_86 : decode xb_De_layer 86 = .ok (.ldc 91, 2) := by decide +kernel
theorem xd_De_layer_88 : decode xb_De_layer 88 = .ok (.invokespecial 93, 3) := by decide +kernel
theorem xd_De_layer_91 : decode xb_De_layer 91 = .ok (.athrow, 1) := by decide +kernel
theorem xd_De_layer_92 : decode xb_De_layer 92 = .ok (.iload_n 3, 1) := by decide +kernel
theorem xd_De_layer_93 : decode xb_De_layer 93 = .ok (.ifCond .eq 10, 3) := by decide +kernel
theorem xd_De_layer_96 : decode xb_De_layer 96 = .ok (.aload_n 0, 1) := by decide +kernel
theorem xd_De_layer_97 : decode xb_De_layer 97 = .ok (.getfield 28, 3) := by decide +kernel
theorem xd_De_layer_100 : decode xb_De_layer 100 = .ok (.invokevirtual 94, 3) := by decide +kernel
theorem xd_De_layer_103 : decode xb_De_layer 103 = .ok (.aload_n 0, 1) := by decide +kernel
theorem xd_De_layer_104 : decode xb_De_layer 104 = .ok (.getfield 28, 3) := by decide +kernel
theorem xd_De_layer_107 : decode xb_De_layer 107 = .ok (.aload_n 0, 1) := by decide +kernel
theorem xd_De_layer_108 : decode xb_De_layer 108 = .ok (.getfield 38, 3) := by decide +kernel
theorem xd_De_layer_111 : decode xb_De_layer 111 = .ok (.invokevirtual 97, 3) := by decide +kernel
theorem xd_De_layer_114 : decode xb_De_layer 114 = .ok (.astore 6, 2) := by decide +kernel
theorem xd_De_layer_116 : decode xb_De_layer 116 = .ok (.aload_n 0, 1) := by decide +kernel
theorem xd_De_layer_117 : decode xb_De_layer 117 = .ok (.aload_n 0, 1) := by decide +kernel
theorem xd_De_layer_118 : decode xb_De_layer 118 = .ok (.aload 6, 2) := by decide +kernel
theorem xd_De_layer_120 : decode xb_De_layer 120 = .ok (.invokevirtual 100, 3) := by decide +kernel
theorem xd_De_layer_123 : decode xb_De_layer 123 = .ok (.putfield 42, 3) := by decide +kernel
theorem xd_De_layer_126 : decode xb_De_layer 126 = .ok (.aload_n 0, 1) := by decide +kernel
theorem xd_De_layer_127 : decode xb_De_layer 127 = .ok (.getfield 42, 3) := by decide +kernel
theorem xd_De_layer_130 : decode xb_De_layer 130 = .ok (.ifCond .eq 13, 3) := by decide +kernel
theorem xd_De_layer_133 : decode xb_De_layer 133 = .ok (.new 63, 3) := by decide +kernel
theorem xd_De_layer_136 : decode xb_De_layer 136 = .ok (.dup, 1) := by decide +kernel
theorem xd_De_layer_137 : decode xb_De_layer 137 = .ok (.ldc 104, 2) := by decide +kernel
theorem xd_De_layer_139 : decode xb_De_layer 139 = .ok (.invokespecial 67, 3) := by decide +kernel
theorem xd_De_layer_142 : decode xb_De_layer 142 = .ok (.athrow, 1) := by decide +kernel
theorem xd_De_layer_143 : decode xb_De_layer 143 = .ok (.aload_n 0, 1) := by decide +kernel
theorem xd_De_layer_144 : decode xb_De_layer 144 = .ok (.aload 6, 2) := by decide +kernel
theorem xd_De_layer_146 : decode xb_De_layer 146 = .ok (.invokevirtual 106, 3) := by decide +kernel
theorem xd_De_layer_149 : decode xb_De_layer 149 = .ok (.aload 6, 2) := by decide +kernel
theorem xd_De_layer_151 : decode xb_De_layer 151 = .ok (.getfield 110, 3) := by decide +kernel
theorem xd_De_layer_154 : decode xb_De_layer 154 = .ok (.ireturn, 1) := by decide +kernel
theorem xd_De_line_0 : decode xb_De_line 0 = .ok (.aload_n 0, 1) := by decide +kernel
theorem xd_De_line_1 : decode xb_De_line 1 = .ok (.getfield 10, 3) := by decide +kernel
theorem xd_De_line_4 : decode xb_De_line 4 = .ok (.invokevirtual 49, 3) := by decide +kernel
theorem xd_De_line_7 : decode xb_De_line 7 = .ok (.aload_n 0, 1) := by decide +kernel
theorem xd_De_line_8 : decode xb_De_line 8 = .ok (.getfield 19, 3) := by decide +kernel
theorem xd_De_line_11 : decode xb_De_line 11 = .ok (.aload_n 0, 1) := by decide +kernel
theorem xd_De_line_12 : decode xb_De_line 12 = .ok (.getfield 10, 3) := by decide +kernel
theorem xd_De_line_15 : decode xb_De_line 15 = .ok (.invokevirtual 52, 3) := by decide +kernel
theorem xd_De_line_18 : decode xb_De_line 18 = .ok (.istore_n 1, 1) := by decide +kernel
theorem xd_De_line_19 : decode xb_De_line 19 = .ok (.iload_n 1, 1) := by decide +kernel
theorem xd_De_line_20 : decode xb_De_line 20 = .ok (.iconst (-1), 1) := by decide +kernel
theorem xd_De_line_21 : decode xb_De_line 21 = .ok (.if_icmp .ne 13, 3) := by decide +kernel
theorem xd_De_line_24 : decode xb_De_line 24 = .ok (.new 56, 3) := by decide +kernel
theorem xd_De_line_27 : decode xb_De_line 27 = .ok (.dup, 1) := by decide +kernel
theorem xd_De_line_28 : decode xb_De_line 28 = .ok (.ldc 58, 2) := by decide +kernel
theorem xd_De_line_30 : decode xb_De_line 30 = .ok (.invokespecial 60, 3) := by decide +kernel
theorem xd_De_line_33 : decode xb_De_line 33 = .ok (.athrow, 1) := by decide +kernel
theorem xd_De_line_34 : decode xb_De_line 34 = .ok (.iload_n 1, 1) := by decide +kernel
theorem xd_De_line_35 : decode xb_De_line 35 = .ok (.bipush (-2), 2) := by decide +kernel
theorem xd_De_line_37 : decode xb_De_line 37 = .ok (.if_icmp .ne 13, 3) := by decide +kernel
theorem xd_De_line_40 : decode xb_De_line 40 = .ok (.new 63, 3) := by decide +kernel
theorem xd_De_line_43 : decode xb_De_line 43 = .ok (.dup, 1) := by decide +kernel
theorem xd_De_line_44 : decode xb_De_line 44 = .ok (.ldc 65, 2) := by decide +kernel
theorem xd_De_line_46 : decode xb_De_line 46 = .ok (.invokespecial 67, 3) := by decide +kernel
theorem xd_De_line_49 : decode xb_De_line 49 = .ok (.athrow, 1) := by decide +kernel
theorem xd_De_line_50 : decode xb_De_line 50 = .ok (.iload_n 1, 1) := by decide +kernel
theorem xd_De_line_51 : decode xb_De_line 51 = .ok (.ireturn, 1) := by decide +kernel
theorem xd_De_load_0 : decode xb_De_load 0 = .ok (.aload_n 0, 1) := by decide +kernel
theorem xd_De_load_1 : decode xb_De_load 1 = .ok (.getfield 10, 3) := by decide +kernel
theorem xd_De_load_4 : decode xb_De_load 4 = .ok (.invokevirtual 158, 3) := by decide +kernel
theorem xd_De_load_7 : decode xb_De_load 7 = .ok (.istore_n 3, 1) := by decide +kernel
theorem xd_De_load_8 : decode xb_De_load 8 = .ok (.aload_n 0, 1) := by decide +kernel
theorem xd_De_load_9 : decode xb_De_load 9 = .ok (.iload_n 1, 1) := by decide +kernel
theorem xd_De_load_10 : decode xb_De_load 10 = .ok (.iload_n 2, 1) := by decide +kernel
theorem xd_De_load_11 : decode xb_De_load 11 = .ok (.invokevirtual 132, 3) := by decide +kernel
theorem xd_De_load_14 : decode xb_De_load 14 = .ok (.astore 4, 2) := by decide +kernel
theorem xd_De_load_16 : decode xb_De_load 16 = .ok (.aload 4, 2) := by decide +kernel
theorem xd_De_load_18 : decode xb_De_load 18 = .ok (.ifnull 7, 3) := by decide +kernel
theorem xd_De_load_21 : decode xb_De_load 21 = .ok (.iload_n 3, 1) := by decide +kernel
theorem xd_De_load_22 : decode xb_De_load 22 = .ok (.ifCond .ne 13, 3) := by decide +kernel
theorem xd_De_load_25 : decode xb_De_load 25 = .ok (.new 56, 3) := by decide +kernel
theorem xd_De_load_28 : decode xb_De_load 28 = .ok (.dup, 1) := by decide +kernel
theorem xd_De_load_29 : decode xb_De_load 29 = .ok (.ldc 161, 2) := by decide +kernel
theorem xd_De_load_31 : decode xb_De_load 31 = .ok (.invokespecial 60, 3) := by decide +kernel
theorem xd_De_load_34 : decode xb_De_load 34 = .ok (.athrow, 1) := by decide +kernel
theorem xd_De_load_35 : decode xb_De_load 35 = .ok (.aload 4, 2) := by decide +kernel
theorem xd_De_load_37 : decode xb_De_load 37 = .ok (.getfield 136, 3) := by decide +kernel
theorem xd_De_load_40 : decode xb_De_load 40 = .ok (.getfield 163, 3) := by decide +kernel
theorem xd_De_load_43 : decode xb_De_load 43 = .ok (.iload_n 3, 1) := by decide +kernel
theorem xd_De_load_44 : decode xb_De_load 44 = .ok (.invokevirtual 167, 3) := by decide +kernel
theorem xd_De_load_47 : decode xb_De_load 47 = .ok (.ifCond .eq 8, 3) := by decide +kernel
theorem xd_De_load_50 : decode xb_De_load 50 = .ok (.aload 4, 2) := by decide +kernel
theorem xd_De_load_52 : decode xb_De_load 52 = .ok (.goto 9, 3) := by decide +kernel
theorem xd_De_load_55 : decode xb_De_load 55 = .ok (.aload 4, 2) := by decide +kernel
theorem xd_De_load_57 : decode xb_De_load 57 = .ok (.iload_n 3, 1) := by decide +kernel
theorem xd_De_load_58 : decode xb_De_load 58 = .ok (.invokevirtual 172, 3) := by decide +kernel
theorem xd_De_load_61 : decode xb_De_load 61 = .ok (.astore 5, 2) := by decide +kernel
theorem xd_De_load_63 : decode xb_De_load 63 = .ok (.aload 5, 2) := by decide +kernel
theorem xd_De_load_65 : decode xb_De_load 65 = .ok (.ifnonnull 13, 3) := by decide +kernel
theorem xd_De_load_68 : decode xb_De_load 68 = .ok (.new 89, 3) := by decide +kernel
theorem xd_De_load_71 : decode xb_De_load 71 = .ok (.dup, 1) := by decide +kernel
theorem xd_De_load_72 : decode xb_De_load 72 = .ok (.ldc 176, 2) := by decide +kernel
theorem xd_De_load_74 : decode xb_De_load 74 = .ok (.invokespecial 93, 3) := by decide +kernel
theorem xd_De_load_77 : decode xb_De_load 77 = .ok (.athrow, 1) := by decide +kernel
theorem xd_De_load_78 : decode xb_De_load 78 = .ok (.aload 5, 2) := by decide +kernel
theorem xd_De_load_80 : decode xb_De_load 80 = .ok (.invokevirtual 178, 3) := by decide +kernel
theorem xd_De_load_83 : decode xb_De_load 83 = .ok (.ireturn, 1) := by decide +kernel
theorem xd_De_peek_0 : decode xb_De_peek 0 = .ok (.aload_n 0, 1) := by decide +kernel
theorem xd_De_peek_1 : decode xb_De_peek 1 = .ok (.getfield 10, 3) := by decide +kernel
theorem xd_De_peek_4 : decode xb_De_peek 4 = .ok (.invokevirtual 158, 3) := by decide +kernel
theorem xd_De_peek_7 : decode xb_De_peek 7 = .ok (.istore 5, 2) := by decide +kernel
theorem xd_De_peek_9 : decode xb_De_peek 9 = .ok (.aload_n 0, 1) := by decide +kernel
theorem xd_De_peek_10 : decode xb_De_peek 10 = .ok (.iload_n 1, 1) := by decide +kernel
theorem xd_De_peek_11 : decode xb_De_peek 11 = .ok (.iload_n 2, 1) := by decide +kernel
theorem xd_De_peek_12 : decode xb_De_peek 12 = .ok (.invokevirtual 132, 3) := by decide +kernel
theorem xd_De_peek_15 : decode xb_De_peek 15 = .ok (.astore 6, 2) := by decide +kernel
theorem xd_De_peek_17 : decode xb_De_peek 17 = .ok (.aload_n 0, 1) := by decide +kernel
theorem xd_De_peek_18 : decode xb_De_peek 18 = .ok (.iload_n 3, 1) := by decide +kernel
theorem xd_De_peek_19 : decode xb_De_peek 19 = .ok (.iload 4, 2) := by decide +kernel
theorem xd_De_peek_21 : decode xb_De_peek 21 = .ok (.invokevirtual 145, 3) := by decide +kernel
theorem xd_De_peek_24 : decode xb_De_peek 24 = .ok (.astore 7, 2) := by decide +kernel
theorem xd_De_peek_26 : decode xb_De_peek 26 = .ok (.aload 6, 2) := by decide +kernel
theorem xd_De_peek_28 : decode xb_De_peek 28 = .ok (.ifnull 13, 3) := by decide +kernel
theorem xd_De_peek_31 : decode xb_De_peek 31 = .ok (.aload 7, 2) := by decide +kernel
theorem xd_De_peek_33 : decode xb_De_peek 33 = .ok (.ifnull 8, 3) := by decide +kernel
theorem xd_De_peek_36 : decode xb_De_peek 36 = .ok (.iload 5, 2) := by decide +kernel
theorem xd_De_peek_38 : decode xb_De_peek 38 = .ok (.ifCond .ne 13, 3) := by decide +kernel
theorem xd_De_peek_41 : decode xb_De_peek 41 = .ok (.new 56, 3) := by decide +kernel
theorem xd_De_peek_44 : decode xb_De_peek 44 = .ok (.dup, 1) := by decide +kernel
theorem xd_De_peek_45 : decode xb_De_peek 45 = .ok (.ldc 161, 2) := by decide +kernel
theorem xd_De_peek_47 : decode xb_De_peek 47 = .ok (.invokespecial 60, 3) := by decide +kernel
theorem xd_De_peek_50 : decode xb_De_peek 50 = .ok (.athrow, 1) := by decide +kernel
theorem xd_De_peek_51 : decode xb_De_peek 51 = .ok (.aload 7, 2) := by decide +kernel
theorem xd_De_peek_53 : decode xb_De_peek 53 = .ok (.getfield 136, 3) := by decide +kernel
theorem xd_De_peek_56 : decode xb_De_peek 56 = .ok (.getfield 163, 3) := by decide +kernel
theorem xd_De_peek_59 : decode xb_De_peek 59 = .ok (.iload 5, 2) := by decide +kernel
theorem xd_De_peek_61 : decode xb_De_peek 61 = .ok (.invokevirtual 167, 3) := by decide +kernel
theorem xd_De_peek_64 : decode xb_De_peek 64 = .ok (.ifCond .ne 13, 3) := by decide +kernel
theorem xd_De_peek_67 : decode xb_De_peek 67 = .ok (.new 89, 3) := by decide +kernel
theorem xd_De_peek_70 : decode xb_De_peek 70 = .ok (.dup, 1) := by decide +kernel
theorem xd_De_peek_71 : decode xb_De_peek 71 = .ok (.ldc 181, 2) := by decide +kernel
theorem xd_De_peek_73 : decode xb_De_peek 73 = .ok (.invokespecial 93, 3) := by decide +kernel
theorem xd_De_peek_76 : decode xb_De_peek 76 = .ok (.athrow, 1) := by decide +kernel
theorem xd_De_peek_77 : decode xb_De_peek 77 = .ok (.aload 6, 2) := by decide +kernel
theorem xd_De_peek_79 : decode xb_De_peek 79 = .ok (.aload 7, 2) := by decide +kernel
theorem xd_De_peek_81 : decode xb_De_peek 81 = .ok (.if_acmp .eq 37, 3) := by decide +kernel
theorem xd_De_peek_84 : decode xb_De_peek 84 = .ok (.aload 6, 2) := by decide +kernel
theorem xd_De_peek_86 : decode xb_De_peek 86 = .ok (.getfield 148, 3) := by decide +kernel
theorem xd_De_peek_89 : decode xb_De_peek 89 = .ok (.aload 7, 2) := by decide +kernel
theorem xd_De_peek_91 : decode xb_De_peek 91 = .ok (.invokevirtual 152, 3) := by decide +kernel
theorem xd_De_peek_94 : decode xb_De_peek 94 = .ok (.ifCond .eq 28, 3) := by decide +kernel
theorem xd_De_peek_97 : decode xb_De_peek 97 = .ok (.aload 7, 2) := by decide +kernel
theorem xd_De_peek_99 : decode xb_De_peek 99 = .ok (.getfield 136, 3) := by decide +kernel
theorem xd_De_peek_102 : decode xb_De_peek 102 = .ok (.iload 5, 2) := by decide +kernel
theorem xd_De_peek_104 : decode xb_De_peek 104 = .ok (.aload 6, 2) := by decide +kernel
theorem xd_De_peek_106 : decode xb_De_peek 106 = .ok (.getfield 136, 3) := by decide +kernel
theorem xd_De_peek_109 : decode xb_De_peek 109 = .ok (.getfield 183, 3) := by decide +kernel
theorem xd_De_peek_112 : decode xb_De_peek 112 = .ok (.invokevirtual 186, 3) := by decide +kernel
theorem xd_De_peek_115 : decode xb_De_peek 115 = .ok (.ifCond .eq 7, 3) := by decide +kernel
theorem xd_De_peek_118 : decode xb_De_peek 118 = .ok (.iconst 1, 1) := by decide +kernel
theorem xd_De_peek_119 : decode xb_De_peek 119 = .ok (.goto 4, 3) := by decide +kernel
theorem xd_De_peek_122 : decode xb_De_peek 122 = .ok (.iconst 0, 1) := by decide +kernel
theorem xd_De_peek_123 : decode xb_De_peek 123 = .ok (.ireturn, 1) := by decide +kernel
theorem xd_De_provider_0 : decode xb_De_provider 0 = .ok (.aload_n 0, 1) := by decide +kernel
theorem xd_De_provider_1 : decode xb_De_provider 1 = .ok (.getfield 10, 3) := by decide +kernel
theorem xd_De_provider_4 : decode xb_De_provider 4 = .ok (.invokevirtual 158, 3) := by decide +kernel
theorem xd_De_provider_7 : decode xb_De_provider 7 = .ok (.istore_n 3, 1) := by decide +kernel
theorem xd_De_provider_8 : decode xb_De_provider 8 = .ok (.aload_n 0, 1) := by decide +kernel
theorem xd_De_provider_9 : decode xb_De_provider 9 = .ok (.iload_n 1, 1) := by decide +kernel
theorem xd_De_provider_10 : decode xb_De_provider 10 = .ok (.invokevirtual 68, 3) := by decide +kernel
theorem xd_De_provider_13 : decode xb_De_provider 13 = .ok (.astore 4, 2) := by decide +kernel
theorem xd_De_provider_15 : decode xb_De_provider 15 = .ok (.aload 4, 2) := by decide +kernel
theorem xd_De_provider_17 : decode xb_De_provider 17 = .ok (.ifnull 7, 3) := by decide +kernel
theorem xd_De_provider_20 : decode xb_De_provider 20 = .ok (.iload_n 3, 1) := by decide +kernel
theorem xd_De_provider_21 : decode xb_De_provider 21 = .ok (.ifCond .ne 13, 3) := by decide +kernel
theorem xd_De_provider_24 : decode xb_De_provider 24 = .ok (.new 56, 3) := by decide +kernel
theorem xd_De_provider_27 : decode xb_De_provider 27 = .ok (.dup, 1) := by decide +kernel
theorem xd_De_provider_28 : decode xb_De_provider 28 = .ok (.ldc 190, 2) := by decide +kernel
theorem xd_De_provider_30 : decode xb_De_provider 30 = .ok (.invokespecial 60, 3) := by decide +kernel
theorem xd_De_provider_33 : decode xb_De_provider 33 = .ok (.athrow, 1) := by decide +kernel
theorem xd_De_provider_34 : decode xb_De_provider 34 = .ok (.aload 4, 2) := by decide +kernel
theorem xd_De_provider_36 : decode xb_De_provider 36 = .ok (.iload_n 3, 1) := by decide +kernel
theorem xd_De_provider_37 : decode xb_De_provider 37 = .ok (.iload_n 2, 1) := by decide +kernel
theorem xd_De_provider_38 : decode xb_De_provider 38 = .ok (.invokevirtual 192, 3) := by decide +kernel
theorem xd_De_provider_41 : decode xb_De_provider 41 = .ok (.astore 5, 2) := by decide +kernel
theorem xd_De_provider_43 : decode xb_De_provider 43 = .ok (.aload 5, 2) := by decide +kernel
theorem xd_De_provider_45 : decode xb_De_provider 45 = .ok (.ifnonnull 7, 3) := by decide +kernel
theorem xd_De_provider_48 : decode xb_De_provider 48 = .ok (.iconst (-1), 1) := by decide +kernel
theorem xd_De_provider_49 : decode xb_De_provider 49 = .ok (.goto 8, 3) := by decide +kernel
theorem xd_De_provider_52 : decode xb_De_provider 52 = .ok (.aload 5, 2) := by decide +kernel
theorem xd_De_provider_54 : decode xb_De_provider 54 = .ok (.invokevirtual 178, 3) := by decide +kernel
theorem xd_De_provider_57 : decode xb_De_provider 57 = .ok (.ireturn, 1) := by decide +kernel
def xR_La : String := "LayerDeskLaw"
theorem xp_P {D : va_G} {cl : List vw_C} {X Y : va_W} {H : Heap} (h : va_P D cl (X ++ Y) H) : va_P D cl Y H := fun k q hk => h (X.length + k) q (by rw [List.getElem?_append_right (by omega), Nat.add_sub_cancel_left]; exact hk)
theorem xp_D {A : Nat → Prop} {X Y : va_W} (h : va_D A (X ++ Y)) : va_D A Y := ⟨fun i j p q hi hj e => by
  have h1 := h.1 (X.length + i) (X.length + j) p q (by rw [List.getElem?_append_right (by omega), Nat.add_sub_cancel_left]; exact hi) (by rw [List.getElem?_append_right (by omega), Nat.add_sub_cancel_left]; exact hj) e
  omega, fun k q hk => h.2 (X.length + k) q (by rw [List.getElem?_append_right (by omega), Nat.add_sub_cancel_left]; exact hk)⟩
abbrev xb_La_line : ByteArray := method_3_code
def xy_La_line : MethodName := ⟨"LayerDeskLaw", "line", "(LLayerDesk;[J)I"⟩
abbrev xb_La_layer : ByteArray := method_4_code
def xy_La_layer : MethodName := ⟨"LayerDeskLaw", "layer", "(LLayerDesk;IIZ[J)I"⟩
abbrev xb_La_load : ByteArray := method_5_code
def xy_La_load : MethodName := ⟨"LayerDeskLaw", "load", "(LLayerDesk;II[J)I"⟩
abbrev xb_La_peek : ByteArray := method_6_code
def xy_La_peek : MethodName := ⟨"LayerDeskLaw", "peek", "(LLayerDesk;IIII[J)I"⟩
abbrev xb_La_provider : ByteArray := method_7_code
def xy_La_provider : MethodName := ⟨"LayerDeskLaw", "provider", "(LLayerDesk;II[J)I"⟩
theorem xd_La_layer_0 : decode xb_La_layer 0 = .ok (.aload 4, 2) := by decide +kernel
theorem xd_La_layer_2 : decode xb_La_layer 2 = .ok (.iconst 0, 1) := by decide +kernel
theorem xd_La_layer_3 : decode xb_La_layer 3 = .ok (.aload_n 0, 1) := by decide +kernel
theorem xd_La_layer_4 : decode xb_La_layer 4 = .ok (.iload_n 1, 1) := by decide +kernel
theorem xd_La_layer_5 : decode xb_La_layer 5 = .ok (.iload_n 2, 1) := by decide +kernel
theorem xd_La_layer_6 : decode xb_La_layer 6 = .ok (.iload_n 3, 1) := by decide +kernel
theorem xd_La_layer_7 : decode xb_La_layer 7 = .ok (.invokevirtual 17, 3) := by decide +kernel
theorem xd_La_layer_10 : decode xb_La_layer 10 = .ok (.i2l, 1) := by decide +kernel
theorem xd_La_layer_11 : decode xb_La_layer 11 = .ok (.lastore, 1) := by decide +kernel
theorem xd_La_layer_12 : decode xb_La_layer 12 = .ok (.goto 15, 3) := by decide +kernel
theorem xd_La_layer_15 : decode xb_La_layer 15 = .ok (.astore 5, 2) := by decide +kernel
theorem xd_La_layer_17 : decode xb_La_layer 17 = .ok (.iconst 1, 1) := by decide +kernel
theorem xd_La_layer_18 : decode xb_La_layer 18 = .ok (.ireturn, 1) := by decide +kernel
theorem xd_La_layer_19 : decode xb_La_layer 19 = .ok (.astore 5, 2) := by decide +kernel
theorem xd_La_layer_21 : decode xb_La_layer 21 = .ok (.iconst 2, 1) := by decide +kernel
theorem xd_La_layer_22 : decode xb_La_layer 22 = .ok (.ireturn, 1) := by decide +kernel
theorem xd_La_layer_23 : decode xb_La_layer 23 = .ok (.astore 5, 2) := by decide +kernel
theorem xd_La_layer_25 : decode xb_La_layer 25 = .ok (.iconst 3, 1) := by decide +kernel
theorem xd_La_layer_26 : decode xb_La_layer 26 = .ok (.ireturn, 1) := by decide +kernel
theorem xd_La_layer_27 : decode xb_La_layer 27 = .ok (.iconst 0, 1) := by decide +kernel
theorem xd_La_layer_28 : decode xb_La_layer 28 = .ok (.ireturn, 1) := by decide +kernel
theorem xd_La_line_0 : decode xb_La_line 0 = .ok (.aload_n 1, 1) := by decide +kernel
theorem xd_La_line_1 : decode xb_La_line 1 = .ok (.iconst 0, 1) := by decide +kernel
theorem xd_La_line_2 : decode xb_La_line 2 = .ok (.aload_n 0, 1) := by decide +kernel
theorem xd_La_line_3 : decode xb_La_line 3 = .ok (.invokevirtual 7, 3) := by decide +kernel
theorem xd_La_line_6 : decode xb_La_line 6 = .ok (.i2l, 1) := by decide +kernel
theorem xd_La_line_7 : decode xb_La_line 7 = .ok (.lastore, 1) := by decide +kernel
theorem xd_La_line_8 : decode xb_La_line 8 = .ok (.goto 9, 3) := by decide +kernel
theorem xd_La_line_11 : decode xb_La_line 11 = .ok (.astore_n 2, 1) := by decide +kernel
theorem xd_La_line_12 : decode xb_La_line 12 = .ok (.iconst 1, 1) := by decide +kernel
theorem xd_La_line_13 : decode xb_La_line 13 = .ok (.ireturn, 1) := by decide +kernel
theorem xd_La_line_14 : decode xb_La_line 14 = .ok (.astore_n 2, 1) := by decide +kernel
theorem xd_La_line_15 : decode xb_La_line 15 = .ok (.iconst 2, 1) := by decide +kernel
theorem xd_La_line_16 : decode xb_La_line 16 = .ok (.ireturn, 1) := by decide +kernel
theorem xd_La_line_17 : decode xb_La_line 17 = .ok (.iconst 0, 1) := by decide +kernel
theorem xd_La_line_18 : decode xb_La_line 18 = .ok (.ireturn, 1) := by decide +kernel
theorem xd_La_load_0 : decode xb_La_load 0 = .ok (.aload_n 3, 1) := by decide +kernel
theorem xd_La_load_1 : decode xb_La_load 1 = .ok (.iconst 0, 1) := by decide +kernel
theorem xd_La_load_2 : decode xb_La_load 2 = .ok (.aload_n 0, 1) := by decide +kernel
theorem xd_La_load_3 : decode xb_La_load 3 = .ok (.iload_n 1, 1) := by decide +kernel
theorem xd_La_load_4 : decode xb_La_load 4 = .ok (.iload_n 2, 1) := by decide +kernel
theorem xd_La_load_5 : decode xb_La_load 5 = .ok (.invokevirtual 23, 3) := by decide +kernel
theorem xd_La_load_8 : decode xb_La_load 8 = .ok (.i2l, 1) := by decide +kernel
theorem xd_La_load_9 : decode xb_La_load 9 = .ok (.lastore, 1) := by decide +kernel
theorem xd_La_load_10 : decode xb_La_load 10 = .ok (.goto 11, 3) := by decide +kernel
theorem xd_La_load_13 : decode xb_La_load 13 = .ok (.astore 4, 2) := by decide +kernel
theorem xd_La_load_15 : decode xb_La_load 15 = .ok (.iconst 1, 1) := by decide +kernel
theorem xd_La_load_16 : decode xb_La_load 16 = .ok (.ireturn, 1) := by decide +kernel
theorem xd_La_load_17 : decode xb_La_load 17 = .ok (.astore 4, 2) := by decide +kernel
theorem xd_La_load_19 : decode xb_La_load 19 = .ok (.iconst 2, 1) := by decide +kernel
theorem xd_La_load_20 : decode xb_La_load 20 = .ok (.ireturn, 1) := by decide +kernel
theorem xd_La_load_21 : decode xb_La_load 21 = .ok (.iconst 0, 1) := by decide +kernel
theorem xd_La_load_22 : decode xb_La_load 22 = .ok (.ireturn, 1) := by decide +kernel
theorem xd_La_peek_0 : decode xb_La_peek 0 = .ok (.aload 5, 2) := by decide +kernel
theorem xd_La_peek_2 : decode xb_La_peek 2 = .ok (.iconst 0, 1) := by decide +kernel
theorem xd_La_peek_3 : decode xb_La_peek 3 = .ok (.aload_n 0, 1) := by decide +kernel
theorem xd_La_peek_4 : decode xb_La_peek 4 = .ok (.iload_n 1, 1) := by decide +kernel
theorem xd_La_peek_5 : decode xb_La_peek 5 = .ok (.iload_n 2, 1) := by decide +kernel
theorem xd_La_peek_6 : decode xb_La_peek 6 = .ok (.iload_n 3, 1) := by decide +kernel
theorem xd_La_peek_7 : decode xb_La_peek 7 = .ok (.iload 4, 2) := by decide +kernel
theorem xd_La_peek_9 : decode xb_La_peek 9 = .ok (.invokevirtual 27, 3) := by decide +kernel
theorem xd_La_peek_12 : decode xb_La_peek 12 = .ok (.ifCond .eq 7, 3) := by decide +kernel
theorem xd_La_peek_15 : decode xb_La_peek 15 = .ok (.lconst 1, 1) := by decide +kernel
theorem xd_La_peek_16 : decode xb_La_peek 16 = .ok (.goto 4, 3) := by decide +kernel
theorem xd_La_peek_19 : decode xb_La_peek 19 = .ok (.lconst 0, 1) := by decide +kernel
theorem xd_La_peek_20 : decode xb_La_peek 20 = .ok (.lastore, 1) := by decide +kernel
theorem xd_La_peek_21 : decode xb_La_peek 21 = .ok (.goto 11, 3) := by decide +kernel
theorem xd_La_peek_24 : decode xb_La_peek 24 = .ok (.astore 6, 2) := by decide +kernel
theorem xd_La_peek_26 : decode xb_La_peek 26 = .ok (.iconst 1, 1) := by decide +kernel
theorem xd_La_peek_27 : decode xb_La_peek 27 = .ok (.ireturn, 1) := by decide +kernel
theorem xd_La_peek_28 : decode xb_La_peek 28 = .ok (.astore 6, 2) := by decide +kernel
theorem xd_La_peek_30 : decode xb_La_peek 30 = .ok (.iconst 2, 1) := by decide +kernel
theorem xd_La_peek_31 : decode xb_La_peek 31 = .ok (.ireturn, 1) := by decide +kernel
theorem xd_La_peek_32 : decode xb_La_peek 32 = .ok (.iconst 0, 1) := by decide +kernel
theorem xd_La_peek_33 : decode xb_La_peek 33 = .ok (.ireturn, 1) := by decide +kernel
theorem xd_La_provider_0 : decode xb_La_provider 0 = .ok (.aload_n 3, 1) := by decide +kernel
theorem xd_La_provider_1 : decode xb_La_provider 1 = .ok (.iconst 0, 1) := by decide +kernel
theorem xd_La_provider_2 : decode xb_La_provider 2 = .ok (.aload_n 0, 1) := by decide +kernel
theorem xd_La_provider_3 : decode xb_La_provider 3 = .ok (.iload_n 1, 1) := by decide +kernel
theorem xd_La_provider_4 : decode xb_La_provider 4 = .ok (.iload_n 2, 1) := by decide +kernel
theorem xd_La_provider_5 : decode xb_La_provider 5 = .ok (.invokevirtual 31, 3) := by decide +kernel
theorem xd_La_provider_8 : decode xb_La_provider 8 = .ok (.i2l, 1) := by decide +kernel
theorem xd_La_provider_9 : decode xb_La_provider 9 = .ok (.lastore, 1) := by decide +kernel
theorem xd_La_provider_10 : decode xb_La_provider 10 = .ok (.goto 7, 3) := by decide +kernel
theorem xd_La_provider_13 : decode xb_La_provider 13 = .ok (.astore 4, 2) := by decide +kernel
theorem xd_La_provider_15 : decode xb_La_provider 15 = .ok (.iconst 1, 1) := by decide +kernel
theorem xd_La_provider_16 : decode xb_La_provider 16 = .ok (.ireturn, 1) := by decide +kernel
theorem xd_La_provider_17 : decode xb_La_provider 17 = .ok (.iconst 0, 1) := by decide +kernel
theorem xd_La_provider_18 : decode xb_La_provider 18 = .ok (.ireturn, 1) := by decide +kernel
theorem xp_PL {D : va_G} {cl : List vw_C} {X Y : va_W} {H : Heap} (h : va_P D cl (X ++ Y) H) : va_P D cl X H := fun k q hk => h k q (by rw [List.getElem?_append_left (List.getElem?_eq_some_iff.mp hk).1]; exact hk)
theorem xp_DL {A : Nat → Prop} {X Y : va_W} (h : va_D A (X ++ Y)) : va_D A X := ⟨fun i j p q hi hj e => h.1 i j p q (by rw [List.getElem?_append_left (List.getElem?_eq_some_iff.mp hi).1]; exact hi) (by rw [List.getElem?_append_left (List.getElem?_eq_some_iff.mp hj).1]; exact hj) e, fun k q hk => h.2 k q (by rw [List.getElem?_append_left (List.getElem?_eq_some_iff.mp hk).1]; exact hk)⟩
theorem xp_swP {D : va_G} {cl : List vw_C} {X Y V : va_W} {H : Heap} (h : va_P D cl ((X ++ Y) ++ V) H) : va_P D cl ((Y ++ X) ++ V) H := fun k q hk => by
  have hm : q ∈ (X ++ Y) ++ V := by
    have h1 := List.mem_of_getElem? hk
    simp only [List.mem_append] at h1 ⊢
    rcases h1 with (h1 | h1) | h1
    · exact Or.inl (Or.inr h1)
    · exact Or.inl (Or.inl h1)
    · exact Or.inr h1
  obtain ⟨j, hj⟩ := List.getElem?_of_mem hm
  exact h j q hj
theorem xd_pw {A : Nat → Prop} {ws : va_W} : va_D A ws ↔ (List.Pairwise (fun x y : Nat × va_E => x.1 ≠ y.1) ws ∧ ∀ q ∈ ws, A q.1) := by
  constructor
  · intro h
    refine ⟨List.pairwise_iff_getElem.mpr fun i j hi hj hij e => ?_, fun q hq => ?_⟩
    · have := h.1 i j _ _ (List.getElem?_eq_getElem hi) (List.getElem?_eq_getElem hj) e
      omega
    · obtain ⟨k, hk⟩ := List.getElem?_of_mem hq
      exact h.2 k _ hk
  · intro ⟨h1, h2⟩
    refine ⟨fun i j p q hi hj e => ?_, fun k q hk => h2 q (List.mem_of_getElem? hk)⟩
    obtain ⟨hi1, hi2⟩ := List.getElem?_eq_some_iff.mp hi
    obtain ⟨hj1, hj2⟩ := List.getElem?_eq_some_iff.mp hj
    have hp := List.pairwise_iff_getElem.mp h1
    rcases Nat.lt_trichotomy i j with h | h | h
    · exact absurd (by rw [hi2, hj2]; exact e) (hp i j hi1 hj1 h)
    · exact h
    · exact absurd (by rw [hi2, hj2]; exact e.symm) (hp j i hj1 hi1 h)
theorem xp_swD {A : Nat → Prop} {X Y V : va_W} (h : va_D A ((X ++ Y) ++ V)) : va_D A ((Y ++ X) ++ V) := by
  obtain ⟨h1, h2⟩ := xd_pw.mp h
  have hp : ((Y ++ X) ++ V).Perm ((X ++ Y) ++ V) := List.Perm.append_right _ List.perm_append_comm
  exact xd_pw.mpr ⟨(List.Perm.pairwise_iff (fun h => h.symm) hp).mpr h1, fun q hq => h2 q (hp.mem_iff.mp hq)⟩
theorem x_gt {L i : Nat} (hL : L ≤ 2560) (hi : i ≤ 3000) (h : ¬ (nI i > nI L - 5)) : i + 5 ≤ L := by
  by_cases h5 : 5 ≤ L
  · have e : nI L - 5 = nI (L - 5) := pk_sub (a := L) (b := 5) (by omega)
    rw [e] at h
    rcases Nat.lt_or_ge (L - 5) i with q | q
    · exact absurd (nI_lt (a := L - 5) (b := i) q (by rw [xb_31]; omega)) h
    · omega
  · exfalso
    have hz : nI L - 5 < 0 := by
      have h9 : L = 0 ∨ L = 1 ∨ L = 2 ∨ L = 3 ∨ L = 4 := by omega
      rcases h9 with rfl | rfl | rfl | rfl | rfl <;> decide
    exact h (Int32.lt_of_lt_of_le hz (Int32.not_lt.mp (nI_pos (by rw [xb_31]; omega))))
theorem MI0 : MI (fun _ => 0) (fun _ _ => 0) := by
  refine ⟨⟨0, by omega, rfl⟩, ⟨0, by omega, rfl, fun la h => absurd h (by omega)⟩, fun i _ => rfl, fun d _ => ⟨0, by omega, rfl⟩, fun d _ => ⟨0, by omega, rfl⟩, fun la _ => ⟨0, by omega, rfl, fun j h => absurd h (by omega)⟩, fun nd h hn i j hi _ _ _ => ?_⟩
  have h0 : nd = 0 := by
    have h9 : nd = 0 ∨ nd = 1 ∨ nd = 2 ∨ nd = 3 ∨ nd = 4 ∨ nd = 5 ∨ nd = 6 ∨ nd = 7 ∨ nd = 8 ∨ nd = 9 ∨ nd = 10 ∨ nd = 11 ∨ nd = 12 := by omega
    rcases h9 with rfl | rfl | rfl | rfl | rfl | rfl | rfl | rfl | rfl | rfl | rfl | rfl | rfl
    · rfl
    all_goals exact absurd h (by decide)
  omega
noncomputable def cif {α : Type} (C : Prop) (a b : α) : α := @ite α C (Classical.propDecidable C) a b
theorem cif_pos {α : Type} {C : Prop} {a b : α} (h : C) : cif C a b = a := @if_pos C (Classical.propDecidable C) h α a b
theorem cif_neg {α : Type} {C : Prop} {a b : α} (h : ¬ C) : cif C a b = b := @if_neg C (Classical.propDecidable C) h α a b
def iN (x : Int32) : Nat := x.toNatClampNeg
theorem iN_nI {n : Nat} (h : n < 2147483648) : iN (nI n) = n := nI_clamp (by rw [xb_31]; exact h)
noncomputable def nV (t : Nat → Int32) (b e : Nat) : Int32 := cif (e - b ≤ 4 ∧ n_small t b (e - b)) (n_fold t b (e - b) 0) 0
theorem ch_nat {x : Int32} (h1 : ¬ x < 97) (h2 : ¬ 122 < x) : ∃ c : Nat, 97 ≤ c ∧ c ≤ 122 ∧ x = nI c := by
  have h0 : ¬ x < 0 := fun q => h1 (Int32.lt_trans q (by decide))
  obtain ⟨j, hj, rfl⟩ := nI_of h0
  have e1 : (97 : Int32) = nI 97 := rfl
  have e2 : (122 : Int32) = nI 122 := rfl
  rw [e1, nI_ltI hj (by decide)] at h1
  rw [e2, nI_ltI (by decide) hj] at h2
  exact ⟨j, by omega, by omega, rfl⟩
theorem n_fold_nat {t : Nat → Int32} : ∀ (m b a : Nat), n_small t b m → ∃ k, n_fold t b m (nI a) = nI k ∧ a + m ≤ k ∧ k < (a + 1) * 27 ^ m
  | 0, _, a, _ => ⟨a, rfl, by omega, by omega⟩
  | m + 1, b, a, h => by
    obtain ⟨c, hc1, hc2, hc⟩ := ch_nat h.1.1 h.1.2
    have e : nI a * 27 + (t b - 97 + 1) = nI (a * 27 + (c - 96)) := by
      rw [hc, show (27 : Int32) = nI 27 from rfl, pk_mul, show (97 : Int32) = nI 97 from rfl, pk_sub (by omega), show (1 : Int32) = nI 1 from rfl, nI_add, nI_add]
      rw [show c - 97 + 1 = c - 96 by omega]
    obtain ⟨k, hk, h1, h2⟩ := n_fold_nat m (b + 1) (a * 27 + (c - 96)) h.2
    refine ⟨k, ?_, by omega, ?_⟩
    · show n_fold t (b + 1) m (nI a * 27 + (t b - 97 + 1)) = nI k
      rw [e]; exact hk
    · have h3 : (a * 27 + (c - 96) + 1) * 27 ^ m ≤ ((a + 1) * 27) * 27 ^ m := Nat.mul_le_mul_right _ (by omega)
      rw [Nat.pow_succ, Nat.mul_comm (27 ^ m) 27, ← Nat.mul_assoc]
      omega
theorem nV_nat (t : Nat → Int32) (b e : Nat) : ∃ k, k < 531441 ∧ nV t b e = nI k := by
  unfold nV
  by_cases h : e - b ≤ 4 ∧ n_small t b (e - b)
  · rw [cif_pos h]
    obtain ⟨k, hk, _, h2⟩ := n_fold_nat (e - b) b 0 h.2
    have h3 : 27 ^ (e - b) ≤ 27 ^ 4 := Nat.pow_le_pow_right (by decide) h.1
    have h4 : (27 : Nat) ^ 4 = 531441 := by decide
    exact ⟨k, by omega, hk⟩
  · rw [cif_neg h]; exact ⟨0, by decide, rfl⟩
theorem nV_ok {t : Nat → Int32} {b e : Nat} (h1 : e - b ≤ 4) (h2 : n_small t b (e - b)) {r : Int32} (h : r = n_fold t b (e - b) 0) : r = nV t b e := by
  unfold nV; rw [cif_pos ⟨h1, h2⟩]; exact h
theorem nV_no {t : Nat → Int32} {b e : Nat} (h : ¬ (e - b ≤ 4 ∧ n_small t b (e - b))) : (0 : Int32) = nV t b e := by
  unfold nV; rw [cif_neg h]
theorem nV_pos {t : Nat → Int32} {b e : Nat} : ¬ nV t b e = 0 ↔ 0 < nV t b e := by
  obtain ⟨k, hk, h⟩ := nV_nat t b e
  rw [h, show (0 : Int32) = nI 0 from rfl, nI_eq (by rw [xb_31]; omega) (by decide), nI_ltI (by decide) (by rw [xb_31]; omega)]
  omega
theorem n_small_at {t : Nat → Int32} : ∀ {m b p : Nat}, n_small t b m → p < m → ¬ t (b + p) < 97 ∧ ¬ 122 < t (b + p)
  | 0, _, _, _, h => absurd h (Nat.not_lt_zero _)
  | m + 1, b, 0, h, _ => h.1
  | m + 1, b, p + 1, h, hp => by
    have := n_small_at (m := m) (b := b + 1) (p := p) h.2 (by omega)
    rw [show b + (p + 1) = b + 1 + p by omega]; exact this
theorem n_small_of {t : Nat → Int32} : ∀ {m b : Nat}, (∀ p, p < m → ¬ t (b + p) < 97 ∧ ¬ 122 < t (b + p)) → n_small t b m
  | 0, _, _ => trivial
  | m + 1, b, h => ⟨h 0 (by omega), n_small_of (m := m) (b := b + 1) fun p hp => by
      have := h (p + 1) (by omega)
      rw [show b + (p + 1) = b + 1 + p by omega] at this; exact this⟩
def vN (x : Nat → Nat) : Nat → Nat
  | 0 => 0
  | n + 1 => 32 * vN x n + x n
theorem vN_inj {x y : Nat → Nat} : ∀ {n m : Nat}, (∀ i, i < n → 1 ≤ x i ∧ x i ≤ 31) → (∀ i, i < m → 1 ≤ y i ∧ y i ≤ 31) → vN x n = vN y m → n = m ∧ ∀ i, i < n → x i = y i
  | 0, 0, _, _, _ => ⟨rfl, fun i hi => absurd hi (Nat.not_lt_zero i)⟩
  | 0, m + 1, _, hy, h => by
    have h1 := hy m (by omega)
    simp only [vN] at h
    omega
  | n + 1, 0, hx, _, h => by
    have h1 := hx n (by omega)
    simp only [vN] at h
    omega
  | n + 1, m + 1, hx, hy, h => by
    have h1 := hx n (by omega)
    have h2 := hy m (by omega)
    simp only [vN] at h
    have h3 : vN x n = vN y m := by omega
    have h4 : x n = y m := by omega
    obtain ⟨h5, h6⟩ := vN_inj (n := n) (m := m) (fun i hi => hx i (by omega)) (fun i hi => hy i (by omega)) h3
    subst h5
    exact ⟨rfl, fun i hi => by
      rcases Nat.lt_or_ge i n with q | q
      · exact h6 i q
      · rw [show i = n by omega]; exact h4⟩
theorem vN_lt {x : Nat → Nat} : ∀ {n : Nat}, (∀ i, i < n → x i ≤ 31) → vN x n < 32 ^ n
  | 0, _ => (by decide : (0 : Nat) < 1)
  | n + 1, h => by
    have h1 := h n (by omega)
    have h2 := vN_lt (n := n) (fun i hi => h i (by omega))
    simp only [vN, Nat.pow_succ]
    omega
theorem vN_congr {x y : Nat → Nat} : ∀ {n : Nat}, (∀ i, i < n → x i = y i) → vN x n = vN y n
  | 0, _ => rfl
  | n + 1, h => by
    simp only [vN]
    rw [vN_congr (n := n) (fun i hi => h i (by omega)), h n (by omega)]
def sL (t : Nat → Int32) (b e k : Nat) : Int32 := if b + k < e then t (b + k) else 0
def sC (t : Nat → Int32) (b e s : Nat) : Nat → Int32
  | 0 => 0
  | i + 1 => if sL t b e (s + i) = 0 then sC t b e s i else 32 * sC t b e s i + (sL t b e (s + i) &&& 31)
theorem sC_p {t : Nat → Int32} {b e s i : Nat} (h : sL t b e (s + i) = 0) : sC t b e s (i + 1) = sC t b e s i := if_pos h
theorem sC_n {t : Nat → Int32} {b e s i : Nat} (h : ¬ sL t b e (s + i) = 0) : sC t b e s (i + 1) = 32 * sC t b e s i + (sL t b e (s + i) &&& 31) := if_neg h
theorem sC_31 : ∀ c, c < 123 → 97 ≤ c → nI c &&& 31 = nI (c - 96) := by decide +kernel
theorem sC_val {t : Nat → Int32} {b e s : Nat} (hbe : b ≤ e) (hs : n_small t b (e - b)) : ∀ i, sC t b e s i = nI (vN (fun p => iN (t (b + (s + p))) - 96) (min i (e - b - s)))
  | 0 => by rw [Nat.zero_min]; rfl
  | i + 1 => by
    have ih := sC_val (s := s) hbe hs i
    by_cases h : b + (s + i) < e
    · obtain ⟨c, h1, h2, h3⟩ := ch_nat (n_small_at hs (p := s + i) (by omega)).1 (n_small_at hs (p := s + i) (by omega)).2
      have e1 : sL t b e (s + i) = nI c := by unfold sL; rw [if_pos h]; exact h3
      have n0 : ¬ nI c = 0 := fun q => by
        have := (nI_eq (a := c) (b := 0) (by rw [xb_31]; omega) (by decide)).mp q
        omega
      rw [sC_n (by rw [e1]; exact n0), ih, e1, sC_31 c (by omega) h1, show min i (e - b - s) = i by omega, show min (i + 1) (e - b - s) = i + 1 by omega]
      rw [show (32 : Int32) = nI 32 from rfl, pk_mul, nI_add]
      simp only [vN, h3, iN_nI (show c < 2147483648 by omega)]
    · rw [sC_p (by unfold sL; rw [if_neg h]), ih, show min i (e - b - s) = min (i + 1) (e - b - s) by omega]
def sQ (t : Nat → Int32) (b e : Nat) (a c : Int32) : Prop := (e - b ≤ 10 ∧ n_small t b (e - b)) ∧ sC t b e 0 5 = a ∧ sC t b e 5 5 = c
def wE (t : Nat → Int32) (b e : Nat) (s : List Nat) : Prop := e - b = s.length ∧ ∀ p, p < s.length → t (b + p) = nI (s.getD p 0)
theorem sQ_w {t : Nat → Int32} {b e n : Nat} {y : Nat → Nat} {a c : Int32} (hbe : b ≤ e) (hn : n ≤ 10) (hy : ∀ i, i < n → 97 ≤ y i ∧ y i ≤ 122) (ha : a = nI (vN (fun p => y p - 96) (min 5 n))) (hc : c = nI (vN (fun p => y (5 + p) - 96) (n - 5))) : sQ t b e a c ↔ (e - b = n ∧ ∀ p, p < n → t (b + p) = nI (y p)) := by
  have hb5 : ∀ (x : Nat → Nat) (k : Nat), k ≤ 5 → (∀ i, i < k → x i ≤ 31) → vN x k < 2 ^ 31 := fun x k hk hx => by
    have h1 := vN_lt hx
    have h2 : (32 : Nat) ^ k ≤ 32 ^ 5 := Nat.pow_le_pow_right (by decide) hk
    have h3 : (32 : Nat) ^ 5 = 33554432 := by decide
    rw [xb_31]; omega
  constructor
  · intro ⟨⟨h10, hs⟩, h1, h2⟩
    have hd : ∀ p, p < e - b → ∃ c9, 97 ≤ c9 ∧ c9 ≤ 122 ∧ t (b + p) = nI c9 := fun p hp => ch_nat (n_small_at hs hp).1 (n_small_at hs hp).2
    have hd2 : ∀ p, p < e - b → 97 ≤ iN (t (b + p)) ∧ iN (t (b + p)) ≤ 122 := fun p hp => by
      obtain ⟨c9, q1, q2, q3⟩ := hd p hp
      rw [q3, iN_nI (by omega)]; exact ⟨q1, q2⟩
    rw [sC_val hbe hs, ha] at h1
    rw [sC_val hbe hs, hc] at h2
    have k1 := vN_inj (fun i hi => by have := hd2 (0 + i) (by omega); omega) (fun i hi => by have := hy i (by omega); omega) ((nI_eq (hb5 _ _ (by omega) (fun i hi => by have := hd2 (0 + i) (by omega); omega)) (hb5 _ _ (by omega) (fun i hi => by have := hy i (by omega); omega))).mp h1)
    have k2 := vN_inj (fun i hi => by have := hd2 (5 + i) (by omega); omega) (fun i hi => by have := hy (5 + i) (by omega); omega) ((nI_eq (hb5 _ _ (by omega) (fun i hi => by have := hd2 (5 + i) (by omega); omega)) (hb5 _ _ (by omega) (fun i hi => by have := hy (5 + i) (by omega); omega))).mp h2)
    have hl : e - b = n := by omega
    refine ⟨hl, fun p hp => ?_⟩
    obtain ⟨c9, q1, q2, q3⟩ := hd p (by omega)
    have hyp := hy p hp
    rcases Nat.lt_or_ge p 5 with h5 | h5
    · have q := k1.2 p (by omega)
      simp only [Nat.zero_add, q3, iN_nI (show c9 < 2147483648 by omega)] at q
      rw [q3, show c9 = y p by omega]
    · have q := k2.2 (p - 5) (by omega)
      simp only [show 5 + (p - 5) = p by omega, q3, iN_nI (show c9 < 2147483648 by omega)] at q
      rw [q3, show c9 = y p by omega]
  · intro ⟨hl, hp⟩
    have hs : n_small t b (e - b) := n_small_of fun p hp9 => by
      rw [hp p (by omega)]
      have := hy p (by omega)
      rw [show (97 : Int32) = nI 97 from rfl, show (122 : Int32) = nI 122 from rfl, nI_ltI (by rw [xb_31]; omega) (by decide), nI_ltI (by decide) (by rw [xb_31]; omega)]
      omega
    refine ⟨⟨by omega, hs⟩, ?_, ?_⟩
    · rw [sC_val hbe hs, ha, show min 5 (e - b - 0) = min 5 n by omega]
      congr 1
      exact vN_congr fun i hi => by
        simp only [Nat.zero_add]
        rw [hp i (by omega), iN_nI (by have := hy i (by omega); omega)]
    · rw [sC_val hbe hs, hc, show min 5 (e - b - 5) = n - 5 by omega]
      congr 1
      exact vN_congr fun i hi => by
        show iN (t (b + (5 + i))) - 96 = y (5 + i) - 96
        rw [hp (5 + i) (by omega), iN_nI (by have := hy (5 + i) (by omega); omega)]
def cd1 (v x : Int32) : Int32 := if x = 0 then v else 32 * v + x - 96
def cdV (a b c d e : Int32) : Int32 := cd1 (cd1 (cd1 (cd1 (a - 96) b) c) d) e
theorem cd1_p {v x : Int32} (h : x = 0) : cd1 v x = v := if_pos h
theorem cd1_n {v x : Int32} (h : ¬ x = 0) : cd1 v x = 32 * v + x - 96 := if_neg h
theorem sQ_l {t : Nat → Int32} {b e : Nat} (s : List Nat) {a c : Int32} (hbe : b ≤ e) (hn : s.length ≤ 10) (hy : ∀ i, i < s.length → 97 ≤ s.getD i 0 ∧ s.getD i 0 ≤ 122) (ha : a = nI (vN (fun p => s.getD p 0 - 96) (min 5 s.length))) (hc : c = nI (vN (fun p => s.getD (5 + p) 0 - 96) (s.length - 5))) : sQ t b e a c ↔ wE t b e s := sQ_w hbe hn hy ha hc
def wb (wl : List (Nat × Nat)) (i : Nat) : Nat := (wl.getD i (0, 0)).1
def we (wl : List (Nat × Nat)) (i : Nat) : Nat := (wl.getD i (0, 0)).2
def wS (t : Nat → Int32) (wl : List (Nat × Nat)) (i : Nat) (s : List Nat) : Prop := i < wl.length ∧ wE t (wb wl i) (we wl i) s
noncomputable def wN (t : Nat → Int32) (wl : List (Nat × Nat)) (i : Nat) : Int32 := cif (i < wl.length) (nV t (wb wl i) (we wl i)) 0
theorem wN_in {t : Nat → Int32} {wl : List (Nat × Nat)} {i : Nat} (h : i < wl.length) : wN t wl i = nV t (wb wl i) (we wl i) := cif_pos h
theorem wN_out {t : Nat → Int32} {wl : List (Nat × Nat)} {i : Nat} (h : ¬ i < wl.length) : wN t wl i = 0 := cif_neg h
theorem wN_pos {t : Nat → Int32} {wl : List (Nat × Nat)} {i : Nat} : ¬ wN t wl i = 0 ↔ 0 < wN t wl i := by
  by_cases h : i < wl.length
  · rw [wN_in h]; exact nV_pos
  · rw [wN_out h]; exact ⟨fun q => absurd rfl q, fun q => absurd q (by decide)⟩
def WL (wl : List (Nat × Nat)) : Prop := wl.length ≤ 20 ∧ ∀ i, i < wl.length → wb wl i < we wl i ∧ we wl i ≤ 40
def WX (v : Nat → Int32) (g : Nat → Nat → Int32) (wl : List (Nat × Nat)) : Prop := v 3 = nI wl.length ∧ WL wl ∧ ∀ i, i < wl.length → g 1 i = nI (wb wl i) ∧ g 2 i = nI (we wl i)
theorem wb_app {wl : List (Nat × Nat)} {p : Nat × Nat} {i : Nat} (h : i < wl.length) : wb (wl ++ [p]) i = wb wl i := by
  unfold wb
  rw [List.getD_eq_getElem?_getD, List.getD_eq_getElem?_getD, List.getElem?_append_left h]
theorem we_app {wl : List (Nat × Nat)} {p : Nat × Nat} {i : Nat} (h : i < wl.length) : we (wl ++ [p]) i = we wl i := by
  unfold we
  rw [List.getD_eq_getElem?_getD, List.getD_eq_getElem?_getD, List.getElem?_append_left h]
theorem wb_new {wl : List (Nat × Nat)} {p : Nat × Nat} : wb (wl ++ [p]) wl.length = p.1 := by
  unfold wb
  rw [List.getD_eq_getElem?_getD, List.getElem?_append_right (Nat.le_refl _), Nat.sub_self]; rfl
theorem we_new {wl : List (Nat × Nat)} {p : Nat × Nat} : we (wl ++ [p]) wl.length = p.2 := by
  unfold we
  rw [List.getD_eq_getElem?_getD, List.getElem?_append_right (Nat.le_refl _), Nat.sub_self]; rfl
theorem WL_all (t : Nat → Int32) {n : Nat} (hn : n ≤ 40) : WL (w_all t n) := ⟨w_all_len t hn, fun i hi => by
  have h := w_all_ok t (n := n) ((w_all t n)[i]) (List.getElem_mem hi)
  have e : (w_all t n).getD i (0, 0) = (w_all t n)[i] := by rw [List.getD_eq_getElem?_getD, List.getElem?_eq_getElem hi]; rfl
  unfold wb we
  rw [e]; omega⟩
def fT (g : Nat → Nat → Int32) (f1 f2 : Nat → Int32) (wl : List (Nat × Nat)) : Prop := ∀ i, i < wl.length → f1 i = nI (wb wl i) ∧ f2 i = nI (we wl i)
theorem fT_nil {g : Nat → Nat → Int32} {f1 f2 : Nat → Int32} : fT g f1 f2 [] := fun i hi => absurd hi (Nat.not_lt_zero i)
theorem fT_add {g : Nat → Nat → Int32} {f1 f2 : Nat → Int32} {wl : List (Nat × Nat)} {b e : Nat} (h : fT g f1 f2 wl) : fT g (upd f1 wl.length (nI b)) (upd f2 wl.length (nI e)) (wl ++ [(b, e)]) := fun i hi => by
  rw [List.length_append] at hi
  simp only [List.length_cons, List.length_nil] at hi
  rcases Nat.lt_or_ge i wl.length with q | q
  · rw [pk_un (by omega), pk_un (by omega), wb_app q, we_app q]; exact h i q
  · have q2 : i = wl.length := by omega
    subst q2
    rw [pk_us, pk_us, wb_new, we_new]; exact ⟨rfl, rfl⟩
theorem k4a_0 : (Cond.fieldLink "LayerDeskModel" 13 "LayerDeskModel" "begin" "[I") ∈ wT := wT_t (List.mem_append_right _ (List.mem_append_right _ (List.mem_append_right _ (List.mem_append_left _ (List.mem_of_getElem? (i := 89) rfl))))) rfl
theorem k4a_1 : (Cond.fieldLink "LayerDeskModel" 17 "LayerDeskModel" "end" "[I") ∈ wT := wT_t (List.mem_append_right _ (List.mem_append_right _ (List.mem_append_right _ (List.mem_append_left _ (List.mem_of_getElem? (i := 90) rfl))))) rfl
theorem k4a_2 : (Cond.fieldLink "LayerDeskModel" 7 "LayerDeskModel" "text" "[C") ∈ wT := wT_t (List.mem_append_right _ (List.mem_append_right _ (List.mem_append_right _ (List.mem_append_left _ (List.mem_of_getElem? (i := 86) rfl))))) rfl
theorem k4a_3 : (Cond.code xy_Mo_letter xb_Mo_letter 3 (some .char)) ∈ wT := wT_t (List.mem_append_right _ (List.mem_append_right _ (List.mem_append_right _ (List.mem_append_left _ (List.mem_of_getElem? (i := 204) rfl))))) rfl
theorem k4a_4 : (Cond.methodLink "LayerDeskModel" 97 xy_Mo_letter) ∈ wT := wT_t (List.mem_append_right _ (List.mem_append_right _ (List.mem_append_right _ (List.mem_append_left _ (List.mem_of_getElem? (i := 201) rfl))))) rfl
theorem k4a_5 : (Cond.instanceMethod xy_Mo_letter) ∈ wT := wT_t (List.mem_append_right _ (List.mem_append_right _ (List.mem_append_right _ (List.mem_append_left _ (List.mem_of_getElem? (i := 203) rfl))))) rfl
theorem k4a_6 : (Cond.selects "LayerDeskModel" xy_Mo_letter xy_Mo_letter) ∈ wT := wT_s (q := (xy_Mo_letter, 31)) (by decide +kernel) rfl
theorem k4a_7 : (Cond.initialized "LayerDeskModel") ∈ wT := wT_t (List.mem_append_left _ (List.mem_of_getElem? (i := 5) rfl)) rfl
theorem k4a_8 : (Cond.fieldLink "LayerDeskModel" 94 "LayerDeskModel" "words" "I") ∈ wT := wT_t (List.mem_append_right _ (List.mem_append_right _ (List.mem_append_right _ (List.mem_append_left _ (List.mem_of_getElem? (i := 88) rfl))))) rfl
theorem k4a_9 : (Cond.fieldLink "LayerDeskModel" 91 "LayerDeskModel" "written" "I") ∈ wT := wT_t (List.mem_append_right _ (List.mem_append_right _ (List.mem_append_right _ (List.mem_append_left _ (List.mem_of_getElem? (i := 87) rfl))))) rfl
set_option maxHeartbeats 4000000 in
set_option maxRecDepth 100000 in
theorem xc_Mo_letterX (l : Launch) (D : va_G) (kA : Nat → ClassId) (sz h : Nat) (mm : Nat → Nat) (v : Nat → Int32) (g : Nat → Nat → Int32) (w : Nat) (b0 : Nat) (e0 : Nat) (k : Nat) (hw20 : w < 20) (hb0 : g 1 w = nI b0) (he0 : g 2 w = nI e0) (hbe : b0 ≤ e0) (he40 : e0 ≤ 40) (hch : ∀ i, i < 40 → narrow .char (.int (g 0 i)) = .int (g 0 i)) (hk40 : k ≤ 40) : Met l xy_Mo_letter (.code xy_Mo_letter xb_Mo_letter 3 (some .char) :: wT) { frames := 0, cells := 0, slots := 0, locals := 0 } (va_Pc [.ref h, .int (nI w), .int (nI k)] (xPre D kA sz (moW h mm kA v g))) (va_Qi (fun (r : Int32) (u : Unit) => r = sL (g 0) b0 e0 k) (fun (u : Unit) t => va_P D xcl (moW h mm kA v g) t.heap ∧ va_D (va_A (moW h mm kA v g) sz) (moW h mm kA v g)) (va_A (moW h mm kA v g) sz)) 0 0 (va_A (moW h mm kA v g) sz) := by
  refine Met.ofW (cc := xb_Mo_letter) (maxL := 3) (ret := (some .char)) (by decide) rfl ?_
  intro p e s m args below meth c s₁ B hml hv
  obtain ⟨rfl, hsz, hP, hK, hD0⟩ := hv
  have hx := B.exec
  have hb := B.bytes
  have hr := B.returns
  have hT := x_hT B.pre
  have hown : s.vm.findClass xR_Mo = some m.cls := findClass_of_methodNamed B.named
  have hlocks := B.notSynchronized
  subst hsz
  have hD := hD0.self (sz := s.heap.size)
  generalize hAe : va_A (moW h mm kA v g) s.heap.size = A at hD ⊢
  have hA : ∀ q : Nat, s.heap.size ≤ q → A q := fun q h => by rw [← hAe]; exact Or.inr h
  have hS : va_S A s.heap s.heap [] := va_S.rf
  have hl := lv_entry ([.ref h, .int (nI w), .int (nI k)]) (n := 3) (Nat.le_of_ble_eq_true rfl)
  rw [lg_entry_eq]
  generalize (lg_sl ([.ref h, .int (nI w), .int (nI k)]) ++ List.replicate (3 - (lg_sl ([.ref h, .int (nI w), .int (nI k)])).length) Slot.unset).toArray = ls at hl ⊢
  have hl : lv_has ls 3 [(0, .ref h), (1, .int (nI w)), (2, .int (nI k))] := hl
  have hP : va_P D xcl (moW h mm kA v g) s.heap := hP
  refine lv_aload_n hx hb xd_Mo_letter_0 rfl (lv_at hl 0 rfl) ?_
  refine va_get (D := D) (ci := 4) (v := .ref (mm 1)) (C := xR_Mo) (T := xT_Mo) (N := 31) hx hb hT xi_Mo hown hK.1 hP 0 rfl rfl 5 (by decide) (hT _ k4a_0) (fun _ h9 => h9) rfl xd_Mo_letter_1 ?_
  refine lv_iload_n hx hb xd_Mo_letter_4 rfl (lv_at hl 1 rfl) ?_
  refine xn_iald (i := w) hx hb hK.1 hP 2 0 rfl rfl (by omega) (by decide) xd_Mo_letter_5 ?_
  refine xn_top (x := (g 1 w)) (y := nI b0) hb0 ?_
  refine lv_iload_n hx hb xd_Mo_letter_6 rfl (lv_at hl 2 rfl) ?_
  refine lv_iadd hx hb xd_Mo_letter_7 ?_
  refine xn_top (y := nI (b0 + k)) (nI_add b0 k) ?_
  refine lv_aload_n hx hb xd_Mo_letter_8 rfl (lv_at hl 0 rfl) ?_
  refine va_get (D := D) (ci := 4) (v := .ref (mm 2)) (C := xR_Mo) (T := xT_Mo) (N := 31) hx hb hT xi_Mo hown hK.1 hP 0 rfl rfl 6 (by decide) (hT _ k4a_1) (fun _ h9 => h9) rfl xd_Mo_letter_9 ?_
  refine lv_iload_n hx hb xd_Mo_letter_12 rfl (lv_at hl 1 rfl) ?_
  refine xn_iald (i := w) hx hb hK.1 hP 3 0 rfl rfl (by omega) (by decide) xd_Mo_letter_13 ?_
  refine xn_top (x := (g 2 w)) (y := nI e0) he0 ?_
  refine xn_ge (a := b0 + k) (b := e0) (tgt := 33) hx hb xd_Mo_letter_14 (by decide) (by omega) (by omega) (fun hc1 => ?_) (fun hc1 => ?_)
  · refine lv_iconst (v := 0) hx hb xd_Mo_letter_33 (by decide) ?_
    exact W.zret (v := 0) hx hb hr rfl (fun t ht hW => ⟨⟨0, (), rfl, (by unfold sL; rw [if_neg (by omega)]), by rw [ht]; exact hP, hD⟩, hS.F ht⟩) hS.2.2 xd_Mo_letter_34
  · refine lv_aload_n hx hb xd_Mo_letter_17 rfl (lv_at hl 0 rfl) ?_
    refine va_get (D := D) (ci := 4) (v := .ref (mm 0)) (C := xR_Mo) (T := xT_Mo) (N := 31) hx hb hT xi_Mo hown hK.1 hP 0 rfl rfl 2 (by decide) (hT _ k4a_2) (fun _ h9 => h9) rfl xd_Mo_letter_18 ?_
    refine lv_aload_n hx hb xd_Mo_letter_21 rfl (lv_at hl 0 rfl) ?_
    refine va_get (D := D) (ci := 4) (v := .ref (mm 1)) (C := xR_Mo) (T := xT_Mo) (N := 31) hx hb hT xi_Mo hown hK.1 hP 0 rfl rfl 5 (by decide) (hT _ k4a_0) (fun _ h9 => h9) rfl xd_Mo_letter_22 ?_
    refine lv_iload_n hx hb xd_Mo_letter_25 rfl (lv_at hl 1 rfl) ?_
    refine xn_iald (i := w) hx hb hK.1 hP 2 0 rfl rfl (by omega) (by decide) xd_Mo_letter_26 ?_
    refine xn_top (x := (g 1 w)) (y := nI b0) hb0 ?_
    refine lv_iload_n hx hb xd_Mo_letter_27 rfl (lv_at hl 2 rfl) ?_
    refine lv_iadd hx hb xd_Mo_letter_28 ?_
    refine xn_top (y := nI (b0 + k)) (nI_add b0 k) ?_
    refine xn_cald (i := b0 + k) hx hb hK.1 hP 1 1 rfl rfl (by omega) (by decide) xd_Mo_letter_29 ?_
    refine lv_goto (tgt := 34) hx hb xd_Mo_letter_30 (by decide) ?_
    exact W.zret (v := (g 0 (b0 + k))) hx hb hr (hch _ (by omega)) (fun t ht hW => ⟨⟨(g 0 (b0 + k)), (), rfl, (by unfold sL; rw [if_pos (by omega)]), by rw [ht]; exact hP, hD⟩, hS.F ht⟩) hS.2.2 xd_Mo_letter_34
set_option maxHeartbeats 4000000 in
set_option maxRecDepth 100000 in
theorem xc_Mo_nameOfX (l : Launch) (D : va_G) (kA : Nat → ClassId) (sz h : Nat) (mm : Nat → Nat) (v : Nat → Int32) (g : Nat → Nat → Int32) (w : Nat) (b0 : Nat) (e0 : Nat) (hw20 : w < 20) (hb0 : g 1 w = nI b0) (he0 : g 2 w = nI e0) (hbe : b0 ≤ e0) (he40 : e0 ≤ 40) : Met l xy_Mo_nameOf (.code xy_Mo_nameOf xb_Mo_nameOf 4 (some .int) :: wT) { frames := 0, cells := 0, slots := 0, locals := 0 } (va_Pc [.ref h, .int (nI w)] (xPre D kA sz (moW h mm kA v g))) (va_Qi (fun (r : Int32) (u : Unit) => r = nV (g 0) b0 e0) (fun (u : Unit) t => va_P D xcl (moW h mm kA v g) t.heap ∧ va_D (va_A (moW h mm kA v g) sz) (moW h mm kA v g)) (va_A (moW h mm kA v g) sz)) 0 0 (va_A (moW h mm kA v g) sz) := by
  refine Met.ofW (cc := xb_Mo_nameOf) (maxL := 4) (ret := (some .int)) (by decide) rfl ?_
  intro p e s m args below meth c s₁ B hml hv
  obtain ⟨rfl, hsz, hP, hK, hD0⟩ := hv
  have hx := B.exec
  have hb := B.bytes
  have hr := B.returns
  have hT := x_hT B.pre
  have hown : s.vm.findClass xR_Mo = some m.cls := findClass_of_methodNamed B.named
  have hlocks := B.notSynchronized
  subst hsz
  have hD := hD0.self (sz := s.heap.size)
  generalize hAe : va_A (moW h mm kA v g) s.heap.size = A at hD ⊢
  have hA : ∀ q : Nat, s.heap.size ≤ q → A q := fun q h => by rw [← hAe]; exact Or.inr h
  have hS : va_S A s.heap s.heap [] := va_S.rf
  have hl := lv_entry ([.ref h, .int (nI w)]) (n := 4) (Nat.le_of_ble_eq_true rfl)
  rw [lg_entry_eq]
  generalize (lg_sl ([.ref h, .int (nI w)]) ++ List.replicate (4 - (lg_sl ([.ref h, .int (nI w)])).length) Slot.unset).toArray = ls at hl ⊢
  have hl : lv_has ls 4 [(0, .ref h), (1, .int (nI w))] := hl
  have hP : va_P D xcl (moW h mm kA v g) s.heap := hP
  refine lv_iconst (v := 0) hx hb xd_Mo_nameOf_0 (by decide) ?_
  refine lv_istore_n hx hb xd_Mo_nameOf_1 rfl hl (Nat.le_of_ble_eq_true rfl) rfl (fun ls hl => ?_)
  have hl : lv_has ls 4 [(2, .int 0), (0, .ref h), (1, .int (nI w))] := hl
  refine lv_aload_n hx hb xd_Mo_nameOf_2 rfl (lv_at hl 1 rfl) ?_
  refine va_get (D := D) (ci := 4) (v := .ref (mm 1)) (C := xR_Mo) (T := xT_Mo) (N := 31) hx hb hT xi_Mo hown hK.1 hP 0 rfl rfl 5 (by decide) (hT _ k4a_0) (fun _ h9 => h9) rfl xd_Mo_nameOf_3 ?_
  refine lv_iload_n hx hb xd_Mo_nameOf_6 rfl (lv_at hl 2 rfl) ?_
  refine xn_iald (i := w) hx hb hK.1 hP 2 0 rfl rfl (by omega) (by decide) xd_Mo_nameOf_7 ?_
  refine xn_top (x := (g 1 w)) (y := nI b0) hb0 ?_
  refine lv_istore_n hx hb xd_Mo_nameOf_8 rfl hl (Nat.le_of_ble_eq_true rfl) rfl (fun ls hl => ?_)
  have hl : lv_has ls 4 [(3, .int (nI b0)), (2, .int 0), (0, .ref h), (1, .int (nI w))] := hl
  refine xlab (σ := Nat × Int32) (ml := 4) 9 (fun (k, vv) => [(3, .int (nI k)), (2, .int vv), (0, .ref h), (1, .int (nI w))]) (fun (k, vv) => []) (fun (k, vv) => moW h mm kA v g) (fun (k, vv) => (b0 ≤ k) ∧ (k ≤ e0) ∧ (vv = n_fold (g 0) b0 (k - b0) 0) ∧ (n_small (g 0) b0 (k - b0)) ∧ (k = b0 ∨ e0 - b0 ≤ 4)) (fun (k, vv) => e0 - k) ?_ (b0, 0) _ _ _ (lv_sub hl [0, 1, 2, 3] rfl) hP hD hS ⟨(show b0 ≤ b0 from by first | assumption | omega), (show b0 ≤ e0 from by first | assumption | omega), (show 0 = n_fold (g 0) b0 (b0 - b0) 0 from by rw [Nat.sub_self]; rfl), (show n_small (g 0) b0 (b0 - b0) from by rw [Nat.sub_self]; trivial), (show b0 = b0 ∨ e0 - b0 ≤ 4 from by omega)⟩
  intro n9 ih1 a9 ls H locs hμ hl hP hD hS hI
  subst hμ
  obtain ⟨k, vv⟩ := a9
  obtain ⟨hk1, hk2, hvv, hsm, hl4⟩ := hI
  have hk1 : b0 ≤ k := hk1
  have hk2 : k ≤ e0 := hk2
  have hvv : vv = n_fold (g 0) b0 (k - b0) 0 := hvv
  have hsm : n_small (g 0) b0 (k - b0) := hsm
  have hl4 : k = b0 ∨ e0 - b0 ≤ 4 := hl4
  have hl : lv_has ls 4 [(3, .int (nI k)), (2, .int vv), (0, .ref h), (1, .int (nI w))] := hl
  have hP : va_P D xcl (moW h mm kA v g) H := hP
  have hD : va_D A (moW h mm kA v g) := hD
  refine lv_iload_n hx hb xd_Mo_nameOf_9 rfl (lv_at hl 0 rfl) ?_
  refine lv_aload_n hx hb xd_Mo_nameOf_10 rfl (lv_at hl 2 rfl) ?_
  refine va_get (D := D) (ci := 4) (v := .ref (mm 2)) (C := xR_Mo) (T := xT_Mo) (N := 31) hx hb hT xi_Mo hown hK.1 hP 0 rfl rfl 6 (by decide) (hT _ k4a_1) (fun _ h9 => h9) rfl xd_Mo_nameOf_11 ?_
  refine lv_iload_n hx hb xd_Mo_nameOf_14 rfl (lv_at hl 3 rfl) ?_
  refine xn_iald (i := w) hx hb hK.1 hP 3 0 rfl rfl (by omega) (by decide) xd_Mo_nameOf_15 ?_
  refine xn_top (x := (g 2 w)) (y := nI e0) he0 ?_
  refine xn_ge (a := k) (b := e0) (tgt := 81) hx hb xd_Mo_nameOf_16 (by decide) (by omega) (by omega) (fun hc2 => ?_) (fun hc2 => ?_)
  · refine lv_iload_n hx hb xd_Mo_nameOf_81 rfl (lv_at hl 1 rfl) ?_
    exact W.iret (v := vv) hx hb hr (fun t ht hW => ⟨⟨vv, (), rfl, nV_ok (by omega) (by rw [show e0 - b0 = k - b0 by omega]; exact hsm) (by rw [show e0 - b0 = k - b0 by omega]; exact hvv), by rw [ht]; exact hP, hD⟩, hS.F ht⟩) hS.2.2 xd_Mo_nameOf_82
  · refine lv_aload_n hx hb xd_Mo_nameOf_19 rfl (lv_at hl 2 rfl) ?_
    refine va_get (D := D) (ci := 4) (v := .ref (mm 0)) (C := xR_Mo) (T := xT_Mo) (N := 31) hx hb hT xi_Mo hown hK.1 hP 0 rfl rfl 2 (by decide) (hT _ k4a_2) (fun _ h9 => h9) rfl xd_Mo_nameOf_20 ?_
    refine lv_iload_n hx hb xd_Mo_nameOf_23 rfl (lv_at hl 0 rfl) ?_
    refine xn_cald (i := k) hx hb hK.1 hP 1 1 rfl rfl (by omega) (by decide) xd_Mo_nameOf_24 ?_
    refine lv_bipush (v := 97) hx hb xd_Mo_nameOf_25 (by decide) ?_
    refine lv_icmp_lt (tgt := 58) hx hb xd_Mo_nameOf_27 (by decide) (fun hc3 => ?_) (fun hc3 => ?_)
    · refine lv_iconst (v := 0) hx hb xd_Mo_nameOf_58 (by decide) ?_
      exact W.iret (v := 0) hx hb hr (fun t ht hW => ⟨⟨0, (), rfl, nV_no (fun q => (n_small_at q.2 (p := k - b0) (by omega)).1 (by rw [show b0 + (k - b0) = k by omega]; exact hc3)), by rw [ht]; exact hP, hD⟩, hS.F ht⟩) hS.2.2 xd_Mo_nameOf_59
    · refine lv_aload_n hx hb xd_Mo_nameOf_30 rfl (lv_at hl 2 rfl) ?_
      refine va_get (D := D) (ci := 4) (v := .ref (mm 0)) (C := xR_Mo) (T := xT_Mo) (N := 31) hx hb hT xi_Mo hown hK.1 hP 0 rfl rfl 2 (by decide) (hT _ k4a_2) (fun _ h9 => h9) rfl xd_Mo_nameOf_31 ?_
      refine lv_iload_n hx hb xd_Mo_nameOf_34 rfl (lv_at hl 0 rfl) ?_
      refine xn_cald (i := k) hx hb hK.1 hP 1 1 rfl rfl (by omega) (by decide) xd_Mo_nameOf_35 ?_
      refine lv_bipush (v := 122) hx hb xd_Mo_nameOf_36 (by decide) ?_
      refine lv_icmp_gt (tgt := 58) hx hb xd_Mo_nameOf_38 (by decide) (fun hc4 => ?_) (fun hc4 => ?_)
      · refine lv_iconst (v := 0) hx hb xd_Mo_nameOf_58 (by decide) ?_
        exact W.iret (v := 0) hx hb hr (fun t ht hW => ⟨⟨0, (), rfl, nV_no (fun q => (n_small_at q.2 (p := k - b0) (by omega)).2 (by rw [show b0 + (k - b0) = k by omega]; exact hc4)), by rw [ht]; exact hP, hD⟩, hS.F ht⟩) hS.2.2 xd_Mo_nameOf_59
      · refine lv_aload_n hx hb xd_Mo_nameOf_41 rfl (lv_at hl 2 rfl) ?_
        refine va_get (D := D) (ci := 4) (v := .ref (mm 2)) (C := xR_Mo) (T := xT_Mo) (N := 31) hx hb hT xi_Mo hown hK.1 hP 0 rfl rfl 6 (by decide) (hT _ k4a_1) (fun _ h9 => h9) rfl xd_Mo_nameOf_42 ?_
        refine lv_iload_n hx hb xd_Mo_nameOf_45 rfl (lv_at hl 3 rfl) ?_
        refine xn_iald (i := w) hx hb hK.1 hP 3 0 rfl rfl (by omega) (by decide) xd_Mo_nameOf_46 ?_
        refine xn_top (x := (g 2 w)) (y := nI e0) he0 ?_
        refine lv_aload_n hx hb xd_Mo_nameOf_47 rfl (lv_at hl 2 rfl) ?_
        refine va_get (D := D) (ci := 4) (v := .ref (mm 1)) (C := xR_Mo) (T := xT_Mo) (N := 31) hx hb hT xi_Mo hown hK.1 hP 0 rfl rfl 5 (by decide) (hT _ k4a_0) (fun _ h9 => h9) rfl xd_Mo_nameOf_48 ?_
        refine lv_iload_n hx hb xd_Mo_nameOf_51 rfl (lv_at hl 3 rfl) ?_
        refine xn_iald (i := w) hx hb hK.1 hP 2 0 rfl rfl (by omega) (by decide) xd_Mo_nameOf_52 ?_
        refine xn_top (x := (g 1 w)) (y := nI b0) hb0 ?_
        refine lv_isub hx hb xd_Mo_nameOf_53 ?_
        refine xn_top (y := nI (e0 - b0)) (pk_sub (a := e0) (b := b0) (by omega)) ?_
        refine lv_iconst (v := 4) hx hb xd_Mo_nameOf_54 (by decide) ?_
        refine xn_le (a := e0 - b0) (b := 4) (tgt := 60) hx hb xd_Mo_nameOf_55 (by decide) (by omega) (by omega) (fun hc5 => ?_) (fun hc5 => ?_)
        · refine lv_bipush (v := 27) hx hb xd_Mo_nameOf_60 (by decide) ?_
          refine lv_iload_n hx hb xd_Mo_nameOf_62 rfl (lv_at hl 1 rfl) ?_
          refine lv_imul hx hb xd_Mo_nameOf_63 ?_
          refine lv_aload_n hx hb xd_Mo_nameOf_64 rfl (lv_at hl 2 rfl) ?_
          refine va_get (D := D) (ci := 4) (v := .ref (mm 0)) (C := xR_Mo) (T := xT_Mo) (N := 31) hx hb hT xi_Mo hown hK.1 hP 0 rfl rfl 2 (by decide) (hT _ k4a_2) (fun _ h9 => h9) rfl xd_Mo_nameOf_65 ?_
          refine lv_iload_n hx hb xd_Mo_nameOf_68 rfl (lv_at hl 0 rfl) ?_
          refine xn_cald (i := k) hx hb hK.1 hP 1 1 rfl rfl (by omega) (by decide) xd_Mo_nameOf_69 ?_
          refine lv_iadd hx hb xd_Mo_nameOf_70 ?_
          refine lv_bipush (v := 96) hx hb xd_Mo_nameOf_71 (by decide) ?_
          refine lv_isub hx hb xd_Mo_nameOf_73 ?_
          refine lv_istore_n hx hb xd_Mo_nameOf_74 rfl hl (Nat.le_of_ble_eq_true rfl) rfl (fun ls hl => ?_)
          have hl : lv_has ls 4 [(2, .int (((27 * vv) + (g 0 k)) - 96)), (3, .int (nI k)), (0, .ref h), (1, .int (nI w))] := hl
          refine lv_iinc (k := 1) (x := (nI k)) (v := (nI (k + 1))) hx hb xd_Mo_nameOf_75 hl rfl (xb_inc k 1) (Nat.le_of_ble_eq_true rfl) rfl (fun ls hl => ?_)
          have hl : lv_has ls 4 [(3, .int (nI (k + 1))), (2, .int (((27 * vv) + (g 0 k)) - 96)), (0, .ref h), (1, .int (nI w))] := hl
          refine lv_goto (tgt := 9) hx hb xd_Mo_nameOf_78 (by decide) ?_
          exact ih1 (k + 1, (((27 * vv) + (g 0 k)) - 96)) _ _ _ (show e0 - (k + 1) < e0 - k by omega) (lv_sub hl [0, 1, 2, 3] rfl) hP hD hS ⟨(show b0 ≤ (k + 1) from by first | assumption | omega), (show (k + 1) ≤ e0 from by first | assumption | omega), (show (((27 * vv) + (g 0 k)) - 96) = n_fold (g 0) b0 ((k + 1) - b0) 0 from by rw [n_step, hvv, show k + 1 - b0 = k - b0 + 1 by omega, n_fold_r, show b0 + (k - b0) = k by omega]), (show n_small (g 0) b0 ((k + 1) - b0) from by rw [show k + 1 - b0 = k - b0 + 1 by omega, n_small_r, show b0 + (k - b0) = k by omega]; exact ⟨hsm, hc3, hc4⟩), (show (k + 1) = b0 ∨ e0 - b0 ≤ 4 from by omega)⟩
        · refine lv_iconst (v := 0) hx hb xd_Mo_nameOf_58 (by decide) ?_
          exact W.iret (v := 0) hx hb hr (fun t ht hW => ⟨⟨0, (), rfl, nV_no (fun q => absurd q.1 (by omega)), by rw [ht]; exact hP, hD⟩, hS.F ht⟩) hS.2.2 xd_Mo_nameOf_59
set_option maxHeartbeats 4000000 in
set_option maxRecDepth 100000 in
theorem xc_Mo_saysX (l : Launch) (D : va_G) (kA : Nat → ClassId) (sz h : Nat) (mm : Nat → Nat) (v : Nat → Int32) (g : Nat → Nat → Int32) (w : Nat) (b0 : Nat) (e0 : Nat) (a9 : Int32) (c9 : Int32) (hw20 : w < 20) (hb0 : g 1 w = nI b0) (he0 : g 2 w = nI e0) (hbe : b0 ≤ e0) (he40 : e0 ≤ 40) (hch : ∀ i, i < 40 → narrow .char (.int (g 0 i)) = .int (g 0 i)) : Met l xy_Mo_says (.code xy_Mo_says xb_Mo_says 8 (some .boolean) :: wT) { frames := 1, cells := 0, slots := 0, locals := 22 } (va_Pc [.ref h, .int (nI w), .int a9, .int c9] (xPre D kA sz (moW h mm kA v g))) (va_Qi (fun (r : Int32) (u : Unit) => (r = 1 ∧ sQ (g 0) b0 e0 a9 c9) ∨ (r = 0 ∧ ¬ sQ (g 0) b0 e0 a9 c9)) (fun (u : Unit) t => va_P D xcl (moW h mm kA v g) t.heap ∧ va_D (va_A (moW h mm kA v g) sz) (moW h mm kA v g)) (va_A (moW h mm kA v g) sz)) 0 0 (va_A (moW h mm kA v g) sz) := by
  refine Met.ofW (cc := xb_Mo_says) (maxL := 8) (ret := (some .boolean)) (by decide) rfl ?_
  intro p e s m args below meth c s₁ B hml hv
  obtain ⟨rfl, hsz, hP, hK, hD0⟩ := hv
  have hx := B.exec
  have hb := B.bytes
  have hr := B.returns
  have hT := x_hT B.pre
  have hown : s.vm.findClass xR_Mo = some m.cls := findClass_of_methodNamed B.named
  have hlocks := B.notSynchronized
  subst hsz
  have hD := hD0.self (sz := s.heap.size)
  generalize hAe : va_A (moW h mm kA v g) s.heap.size = A at hD ⊢
  have hA : ∀ q : Nat, s.heap.size ≤ q → A q := fun q h => by rw [← hAe]; exact Or.inr h
  have hS : va_S A s.heap s.heap [] := va_S.rf
  have hl := lv_entry ([.ref h, .int (nI w), .int a9, .int c9]) (n := 8) (Nat.le_of_ble_eq_true rfl)
  rw [lg_entry_eq]
  generalize (lg_sl ([.ref h, .int (nI w), .int a9, .int c9]) ++ List.replicate (8 - (lg_sl ([.ref h, .int (nI w), .int a9, .int c9])).length) Slot.unset).toArray = ls at hl ⊢
  have hl : lv_has ls 8 [(0, .ref h), (1, .int (nI w)), (2, .int a9), (3, .int c9)] := hl
  have hP : va_P D xcl (moW h mm kA v g) s.heap := hP
  refine lv_iconst (v := 0) hx hb xd_Mo_says_0 (by decide) ?_
  refine lv_istore hx hb xd_Mo_says_1 hl (Nat.le_of_ble_eq_true rfl) rfl (fun ls hl => ?_)
  have hl : lv_has ls 8 [(4, .int 0), (0, .ref h), (1, .int (nI w)), (2, .int a9), (3, .int c9)] := hl
  refine lv_iconst (v := 0) hx hb xd_Mo_says_3 (by decide) ?_
  refine lv_istore hx hb xd_Mo_says_4 hl (Nat.le_of_ble_eq_true rfl) rfl (fun ls hl => ?_)
  have hl : lv_has ls 8 [(5, .int 0), (4, .int 0), (0, .ref h), (1, .int (nI w)), (2, .int a9), (3, .int c9)] := hl
  refine lv_iconst (v := 0) hx hb xd_Mo_says_6 (by decide) ?_
  refine lv_istore hx hb xd_Mo_says_7 hl (Nat.le_of_ble_eq_true rfl) rfl (fun ls hl => ?_)
  have hl : lv_has ls 8 [(6, .int 0), (5, .int 0), (4, .int 0), (0, .ref h), (1, .int (nI w)), (2, .int a9), (3, .int c9)] := hl
  refine xlab (σ := Nat × Int32) (ml := 8) 9 (fun (i, x4) => [(6, .int (nI i)), (4, .int x4), (5, .int 0), (0, .ref h), (1, .int (nI w)), (2, .int a9), (3, .int c9)]) (fun (i, x4) => []) (fun (i, x4) => moW h mm kA v g) (fun (i, x4) => (i ≤ 5) ∧ (x4 = sC (g 0) b0 e0 0 i)) (fun (i, x4) => 5 - i) ?_ (0, 0) _ _ _ (lv_sub hl [0, 2, 1, 3, 4, 5, 6] rfl) hP hD hS ⟨(show 0 ≤ 5 from by first | assumption | omega), (show 0 = sC (g 0) b0 e0 0 0 from rfl)⟩
  intro n9 ih1 a9 ls H locs hμ hl hP hD hS hI
  subst hμ
  obtain ⟨i, x4⟩ := a9
  obtain ⟨hi5, hx4⟩ := hI
  have hi5 : i ≤ 5 := hi5
  have hx4 : x4 = sC (g 0) b0 e0 0 i := hx4
  have hl : lv_has ls 8 [(6, .int (nI i)), (4, .int x4), (5, .int 0), (0, .ref h), (1, .int (nI w)), (2, .int a9), (3, .int c9)] := hl
  have hP : va_P D xcl (moW h mm kA v g) H := hP
  have hD : va_D A (moW h mm kA v g) := hD
  refine lv_iload hx hb xd_Mo_says_9 (lv_at hl 0 rfl) ?_
  refine lv_iconst (v := 5) hx hb xd_Mo_says_11 (by decide) ?_
  refine xn_ge (a := i) (b := 5) (tgt := 54) hx hb xd_Mo_says_12 (by decide) (by omega) (by omega) (fun hc2 => ?_) (fun hc2 => ?_)
  · refine lv_iconst (v := 5) hx hb xd_Mo_says_54 (by decide) ?_
    refine lv_istore hx hb xd_Mo_says_55 hl (Nat.le_of_ble_eq_true rfl) rfl (fun ls hl => ?_)
    have hl : lv_has ls 8 [(6, .int 5), (4, .int x4), (5, .int 0), (0, .ref h), (1, .int (nI w)), (2, .int a9), (3, .int c9)] := hl
    refine xlab (σ := Nat × Int32) (ml := 8) 57 (fun (i2, x5) => [(6, .int (nI i2)), (5, .int x5), (4, .int x4), (0, .ref h), (1, .int (nI w)), (2, .int a9), (3, .int c9)]) (fun (i2, x5) => []) (fun (i2, x5) => moW h mm kA v g) (fun (i2, x5) => (5 ≤ i2) ∧ (i2 ≤ 10) ∧ (x5 = sC (g 0) b0 e0 5 (i2 - 5))) (fun (i2, x5) => 10 - i2) ?_ (5, 0) _ _ _ (lv_sub hl [0, 2, 1, 3, 4, 5, 6] rfl) hP hD hS ⟨(show 5 ≤ 5 from by first | assumption | omega), (show 5 ≤ 10 from by first | assumption | omega), (show 0 = sC (g 0) b0 e0 5 (5 - 5) from rfl)⟩
    intro n9 ih3 a9 ls H locs hμ hl hP hD hS hI
    subst hμ
    obtain ⟨i2, x5⟩ := a9
    obtain ⟨hi55, hi10, hx5⟩ := hI
    have hi55 : 5 ≤ i2 := hi55
    have hi10 : i2 ≤ 10 := hi10
    have hx5 : x5 = sC (g 0) b0 e0 5 (i2 - 5) := hx5
    have hl : lv_has ls 8 [(6, .int (nI i2)), (5, .int x5), (4, .int x4), (0, .ref h), (1, .int (nI w)), (2, .int a9), (3, .int c9)] := hl
    have hP : va_P D xcl (moW h mm kA v g) H := hP
    have hD : va_D A (moW h mm kA v g) := hD
    refine lv_iload hx hb xd_Mo_says_57 (lv_at hl 0 rfl) ?_
    refine lv_bipush (v := 10) hx hb xd_Mo_says_59 (by decide) ?_
    refine xn_ge (a := i2) (b := 10) (tgt := 103) hx hb xd_Mo_says_61 (by decide) (by omega) (by omega) (fun hc4 => ?_) (fun hc4 => ?_)
    · refine lv_aload_n hx hb xd_Mo_says_103 rfl (lv_at hl 3 rfl) ?_
      refine va_get (D := D) (ci := 4) (v := .ref (mm 2)) (C := xR_Mo) (T := xT_Mo) (N := 31) hx hb hT xi_Mo hown hK.1 hP 0 rfl rfl 6 (by decide) (hT _ k4a_1) (fun _ h9 => h9) rfl xd_Mo_says_104 ?_
      refine lv_iload_n hx hb xd_Mo_says_107 rfl (lv_at hl 4 rfl) ?_
      refine xn_iald (i := w) hx hb hK.1 hP 3 0 rfl rfl (by omega) (by decide) xd_Mo_says_108 ?_
      refine xn_top (x := (g 2 w)) (y := nI e0) he0 ?_
      refine lv_aload_n hx hb xd_Mo_says_109 rfl (lv_at hl 3 rfl) ?_
      refine va_get (D := D) (ci := 4) (v := .ref (mm 1)) (C := xR_Mo) (T := xT_Mo) (N := 31) hx hb hT xi_Mo hown hK.1 hP 0 rfl rfl 5 (by decide) (hT _ k4a_0) (fun _ h9 => h9) rfl xd_Mo_says_110 ?_
      refine lv_iload_n hx hb xd_Mo_says_113 rfl (lv_at hl 4 rfl) ?_
      refine xn_iald (i := w) hx hb hK.1 hP 2 0 rfl rfl (by omega) (by decide) xd_Mo_says_114 ?_
      refine xn_top (x := (g 1 w)) (y := nI b0) hb0 ?_
      refine lv_isub hx hb xd_Mo_says_115 ?_
      refine xn_top (y := nI (e0 - b0)) (pk_sub (a := e0) (b := b0) (by omega)) ?_
      refine lv_bipush (v := 10) hx hb xd_Mo_says_116 (by decide) ?_
      refine xn_gt (a := e0 - b0) (b := 10) (tgt := 125) hx hb xd_Mo_says_118 (by decide) (by omega) (by omega) (fun hc5 => ?_) (fun hc5 => ?_)
      · refine lv_iconst (v := 0) hx hb xd_Mo_says_125 (by decide) ?_
        refine lv_istore hx hb xd_Mo_says_126 hl (Nat.le_of_ble_eq_true rfl) rfl (fun ls hl => ?_)
        have hl : lv_has ls 8 [(6, .int 0), (5, .int x5), (4, .int x4), (0, .ref h), (1, .int (nI w)), (2, .int a9), (3, .int c9)] := hl
        refine lv_aload_n hx hb xd_Mo_says_128 rfl (lv_at hl 3 rfl) ?_
        refine va_get (D := D) (ci := 4) (v := .ref (mm 1)) (C := xR_Mo) (T := xT_Mo) (N := 31) hx hb hT xi_Mo hown hK.1 hP 0 rfl rfl 5 (by decide) (hT _ k4a_0) (fun _ h9 => h9) rfl xd_Mo_says_129 ?_
        refine lv_iload_n hx hb xd_Mo_says_132 rfl (lv_at hl 4 rfl) ?_
        refine xn_iald (i := w) hx hb hK.1 hP 2 0 rfl rfl (by omega) (by decide) xd_Mo_says_133 ?_
        refine xn_top (x := (g 1 w)) (y := nI b0) hb0 ?_
        refine lv_istore hx hb xd_Mo_says_134 hl (Nat.le_of_ble_eq_true rfl) rfl (fun ls hl => ?_)
        have hl : lv_has ls 8 [(7, .int (nI b0)), (6, .int 0), (5, .int x5), (4, .int x4), (0, .ref h), (1, .int (nI w)), (2, .int a9), (3, .int c9)] := hl
        refine xlab (σ := Nat × Int32) (ml := 8) 136 (fun (k7, s6) => [(7, .int (nI k7)), (6, .int s6), (5, .int x5), (4, .int x4), (0, .ref h), (1, .int (nI w)), (2, .int a9), (3, .int c9)]) (fun (k7, s6) => []) (fun (k7, s6) => moW h mm kA v g) (fun (k7, s6) => (b0 ≤ k7) ∧ (k7 ≤ e0) ∧ ((s6 = 1 ∧ e0 - b0 ≤ 10 ∧ n_small (g 0) b0 (k7 - b0)) ∨ (s6 = 0 ∧ ¬ (e0 - b0 ≤ 10 ∧ n_small (g 0) b0 (k7 - b0))))) (fun (k7, s6) => e0 - k7) ?_ (b0, 0) _ _ _ (lv_sub hl [0, 1, 2, 3, 4, 5, 6, 7] rfl) hP hD hS ⟨(show b0 ≤ b0 from by first | assumption | omega), (show b0 ≤ e0 from by first | assumption | omega), (show (0 = 1 ∧ e0 - b0 ≤ 10 ∧ n_small (g 0) b0 (b0 - b0)) ∨ (0 = 0 ∧ ¬ (e0 - b0 ≤ 10 ∧ n_small (g 0) b0 (b0 - b0))) from Or.inr ⟨rfl, fun q => absurd q.1 (by omega)⟩)⟩
        intro n9 ih6 a9 ls H locs hμ hl hP hD hS hI
        subst hμ
        obtain ⟨k7, s6⟩ := a9
        obtain ⟨hk1, hk2, hs6⟩ := hI
        have hk1 : b0 ≤ k7 := hk1
        have hk2 : k7 ≤ e0 := hk2
        have hs6 : (s6 = 1 ∧ e0 - b0 ≤ 10 ∧ n_small (g 0) b0 (k7 - b0)) ∨ (s6 = 0 ∧ ¬ (e0 - b0 ≤ 10 ∧ n_small (g 0) b0 (k7 - b0))) := hs6
        have hl : lv_has ls 8 [(7, .int (nI k7)), (6, .int s6), (5, .int x5), (4, .int x4), (0, .ref h), (1, .int (nI w)), (2, .int a9), (3, .int c9)] := hl
        have hP : va_P D xcl (moW h mm kA v g) H := hP
        have hD : va_D A (moW h mm kA v g) := hD
        refine lv_iload hx hb xd_Mo_says_136 (lv_at hl 0 rfl) ?_
        refine lv_aload_n hx hb xd_Mo_says_138 rfl (lv_at hl 4 rfl) ?_
        refine va_get (D := D) (ci := 4) (v := .ref (mm 2)) (C := xR_Mo) (T := xT_Mo) (N := 31) hx hb hT xi_Mo hown hK.1 hP 0 rfl rfl 6 (by decide) (hT _ k4a_1) (fun _ h9 => h9) rfl xd_Mo_says_139 ?_
        refine lv_iload_n hx hb xd_Mo_says_142 rfl (lv_at hl 5 rfl) ?_
        refine xn_iald (i := w) hx hb hK.1 hP 3 0 rfl rfl (by omega) (by decide) xd_Mo_says_143 ?_
        refine xn_top (x := (g 2 w)) (y := nI e0) he0 ?_
        refine xn_ge (a := k7) (b := e0) (tgt := 189) hx hb xd_Mo_says_144 (by decide) (by omega) (by omega) (fun hc7 => ?_) (fun hc7 => ?_)
        · refine lv_iload hx hb xd_Mo_says_189 (lv_at hl 1 rfl) ?_
          refine lv_if_eq (tgt := 210) hx hb xd_Mo_says_191 (by decide) (fun hc8 => ?_) (fun hc8 => ?_)
          · refine lv_iconst (v := 0) hx hb xd_Mo_says_210 (by decide) ?_
            exact W.zret (v := 0) hx hb hr rfl (fun t ht hW => ⟨⟨0, (), rfl, by
        have e1 : i = 5 := by omega
        have e2 : i2 - 5 = 5 := by omega
        have e3 : k7 = e0 := by omega
        rw [e1] at hx4
        rw [e2] at hx5
        rw [e3] at hs6
        rcases hs6 with ⟨q, q1, q2⟩ | ⟨q, q1⟩
        · exact absurd (q.symm.trans hc8) (by decide)
        · exact Or.inr ⟨rfl, fun z => q1 z.1⟩, by rw [ht]; exact hP, hD⟩, hS.F ht⟩) hS.2.2 xd_Mo_says_211
          · refine lv_iload hx hb xd_Mo_says_194 (lv_at hl 3 rfl) ?_
            refine lv_iload_n hx hb xd_Mo_says_196 rfl (lv_at hl 6 rfl) ?_
            refine lv_icmp_ne (tgt := 210) hx hb xd_Mo_says_197 (by decide) (fun hc9 => ?_) (fun hc9 => ?_)
            · refine lv_iconst (v := 0) hx hb xd_Mo_says_210 (by decide) ?_
              exact W.zret (v := 0) hx hb hr rfl (fun t ht hW => ⟨⟨0, (), rfl, by
        have e1 : i = 5 := by omega
        have e2 : i2 - 5 = 5 := by omega
        have e3 : k7 = e0 := by omega
        rw [e1] at hx4
        rw [e2] at hx5
        rw [e3] at hs6
        exact Or.inr ⟨rfl, fun z => hc9 (hx4.trans z.2.1)⟩, by rw [ht]; exact hP, hD⟩, hS.F ht⟩) hS.2.2 xd_Mo_says_211
            · refine lv_iload hx hb xd_Mo_says_200 (lv_at hl 2 rfl) ?_
              refine lv_iload_n hx hb xd_Mo_says_202 rfl (lv_at hl 7 rfl) ?_
              refine lv_icmp_ne (tgt := 210) hx hb xd_Mo_says_203 (by decide) (fun hc10 => ?_) (fun hc10 => ?_)
              · refine lv_iconst (v := 0) hx hb xd_Mo_says_210 (by decide) ?_
                exact W.zret (v := 0) hx hb hr rfl (fun t ht hW => ⟨⟨0, (), rfl, by
        have e1 : i = 5 := by omega
        have e2 : i2 - 5 = 5 := by omega
        have e3 : k7 = e0 := by omega
        rw [e1] at hx4
        rw [e2] at hx5
        rw [e3] at hs6
        exact Or.inr ⟨rfl, fun z => hc10 (hx5.trans z.2.2)⟩, by rw [ht]; exact hP, hD⟩, hS.F ht⟩) hS.2.2 xd_Mo_says_211
              · refine lv_iconst (v := 1) hx hb xd_Mo_says_206 (by decide) ?_
                refine lv_goto (tgt := 211) hx hb xd_Mo_says_207 (by decide) ?_
                exact W.zret (v := 1) hx hb hr rfl (fun t ht hW => ⟨⟨1, (), rfl, by
        have e1 : i = 5 := by omega
        have e2 : i2 - 5 = 5 := by omega
        have e3 : k7 = e0 := by omega
        rw [e1] at hx4
        rw [e2] at hx5
        rw [e3] at hs6
        rcases hs6 with ⟨q, q1, q2⟩ | ⟨q, q1⟩
        · exact Or.inl ⟨rfl, ⟨q1, q2⟩, hx4.symm.trans hc9, hx5.symm.trans hc10⟩
        · exact absurd q hc8, by rw [ht]; exact hP, hD⟩, hS.F ht⟩) hS.2.2 xd_Mo_says_211
        · refine lv_iload hx hb xd_Mo_says_147 (lv_at hl 1 rfl) ?_
          refine lv_if_eq (tgt := 180) hx hb xd_Mo_says_149 (by decide) (fun hc11 => ?_) (fun hc11 => ?_)
          · refine lv_iconst (v := 0) hx hb xd_Mo_says_180 (by decide) ?_
            refine lv_istore hx hb xd_Mo_says_181 hl (Nat.le_of_ble_eq_true rfl) rfl (fun ls hl => ?_)
            have hl : lv_has ls 8 [(6, .int 0), (7, .int (nI k7)), (5, .int x5), (4, .int x4), (0, .ref h), (1, .int (nI w)), (2, .int a9), (3, .int c9)] := hl
            refine lv_iinc (k := 1) (x := (nI k7)) (v := (nI (k7 + 1))) hx hb xd_Mo_says_183 hl rfl (xb_inc k7 1) (Nat.le_of_ble_eq_true rfl) rfl (fun ls hl => ?_)
            have hl : lv_has ls 8 [(7, .int (nI (k7 + 1))), (6, .int 0), (5, .int x5), (4, .int x4), (0, .ref h), (1, .int (nI w)), (2, .int a9), (3, .int c9)] := hl
            refine lv_goto (tgt := 136) hx hb xd_Mo_says_186 (by decide) ?_
            exact ih6 (k7 + 1, 0) _ _ _ (show e0 - (k7 + 1) < e0 - k7 by omega) (lv_sub hl [0, 1, 2, 3, 4, 5, 6, 7] rfl) hP hD hS ⟨(show b0 ≤ (k7 + 1) from by first | assumption | omega), (show (k7 + 1) ≤ e0 from by first | assumption | omega), (show (0 = 1 ∧ e0 - b0 ≤ 10 ∧ n_small (g 0) b0 ((k7 + 1) - b0)) ∨ (0 = 0 ∧ ¬ (e0 - b0 ≤ 10 ∧ n_small (g 0) b0 ((k7 + 1) - b0))) from by
        rcases hs6 with ⟨q, q1, q2⟩ | ⟨q, q1⟩
        · exact absurd (q.symm.trans hc11) (by decide)
        · exact Or.inr ⟨rfl, fun z => q1 ⟨z.1, (n_small_r.mp (by rw [← show k7 + 1 - b0 = k7 - b0 + 1 by omega]; exact z.2)).1⟩⟩)⟩
          · refine lv_aload_n hx hb xd_Mo_says_152 rfl (lv_at hl 4 rfl) ?_
            refine va_get (D := D) (ci := 4) (v := .ref (mm 0)) (C := xR_Mo) (T := xT_Mo) (N := 31) hx hb hT xi_Mo hown hK.1 hP 0 rfl rfl 2 (by decide) (hT _ k4a_2) (fun _ h9 => h9) rfl xd_Mo_says_153 ?_
            refine lv_iload hx hb xd_Mo_says_156 (lv_at hl 0 rfl) ?_
            refine xn_cald (i := k7) hx hb hK.1 hP 1 1 rfl rfl (by omega) (by decide) xd_Mo_says_158 ?_
            refine lv_bipush (v := 97) hx hb xd_Mo_says_159 (by decide) ?_
            refine lv_icmp_lt (tgt := 180) hx hb xd_Mo_says_161 (by decide) (fun hc12 => ?_) (fun hc12 => ?_)
            · refine lv_iconst (v := 0) hx hb xd_Mo_says_180 (by decide) ?_
              refine lv_istore hx hb xd_Mo_says_181 hl (Nat.le_of_ble_eq_true rfl) rfl (fun ls hl => ?_)
              have hl : lv_has ls 8 [(6, .int 0), (7, .int (nI k7)), (5, .int x5), (4, .int x4), (0, .ref h), (1, .int (nI w)), (2, .int a9), (3, .int c9)] := hl
              refine lv_iinc (k := 1) (x := (nI k7)) (v := (nI (k7 + 1))) hx hb xd_Mo_says_183 hl rfl (xb_inc k7 1) (Nat.le_of_ble_eq_true rfl) rfl (fun ls hl => ?_)
              have hl : lv_has ls 8 [(7, .int (nI (k7 + 1))), (6, .int 0), (5, .int x5), (4, .int x4), (0, .ref h), (1, .int (nI w)), (2, .int a9), (3, .int c9)] := hl
              refine lv_goto (tgt := 136) hx hb xd_Mo_says_186 (by decide) ?_
              exact ih6 (k7 + 1, 0) _ _ _ (show e0 - (k7 + 1) < e0 - k7 by omega) (lv_sub hl [0, 1, 2, 3, 4, 5, 6, 7] rfl) hP hD hS ⟨(show b0 ≤ (k7 + 1) from by first | assumption | omega), (show (k7 + 1) ≤ e0 from by first | assumption | omega), (show (0 = 1 ∧ e0 - b0 ≤ 10 ∧ n_small (g 0) b0 ((k7 + 1) - b0)) ∨ (0 = 0 ∧ ¬ (e0 - b0 ≤ 10 ∧ n_small (g 0) b0 ((k7 + 1) - b0))) from Or.inr ⟨rfl, fun z => (n_small_at z.2 (p := k7 - b0) (by omega)).1 (by rw [show b0 + (k7 - b0) = k7 by omega]; exact hc12)⟩)⟩
            · refine lv_aload_n hx hb xd_Mo_says_164 rfl (lv_at hl 4 rfl) ?_
              refine va_get (D := D) (ci := 4) (v := .ref (mm 0)) (C := xR_Mo) (T := xT_Mo) (N := 31) hx hb hT xi_Mo hown hK.1 hP 0 rfl rfl 2 (by decide) (hT _ k4a_2) (fun _ h9 => h9) rfl xd_Mo_says_165 ?_
              refine lv_iload hx hb xd_Mo_says_168 (lv_at hl 0 rfl) ?_
              refine xn_cald (i := k7) hx hb hK.1 hP 1 1 rfl rfl (by omega) (by decide) xd_Mo_says_170 ?_
              refine lv_bipush (v := 122) hx hb xd_Mo_says_171 (by decide) ?_
              refine lv_icmp_gt (tgt := 180) hx hb xd_Mo_says_173 (by decide) (fun hc13 => ?_) (fun hc13 => ?_)
              · refine lv_iconst (v := 0) hx hb xd_Mo_says_180 (by decide) ?_
                refine lv_istore hx hb xd_Mo_says_181 hl (Nat.le_of_ble_eq_true rfl) rfl (fun ls hl => ?_)
                have hl : lv_has ls 8 [(6, .int 0), (7, .int (nI k7)), (5, .int x5), (4, .int x4), (0, .ref h), (1, .int (nI w)), (2, .int a9), (3, .int c9)] := hl
                refine lv_iinc (k := 1) (x := (nI k7)) (v := (nI (k7 + 1))) hx hb xd_Mo_says_183 hl rfl (xb_inc k7 1) (Nat.le_of_ble_eq_true rfl) rfl (fun ls hl => ?_)
                have hl : lv_has ls 8 [(7, .int (nI (k7 + 1))), (6, .int 0), (5, .int x5), (4, .int x4), (0, .ref h), (1, .int (nI w)), (2, .int a9), (3, .int c9)] := hl
                refine lv_goto (tgt := 136) hx hb xd_Mo_says_186 (by decide) ?_
                exact ih6 (k7 + 1, 0) _ _ _ (show e0 - (k7 + 1) < e0 - k7 by omega) (lv_sub hl [0, 1, 2, 3, 4, 5, 6, 7] rfl) hP hD hS ⟨(show b0 ≤ (k7 + 1) from by first | assumption | omega), (show (k7 + 1) ≤ e0 from by first | assumption | omega), (show (0 = 1 ∧ e0 - b0 ≤ 10 ∧ n_small (g 0) b0 ((k7 + 1) - b0)) ∨ (0 = 0 ∧ ¬ (e0 - b0 ≤ 10 ∧ n_small (g 0) b0 ((k7 + 1) - b0))) from Or.inr ⟨rfl, fun z => (n_small_at z.2 (p := k7 - b0) (by omega)).2 (by rw [show b0 + (k7 - b0) = k7 by omega]; exact hc13)⟩)⟩
              · refine lv_iconst (v := 1) hx hb xd_Mo_says_176 (by decide) ?_
                refine lv_goto (tgt := 181) hx hb xd_Mo_says_177 (by decide) ?_
                refine lv_istore hx hb xd_Mo_says_181 hl (Nat.le_of_ble_eq_true rfl) rfl (fun ls hl => ?_)
                have hl : lv_has ls 8 [(6, .int 1), (7, .int (nI k7)), (5, .int x5), (4, .int x4), (0, .ref h), (1, .int (nI w)), (2, .int a9), (3, .int c9)] := hl
                refine lv_iinc (k := 1) (x := (nI k7)) (v := (nI (k7 + 1))) hx hb xd_Mo_says_183 hl rfl (xb_inc k7 1) (Nat.le_of_ble_eq_true rfl) rfl (fun ls hl => ?_)
                have hl : lv_has ls 8 [(7, .int (nI (k7 + 1))), (6, .int 1), (5, .int x5), (4, .int x4), (0, .ref h), (1, .int (nI w)), (2, .int a9), (3, .int c9)] := hl
                refine lv_goto (tgt := 136) hx hb xd_Mo_says_186 (by decide) ?_
                exact ih6 (k7 + 1, 1) _ _ _ (show e0 - (k7 + 1) < e0 - k7 by omega) (lv_sub hl [0, 1, 2, 3, 4, 5, 6, 7] rfl) hP hD hS ⟨(show b0 ≤ (k7 + 1) from by first | assumption | omega), (show (k7 + 1) ≤ e0 from by first | assumption | omega), (show (1 = 1 ∧ e0 - b0 ≤ 10 ∧ n_small (g 0) b0 ((k7 + 1) - b0)) ∨ (1 = 0 ∧ ¬ (e0 - b0 ≤ 10 ∧ n_small (g 0) b0 ((k7 + 1) - b0))) from by
        rcases hs6 with ⟨q, q1, q2⟩ | ⟨q, q1⟩
        · exact Or.inl ⟨rfl, q1, (by rw [show k7 + 1 - b0 = k7 - b0 + 1 by omega, n_small_r, show b0 + (k7 - b0) = k7 by omega]; exact ⟨q2, hc12, hc13⟩)⟩
        · exact absurd q hc11)⟩
      · refine lv_iconst (v := 1) hx hb xd_Mo_says_121 (by decide) ?_
        refine lv_goto (tgt := 126) hx hb xd_Mo_says_122 (by decide) ?_
        refine lv_istore hx hb xd_Mo_says_126 hl (Nat.le_of_ble_eq_true rfl) rfl (fun ls hl => ?_)
        have hl : lv_has ls 8 [(6, .int 1), (5, .int x5), (4, .int x4), (0, .ref h), (1, .int (nI w)), (2, .int a9), (3, .int c9)] := hl
        refine lv_aload_n hx hb xd_Mo_says_128 rfl (lv_at hl 3 rfl) ?_
        refine va_get (D := D) (ci := 4) (v := .ref (mm 1)) (C := xR_Mo) (T := xT_Mo) (N := 31) hx hb hT xi_Mo hown hK.1 hP 0 rfl rfl 5 (by decide) (hT _ k4a_0) (fun _ h9 => h9) rfl xd_Mo_says_129 ?_
        refine lv_iload_n hx hb xd_Mo_says_132 rfl (lv_at hl 4 rfl) ?_
        refine xn_iald (i := w) hx hb hK.1 hP 2 0 rfl rfl (by omega) (by decide) xd_Mo_says_133 ?_
        refine xn_top (x := (g 1 w)) (y := nI b0) hb0 ?_
        refine lv_istore hx hb xd_Mo_says_134 hl (Nat.le_of_ble_eq_true rfl) rfl (fun ls hl => ?_)
        have hl : lv_has ls 8 [(7, .int (nI b0)), (6, .int 1), (5, .int x5), (4, .int x4), (0, .ref h), (1, .int (nI w)), (2, .int a9), (3, .int c9)] := hl
        refine xlab (σ := Nat × Int32) (ml := 8) 136 (fun (k7, s6) => [(7, .int (nI k7)), (6, .int s6), (5, .int x5), (4, .int x4), (0, .ref h), (1, .int (nI w)), (2, .int a9), (3, .int c9)]) (fun (k7, s6) => []) (fun (k7, s6) => moW h mm kA v g) (fun (k7, s6) => (b0 ≤ k7) ∧ (k7 ≤ e0) ∧ ((s6 = 1 ∧ e0 - b0 ≤ 10 ∧ n_small (g 0) b0 (k7 - b0)) ∨ (s6 = 0 ∧ ¬ (e0 - b0 ≤ 10 ∧ n_small (g 0) b0 (k7 - b0))))) (fun (k7, s6) => e0 - k7) ?_ (b0, 1) _ _ _ (lv_sub hl [0, 1, 2, 3, 4, 5, 6, 7] rfl) hP hD hS ⟨(show b0 ≤ b0 from by first | assumption | omega), (show b0 ≤ e0 from by first | assumption | omega), (show (1 = 1 ∧ e0 - b0 ≤ 10 ∧ n_small (g 0) b0 (b0 - b0)) ∨ (1 = 0 ∧ ¬ (e0 - b0 ≤ 10 ∧ n_small (g 0) b0 (b0 - b0))) from Or.inl ⟨rfl, by omega, by rw [Nat.sub_self]; trivial⟩)⟩
        intro n9 ih14 a9 ls H locs hμ hl hP hD hS hI
        subst hμ
        obtain ⟨k7, s6⟩ := a9
        obtain ⟨hk1, hk2, hs6⟩ := hI
        have hk1 : b0 ≤ k7 := hk1
        have hk2 : k7 ≤ e0 := hk2
        have hs6 : (s6 = 1 ∧ e0 - b0 ≤ 10 ∧ n_small (g 0) b0 (k7 - b0)) ∨ (s6 = 0 ∧ ¬ (e0 - b0 ≤ 10 ∧ n_small (g 0) b0 (k7 - b0))) := hs6
        have hl : lv_has ls 8 [(7, .int (nI k7)), (6, .int s6), (5, .int x5), (4, .int x4), (0, .ref h), (1, .int (nI w)), (2, .int a9), (3, .int c9)] := hl
        have hP : va_P D xcl (moW h mm kA v g) H := hP
        have hD : va_D A (moW h mm kA v g) := hD
        refine lv_iload hx hb xd_Mo_says_136 (lv_at hl 0 rfl) ?_
        refine lv_aload_n hx hb xd_Mo_says_138 rfl (lv_at hl 4 rfl) ?_
        refine va_get (D := D) (ci := 4) (v := .ref (mm 2)) (C := xR_Mo) (T := xT_Mo) (N := 31) hx hb hT xi_Mo hown hK.1 hP 0 rfl rfl 6 (by decide) (hT _ k4a_1) (fun _ h9 => h9) rfl xd_Mo_says_139 ?_
        refine lv_iload_n hx hb xd_Mo_says_142 rfl (lv_at hl 5 rfl) ?_
        refine xn_iald (i := w) hx hb hK.1 hP 3 0 rfl rfl (by omega) (by decide) xd_Mo_says_143 ?_
        refine xn_top (x := (g 2 w)) (y := nI e0) he0 ?_
        refine xn_ge (a := k7) (b := e0) (tgt := 189) hx hb xd_Mo_says_144 (by decide) (by omega) (by omega) (fun hc15 => ?_) (fun hc15 => ?_)
        · refine lv_iload hx hb xd_Mo_says_189 (lv_at hl 1 rfl) ?_
          refine lv_if_eq (tgt := 210) hx hb xd_Mo_says_191 (by decide) (fun hc16 => ?_) (fun hc16 => ?_)
          · refine lv_iconst (v := 0) hx hb xd_Mo_says_210 (by decide) ?_
            exact W.zret (v := 0) hx hb hr rfl (fun t ht hW => ⟨⟨0, (), rfl, by
        have e1 : i = 5 := by omega
        have e2 : i2 - 5 = 5 := by omega
        have e3 : k7 = e0 := by omega
        rw [e1] at hx4
        rw [e2] at hx5
        rw [e3] at hs6
        rcases hs6 with ⟨q, q1, q2⟩ | ⟨q, q1⟩
        · exact absurd (q.symm.trans hc16) (by decide)
        · exact Or.inr ⟨rfl, fun z => q1 z.1⟩, by rw [ht]; exact hP, hD⟩, hS.F ht⟩) hS.2.2 xd_Mo_says_211
          · refine lv_iload hx hb xd_Mo_says_194 (lv_at hl 3 rfl) ?_
            refine lv_iload_n hx hb xd_Mo_says_196 rfl (lv_at hl 6 rfl) ?_
            refine lv_icmp_ne (tgt := 210) hx hb xd_Mo_says_197 (by decide) (fun hc17 => ?_) (fun hc17 => ?_)
            · refine lv_iconst (v := 0) hx hb xd_Mo_says_210 (by decide) ?_
              exact W.zret (v := 0) hx hb hr rfl (fun t ht hW => ⟨⟨0, (), rfl, by
        have e1 : i = 5 := by omega
        have e2 : i2 - 5 = 5 := by omega
        have e3 : k7 = e0 := by omega
        rw [e1] at hx4
        rw [e2] at hx5
        rw [e3] at hs6
        exact Or.inr ⟨rfl, fun z => hc17 (hx4.trans z.2.1)⟩, by rw [ht]; exact hP, hD⟩, hS.F ht⟩) hS.2.2 xd_Mo_says_211
            · refine lv_iload hx hb xd_Mo_says_200 (lv_at hl 2 rfl) ?_
              refine lv_iload_n hx hb xd_Mo_says_202 rfl (lv_at hl 7 rfl) ?_
              refine lv_icmp_ne (tgt := 210) hx hb xd_Mo_says_203 (by decide) (fun hc18 => ?_) (fun hc18 => ?_)
              · refine lv_iconst (v := 0) hx hb xd_Mo_says_210 (by decide) ?_
                exact W.zret (v := 0) hx hb hr rfl (fun t ht hW => ⟨⟨0, (), rfl, by
        have e1 : i = 5 := by omega
        have e2 : i2 - 5 = 5 := by omega
        have e3 : k7 = e0 := by omega
        rw [e1] at hx4
        rw [e2] at hx5
        rw [e3] at hs6
        exact Or.inr ⟨rfl, fun z => hc18 (hx5.trans z.2.2)⟩, by rw [ht]; exact hP, hD⟩, hS.F ht⟩) hS.2.2 xd_Mo_says_211
              · refine lv_iconst (v := 1) hx hb xd_Mo_says_206 (by decide) ?_
                refine lv_goto (tgt := 211) hx hb xd_Mo_says_207 (by decide) ?_
                exact W.zret (v := 1) hx hb hr rfl (fun t ht hW => ⟨⟨1, (), rfl, by
        have e1 : i = 5 := by omega
        have e2 : i2 - 5 = 5 := by omega
        have e3 : k7 = e0 := by omega
        rw [e1] at hx4
        rw [e2] at hx5
        rw [e3] at hs6
        rcases hs6 with ⟨q, q1, q2⟩ | ⟨q, q1⟩
        · exact Or.inl ⟨rfl, ⟨q1, q2⟩, hx4.symm.trans hc17, hx5.symm.trans hc18⟩
        · exact absurd q hc16, by rw [ht]; exact hP, hD⟩, hS.F ht⟩) hS.2.2 xd_Mo_says_211
        · refine lv_iload hx hb xd_Mo_says_147 (lv_at hl 1 rfl) ?_
          refine lv_if_eq (tgt := 180) hx hb xd_Mo_says_149 (by decide) (fun hc19 => ?_) (fun hc19 => ?_)
          · refine lv_iconst (v := 0) hx hb xd_Mo_says_180 (by decide) ?_
            refine lv_istore hx hb xd_Mo_says_181 hl (Nat.le_of_ble_eq_true rfl) rfl (fun ls hl => ?_)
            have hl : lv_has ls 8 [(6, .int 0), (7, .int (nI k7)), (5, .int x5), (4, .int x4), (0, .ref h), (1, .int (nI w)), (2, .int a9), (3, .int c9)] := hl
            refine lv_iinc (k := 1) (x := (nI k7)) (v := (nI (k7 + 1))) hx hb xd_Mo_says_183 hl rfl (xb_inc k7 1) (Nat.le_of_ble_eq_true rfl) rfl (fun ls hl => ?_)
            have hl : lv_has ls 8 [(7, .int (nI (k7 + 1))), (6, .int 0), (5, .int x5), (4, .int x4), (0, .ref h), (1, .int (nI w)), (2, .int a9), (3, .int c9)] := hl
            refine lv_goto (tgt := 136) hx hb xd_Mo_says_186 (by decide) ?_
            exact ih14 (k7 + 1, 0) _ _ _ (show e0 - (k7 + 1) < e0 - k7 by omega) (lv_sub hl [0, 1, 2, 3, 4, 5, 6, 7] rfl) hP hD hS ⟨(show b0 ≤ (k7 + 1) from by first | assumption | omega), (show (k7 + 1) ≤ e0 from by first | assumption | omega), (show (0 = 1 ∧ e0 - b0 ≤ 10 ∧ n_small (g 0) b0 ((k7 + 1) - b0)) ∨ (0 = 0 ∧ ¬ (e0 - b0 ≤ 10 ∧ n_small (g 0) b0 ((k7 + 1) - b0))) from by
        rcases hs6 with ⟨q, q1, q2⟩ | ⟨q, q1⟩
        · exact absurd (q.symm.trans hc19) (by decide)
        · exact Or.inr ⟨rfl, fun z => q1 ⟨z.1, (n_small_r.mp (by rw [← show k7 + 1 - b0 = k7 - b0 + 1 by omega]; exact z.2)).1⟩⟩)⟩
          · refine lv_aload_n hx hb xd_Mo_says_152 rfl (lv_at hl 4 rfl) ?_
            refine va_get (D := D) (ci := 4) (v := .ref (mm 0)) (C := xR_Mo) (T := xT_Mo) (N := 31) hx hb hT xi_Mo hown hK.1 hP 0 rfl rfl 2 (by decide) (hT _ k4a_2) (fun _ h9 => h9) rfl xd_Mo_says_153 ?_
            refine lv_iload hx hb xd_Mo_says_156 (lv_at hl 0 rfl) ?_
            refine xn_cald (i := k7) hx hb hK.1 hP 1 1 rfl rfl (by omega) (by decide) xd_Mo_says_158 ?_
            refine lv_bipush (v := 97) hx hb xd_Mo_says_159 (by decide) ?_
            refine lv_icmp_lt (tgt := 180) hx hb xd_Mo_says_161 (by decide) (fun hc20 => ?_) (fun hc20 => ?_)
            · refine lv_iconst (v := 0) hx hb xd_Mo_says_180 (by decide) ?_
              refine lv_istore hx hb xd_Mo_says_181 hl (Nat.le_of_ble_eq_true rfl) rfl (fun ls hl => ?_)
              have hl : lv_has ls 8 [(6, .int 0), (7, .int (nI k7)), (5, .int x5), (4, .int x4), (0, .ref h), (1, .int (nI w)), (2, .int a9), (3, .int c9)] := hl
              refine lv_iinc (k := 1) (x := (nI k7)) (v := (nI (k7 + 1))) hx hb xd_Mo_says_183 hl rfl (xb_inc k7 1) (Nat.le_of_ble_eq_true rfl) rfl (fun ls hl => ?_)
              have hl : lv_has ls 8 [(7, .int (nI (k7 + 1))), (6, .int 0), (5, .int x5), (4, .int x4), (0, .ref h), (1, .int (nI w)), (2, .int a9), (3, .int c9)] := hl
              refine lv_goto (tgt := 136) hx hb xd_Mo_says_186 (by decide) ?_
              exact ih14 (k7 + 1, 0) _ _ _ (show e0 - (k7 + 1) < e0 - k7 by omega) (lv_sub hl [0, 1, 2, 3, 4, 5, 6, 7] rfl) hP hD hS ⟨(show b0 ≤ (k7 + 1) from by first | assumption | omega), (show (k7 + 1) ≤ e0 from by first | assumption | omega), (show (0 = 1 ∧ e0 - b0 ≤ 10 ∧ n_small (g 0) b0 ((k7 + 1) - b0)) ∨ (0 = 0 ∧ ¬ (e0 - b0 ≤ 10 ∧ n_small (g 0) b0 ((k7 + 1) - b0))) from Or.inr ⟨rfl, fun z => (n_small_at z.2 (p := k7 - b0) (by omega)).1 (by rw [show b0 + (k7 - b0) = k7 by omega]; exact hc20)⟩)⟩
            · refine lv_aload_n hx hb xd_Mo_says_164 rfl (lv_at hl 4 rfl) ?_
              refine va_get (D := D) (ci := 4) (v := .ref (mm 0)) (C := xR_Mo) (T := xT_Mo) (N := 31) hx hb hT xi_Mo hown hK.1 hP 0 rfl rfl 2 (by decide) (hT _ k4a_2) (fun _ h9 => h9) rfl xd_Mo_says_165 ?_
              refine lv_iload hx hb xd_Mo_says_168 (lv_at hl 0 rfl) ?_
              refine xn_cald (i := k7) hx hb hK.1 hP 1 1 rfl rfl (by omega) (by decide) xd_Mo_says_170 ?_
              refine lv_bipush (v := 122) hx hb xd_Mo_says_171 (by decide) ?_
              refine lv_icmp_gt (tgt := 180) hx hb xd_Mo_says_173 (by decide) (fun hc21 => ?_) (fun hc21 => ?_)
              · refine lv_iconst (v := 0) hx hb xd_Mo_says_180 (by decide) ?_
                refine lv_istore hx hb xd_Mo_says_181 hl (Nat.le_of_ble_eq_true rfl) rfl (fun ls hl => ?_)
                have hl : lv_has ls 8 [(6, .int 0), (7, .int (nI k7)), (5, .int x5), (4, .int x4), (0, .ref h), (1, .int (nI w)), (2, .int a9), (3, .int c9)] := hl
                refine lv_iinc (k := 1) (x := (nI k7)) (v := (nI (k7 + 1))) hx hb xd_Mo_says_183 hl rfl (xb_inc k7 1) (Nat.le_of_ble_eq_true rfl) rfl (fun ls hl => ?_)
                have hl : lv_has ls 8 [(7, .int (nI (k7 + 1))), (6, .int 0), (5, .int x5), (4, .int x4), (0, .ref h), (1, .int (nI w)), (2, .int a9), (3, .int c9)] := hl
                refine lv_goto (tgt := 136) hx hb xd_Mo_says_186 (by decide) ?_
                exact ih14 (k7 + 1, 0) _ _ _ (show e0 - (k7 + 1) < e0 - k7 by omega) (lv_sub hl [0, 1, 2, 3, 4, 5, 6, 7] rfl) hP hD hS ⟨(show b0 ≤ (k7 + 1) from by first | assumption | omega), (show (k7 + 1) ≤ e0 from by first | assumption | omega), (show (0 = 1 ∧ e0 - b0 ≤ 10 ∧ n_small (g 0) b0 ((k7 + 1) - b0)) ∨ (0 = 0 ∧ ¬ (e0 - b0 ≤ 10 ∧ n_small (g 0) b0 ((k7 + 1) - b0))) from Or.inr ⟨rfl, fun z => (n_small_at z.2 (p := k7 - b0) (by omega)).2 (by rw [show b0 + (k7 - b0) = k7 by omega]; exact hc21)⟩)⟩
              · refine lv_iconst (v := 1) hx hb xd_Mo_says_176 (by decide) ?_
                refine lv_goto (tgt := 181) hx hb xd_Mo_says_177 (by decide) ?_
                refine lv_istore hx hb xd_Mo_says_181 hl (Nat.le_of_ble_eq_true rfl) rfl (fun ls hl => ?_)
                have hl : lv_has ls 8 [(6, .int 1), (7, .int (nI k7)), (5, .int x5), (4, .int x4), (0, .ref h), (1, .int (nI w)), (2, .int a9), (3, .int c9)] := hl
                refine lv_iinc (k := 1) (x := (nI k7)) (v := (nI (k7 + 1))) hx hb xd_Mo_says_183 hl rfl (xb_inc k7 1) (Nat.le_of_ble_eq_true rfl) rfl (fun ls hl => ?_)
                have hl : lv_has ls 8 [(7, .int (nI (k7 + 1))), (6, .int 1), (5, .int x5), (4, .int x4), (0, .ref h), (1, .int (nI w)), (2, .int a9), (3, .int c9)] := hl
                refine lv_goto (tgt := 136) hx hb xd_Mo_says_186 (by decide) ?_
                exact ih14 (k7 + 1, 1) _ _ _ (show e0 - (k7 + 1) < e0 - k7 by omega) (lv_sub hl [0, 1, 2, 3, 4, 5, 6, 7] rfl) hP hD hS ⟨(show b0 ≤ (k7 + 1) from by first | assumption | omega), (show (k7 + 1) ≤ e0 from by first | assumption | omega), (show (1 = 1 ∧ e0 - b0 ≤ 10 ∧ n_small (g 0) b0 ((k7 + 1) - b0)) ∨ (1 = 0 ∧ ¬ (e0 - b0 ≤ 10 ∧ n_small (g 0) b0 ((k7 + 1) - b0))) from by
        rcases hs6 with ⟨q, q1, q2⟩ | ⟨q, q1⟩
        · exact Or.inl ⟨rfl, q1, (by rw [show k7 + 1 - b0 = k7 - b0 + 1 by omega, n_small_r, show b0 + (k7 - b0) = k7 by omega]; exact ⟨q2, hc20, hc21⟩)⟩
        · exact absurd q hc19)⟩
    · refine lv_aload_n hx hb xd_Mo_says_64 rfl (lv_at hl 3 rfl) ?_
      refine lv_iload_n hx hb xd_Mo_says_65 rfl (lv_at hl 4 rfl) ?_
      refine lv_iload hx hb xd_Mo_says_66 (lv_at hl 0 rfl) ?_
      have hFc := va_free (wc := (moW h mm kA v g)) hD hS hA [0, 1, 2, 3, 4, 5, 6, 7, 8, 9, 10, 11, 12, 13, 14, 15, 16, 17, 18, 19, 20, 21, 22, 23, 24, 25] rfl
      refine va_calli (va_runV (As := [.int (nI w), .int (nI i2)]) (rest := []) ⟨hx, hb, hml, hown, hT⟩ (xc_Mo_letterX l D kA H.size h mm v g w b0 e0 i2 (by first | assumption | omega) (by first | assumption | omega) (by first | assumption | omega) (by first | assumption | omega) (by first | assumption | omega) (by first | assumption | omega) (by first | assumption | omega)) (cwV 2 hT (wT_V k4a_4 k4a_5 k4a_6 k4a_7 k4a_3) rfl rfl rfl (by decide +kernel) ⟨Nat.le_of_ble_eq_true rfl, Nat.le_of_ble_eq_true rfl⟩) (x_preV hK hP hD 0 rfl rfl) rfl rfl hl.1 rfl (lv_room (Nat.le_of_ble_eq_true rfl)) xd_Mo_says_68 ⟨Nat.le_of_ble_eq_true rfl, Nat.le_of_ble_eq_true rfl⟩) hS (fun q _ h => hFc q h) hFc (fun r22 u23 t H1 locs ht hvm hp24 hB hz1 hk1 hS => ?_)
      obtain ⟨hP1, hD1⟩ := hB
      rw [ht] at hP1
      have hD1 := hD1.weaken (fun _ _ _ h => hFc _ h)
      generalize H1 = H at hP1 hS ⊢
      have hP := hP1
      have hD := hD1
      have hP : va_P D xcl (moW h mm kA v g) H := hP
      have hD : va_D A (moW h mm kA v g) := hD
      have hp24 : r22 = sL (g 0) b0 e0 i2 := hp24
      subst hp24
      have hP : va_P D xcl (moW h mm kA v g) H := hP
      have hD : va_D A (moW h mm kA v g) := hD
      refine lv_if_ne (tgt := 79) hx hb xd_Mo_says_71 (by decide) (fun hc25 => ?_) (fun hc25 => ?_)
      · refine lv_bipush (v := 32) hx hb xd_Mo_says_79 (by decide) ?_
        refine lv_iload hx hb xd_Mo_says_81 (lv_at hl 1 rfl) ?_
        refine lv_imul hx hb xd_Mo_says_83 ?_
        refine lv_aload_n hx hb xd_Mo_says_84 rfl (lv_at hl 3 rfl) ?_
        refine lv_iload_n hx hb xd_Mo_says_85 rfl (lv_at hl 4 rfl) ?_
        refine lv_iload hx hb xd_Mo_says_86 (lv_at hl 0 rfl) ?_
        have hFc := va_free (wc := (moW h mm kA v g)) hD hS hA [0, 1, 2, 3, 4, 5, 6, 7, 8, 9, 10, 11, 12, 13, 14, 15, 16, 17, 18, 19, 20, 21, 22, 23, 24, 25] rfl
        refine va_calli (va_runV (As := [.int (nI w), .int (nI i2)]) (rest := [.int (32 * x5)]) ⟨hx, hb, hml, hown, hT⟩ (xc_Mo_letterX l D kA H.size h mm v g w b0 e0 i2 (by first | assumption | omega) (by first | assumption | omega) (by first | assumption | omega) (by first | assumption | omega) (by first | assumption | omega) (by first | assumption | omega) (by first | assumption | omega)) (cwV 2 hT (wT_V k4a_4 k4a_5 k4a_6 k4a_7 k4a_3) rfl rfl rfl (by decide +kernel) ⟨Nat.le_of_ble_eq_true rfl, Nat.le_of_ble_eq_true rfl⟩) (x_preV hK hP hD 0 rfl rfl) rfl rfl hl.1 rfl (lv_room (Nat.le_of_ble_eq_true rfl)) xd_Mo_says_88 ⟨Nat.le_of_ble_eq_true rfl, Nat.le_of_ble_eq_true rfl⟩) hS (fun q _ h => hFc q h) hFc (fun r26 u27 t H1 locs ht hvm hp28 hB hz1 hk1 hS => ?_)
        obtain ⟨hP1, hD1⟩ := hB
        rw [ht] at hP1
        have hD1 := hD1.weaken (fun _ _ _ h => hFc _ h)
        generalize H1 = H at hP1 hS ⊢
        have hP := hP1
        have hD := hD1
        have hP : va_P D xcl (moW h mm kA v g) H := hP
        have hD : va_D A (moW h mm kA v g) := hD
        have hp28 : r26 = sL (g 0) b0 e0 i2 := hp28
        subst hp28
        have hP : va_P D xcl (moW h mm kA v g) H := hP
        have hD : va_D A (moW h mm kA v g) := hD
        refine lv_bipush (v := 31) hx hb xd_Mo_says_91 (by decide) ?_
        refine lv_iand hx hb xd_Mo_says_93 ?_
        refine lv_iadd hx hb xd_Mo_says_94 ?_
        refine lv_istore hx hb xd_Mo_says_95 hl (Nat.le_of_ble_eq_true rfl) rfl (fun ls hl => ?_)
        have hl : lv_has ls 8 [(5, .int ((32 * x5) + ((sL (g 0) b0 e0 i2) &&& 31))), (6, .int (nI i2)), (4, .int x4), (0, .ref h), (1, .int (nI w)), (2, .int a9), (3, .int c9)] := hl
        refine lv_iinc (k := 1) (x := (nI i2)) (v := (nI (i2 + 1))) hx hb xd_Mo_says_97 hl rfl (xb_inc i2 1) (Nat.le_of_ble_eq_true rfl) rfl (fun ls hl => ?_)
        have hl : lv_has ls 8 [(6, .int (nI (i2 + 1))), (5, .int ((32 * x5) + ((sL (g 0) b0 e0 i2) &&& 31))), (4, .int x4), (0, .ref h), (1, .int (nI w)), (2, .int a9), (3, .int c9)] := hl
        refine lv_goto (tgt := 57) hx hb xd_Mo_says_100 (by decide) ?_
        exact ih3 (i2 + 1, ((32 * x5) + ((sL (g 0) b0 e0 i2) &&& 31))) _ _ _ (show 10 - (i2 + 1) < 10 - i2 by omega) (lv_sub hl [0, 1, 2, 3, 4, 5, 6] rfl) hP hD hS ⟨(show 5 ≤ (i2 + 1) from by first | assumption | omega), (show (i2 + 1) ≤ 10 from by first | assumption | omega), (show ((32 * x5) + ((sL (g 0) b0 e0 i2) &&& 31)) = sC (g 0) b0 e0 5 ((i2 + 1) - 5) from by rw [show i2 + 1 - 5 = i2 - 5 + 1 by omega, sC_n (by rw [show 5 + (i2 - 5) = i2 by omega]; exact hc25), hx5, show 5 + (i2 - 5) = i2 by omega])⟩
      · refine lv_iload hx hb xd_Mo_says_74 (lv_at hl 1 rfl) ?_
        refine lv_goto (tgt := 95) hx hb xd_Mo_says_76 (by decide) ?_
        refine lv_istore hx hb xd_Mo_says_95 hl (Nat.le_of_ble_eq_true rfl) rfl (fun ls hl => ?_)
        have hl : lv_has ls 8 [(5, .int x5), (6, .int (nI i2)), (4, .int x4), (0, .ref h), (1, .int (nI w)), (2, .int a9), (3, .int c9)] := hl
        refine lv_iinc (k := 1) (x := (nI i2)) (v := (nI (i2 + 1))) hx hb xd_Mo_says_97 hl rfl (xb_inc i2 1) (Nat.le_of_ble_eq_true rfl) rfl (fun ls hl => ?_)
        have hl : lv_has ls 8 [(6, .int (nI (i2 + 1))), (5, .int x5), (4, .int x4), (0, .ref h), (1, .int (nI w)), (2, .int a9), (3, .int c9)] := hl
        refine lv_goto (tgt := 57) hx hb xd_Mo_says_100 (by decide) ?_
        exact ih3 (i2 + 1, x5) _ _ _ (show 10 - (i2 + 1) < 10 - i2 by omega) (lv_sub hl [0, 1, 2, 3, 4, 5, 6] rfl) hP hD hS ⟨(show 5 ≤ (i2 + 1) from by first | assumption | omega), (show (i2 + 1) ≤ 10 from by first | assumption | omega), (show x5 = sC (g 0) b0 e0 5 ((i2 + 1) - 5) from by rw [show i2 + 1 - 5 = i2 - 5 + 1 by omega, sC_p (by rw [show 5 + (i2 - 5) = i2 by omega]; exact hc25)]; exact hx5)⟩
  · refine lv_aload_n hx hb xd_Mo_says_15 rfl (lv_at hl 3 rfl) ?_
    refine lv_iload_n hx hb xd_Mo_says_16 rfl (lv_at hl 4 rfl) ?_
    refine lv_iload hx hb xd_Mo_says_17 (lv_at hl 0 rfl) ?_
    have hFc := va_free (wc := (moW h mm kA v g)) hD hS hA [0, 1, 2, 3, 4, 5, 6, 7, 8, 9, 10, 11, 12, 13, 14, 15, 16, 17, 18, 19, 20, 21, 22, 23, 24, 25] rfl
    refine va_calli (va_runV (As := [.int (nI w), .int (nI i)]) (rest := []) ⟨hx, hb, hml, hown, hT⟩ (xc_Mo_letterX l D kA H.size h mm v g w b0 e0 i (by first | assumption | omega) (by first | assumption | omega) (by first | assumption | omega) (by first | assumption | omega) (by first | assumption | omega) (by first | assumption | omega) (by first | assumption | omega)) (cwV 2 hT (wT_V k4a_4 k4a_5 k4a_6 k4a_7 k4a_3) rfl rfl rfl (by decide +kernel) ⟨Nat.le_of_ble_eq_true rfl, Nat.le_of_ble_eq_true rfl⟩) (x_preV hK hP hD 0 rfl rfl) rfl rfl hl.1 rfl (lv_room (Nat.le_of_ble_eq_true rfl)) xd_Mo_says_19 ⟨Nat.le_of_ble_eq_true rfl, Nat.le_of_ble_eq_true rfl⟩) hS (fun q _ h => hFc q h) hFc (fun r29 u30 t H1 locs ht hvm hp31 hB hz1 hk1 hS => ?_)
    obtain ⟨hP1, hD1⟩ := hB
    rw [ht] at hP1
    have hD1 := hD1.weaken (fun _ _ _ h => hFc _ h)
    generalize H1 = H at hP1 hS ⊢
    have hP := hP1
    have hD := hD1
    have hP : va_P D xcl (moW h mm kA v g) H := hP
    have hD : va_D A (moW h mm kA v g) := hD
    have hp31 : r29 = sL (g 0) b0 e0 i := hp31
    subst hp31
    have hP : va_P D xcl (moW h mm kA v g) H := hP
    have hD : va_D A (moW h mm kA v g) := hD
    refine lv_if_ne (tgt := 30) hx hb xd_Mo_says_22 (by decide) (fun hc32 => ?_) (fun hc32 => ?_)
    · refine lv_bipush (v := 32) hx hb xd_Mo_says_30 (by decide) ?_
      refine lv_iload hx hb xd_Mo_says_32 (lv_at hl 1 rfl) ?_
      refine lv_imul hx hb xd_Mo_says_34 ?_
      refine lv_aload_n hx hb xd_Mo_says_35 rfl (lv_at hl 3 rfl) ?_
      refine lv_iload_n hx hb xd_Mo_says_36 rfl (lv_at hl 4 rfl) ?_
      refine lv_iload hx hb xd_Mo_says_37 (lv_at hl 0 rfl) ?_
      have hFc := va_free (wc := (moW h mm kA v g)) hD hS hA [0, 1, 2, 3, 4, 5, 6, 7, 8, 9, 10, 11, 12, 13, 14, 15, 16, 17, 18, 19, 20, 21, 22, 23, 24, 25] rfl
      refine va_calli (va_runV (As := [.int (nI w), .int (nI i)]) (rest := [.int (32 * x4)]) ⟨hx, hb, hml, hown, hT⟩ (xc_Mo_letterX l D kA H.size h mm v g w b0 e0 i (by first | assumption | omega) (by first | assumption | omega) (by first | assumption | omega) (by first | assumption | omega) (by first | assumption | omega) (by first | assumption | omega) (by first | assumption | omega)) (cwV 2 hT (wT_V k4a_4 k4a_5 k4a_6 k4a_7 k4a_3) rfl rfl rfl (by decide +kernel) ⟨Nat.le_of_ble_eq_true rfl, Nat.le_of_ble_eq_true rfl⟩) (x_preV hK hP hD 0 rfl rfl) rfl rfl hl.1 rfl (lv_room (Nat.le_of_ble_eq_true rfl)) xd_Mo_says_39 ⟨Nat.le_of_ble_eq_true rfl, Nat.le_of_ble_eq_true rfl⟩) hS (fun q _ h => hFc q h) hFc (fun r33 u34 t H1 locs ht hvm hp35 hB hz1 hk1 hS => ?_)
      obtain ⟨hP1, hD1⟩ := hB
      rw [ht] at hP1
      have hD1 := hD1.weaken (fun _ _ _ h => hFc _ h)
      generalize H1 = H at hP1 hS ⊢
      have hP := hP1
      have hD := hD1
      have hP : va_P D xcl (moW h mm kA v g) H := hP
      have hD : va_D A (moW h mm kA v g) := hD
      have hp35 : r33 = sL (g 0) b0 e0 i := hp35
      subst hp35
      have hP : va_P D xcl (moW h mm kA v g) H := hP
      have hD : va_D A (moW h mm kA v g) := hD
      refine lv_bipush (v := 31) hx hb xd_Mo_says_42 (by decide) ?_
      refine lv_iand hx hb xd_Mo_says_44 ?_
      refine lv_iadd hx hb xd_Mo_says_45 ?_
      refine lv_istore hx hb xd_Mo_says_46 hl (Nat.le_of_ble_eq_true rfl) rfl (fun ls hl => ?_)
      have hl : lv_has ls 8 [(4, .int ((32 * x4) + ((sL (g 0) b0 e0 i) &&& 31))), (6, .int (nI i)), (5, .int 0), (0, .ref h), (1, .int (nI w)), (2, .int a9), (3, .int c9)] := hl
      refine lv_iinc (k := 1) (x := (nI i)) (v := (nI (i + 1))) hx hb xd_Mo_says_48 hl rfl (xb_inc i 1) (Nat.le_of_ble_eq_true rfl) rfl (fun ls hl => ?_)
      have hl : lv_has ls 8 [(6, .int (nI (i + 1))), (4, .int ((32 * x4) + ((sL (g 0) b0 e0 i) &&& 31))), (5, .int 0), (0, .ref h), (1, .int (nI w)), (2, .int a9), (3, .int c9)] := hl
      refine lv_goto (tgt := 9) hx hb xd_Mo_says_51 (by decide) ?_
      exact ih1 (i + 1, ((32 * x4) + ((sL (g 0) b0 e0 i) &&& 31))) _ _ _ (show 5 - (i + 1) < 5 - i by omega) (lv_sub hl [0, 1, 2, 3, 4, 5, 6] rfl) hP hD hS ⟨(show (i + 1) ≤ 5 from by first | assumption | omega), (show ((32 * x4) + ((sL (g 0) b0 e0 i) &&& 31)) = sC (g 0) b0 e0 0 (i + 1) from by rw [sC_n (by rw [Nat.zero_add]; exact hc32), hx4, Nat.zero_add])⟩
    · refine lv_iload hx hb xd_Mo_says_25 (lv_at hl 1 rfl) ?_
      refine lv_goto (tgt := 46) hx hb xd_Mo_says_27 (by decide) ?_
      refine lv_istore hx hb xd_Mo_says_46 hl (Nat.le_of_ble_eq_true rfl) rfl (fun ls hl => ?_)
      have hl : lv_has ls 8 [(4, .int x4), (6, .int (nI i)), (5, .int 0), (0, .ref h), (1, .int (nI w)), (2, .int a9), (3, .int c9)] := hl
      refine lv_iinc (k := 1) (x := (nI i)) (v := (nI (i + 1))) hx hb xd_Mo_says_48 hl rfl (xb_inc i 1) (Nat.le_of_ble_eq_true rfl) rfl (fun ls hl => ?_)
      have hl : lv_has ls 8 [(6, .int (nI (i + 1))), (4, .int x4), (5, .int 0), (0, .ref h), (1, .int (nI w)), (2, .int a9), (3, .int c9)] := hl
      refine lv_goto (tgt := 9) hx hb xd_Mo_says_51 (by decide) ?_
      exact ih1 (i + 1, x4) _ _ _ (show 5 - (i + 1) < 5 - i by omega) (lv_sub hl [0, 1, 2, 3, 4, 5, 6] rfl) hP hD hS ⟨(show (i + 1) ≤ 5 from by first | assumption | omega), (show x4 = sC (g 0) b0 e0 0 (i + 1) from by rw [sC_p (by rw [Nat.zero_add]; exact hc32)]; exact hx4)⟩
set_option maxHeartbeats 4000000 in
set_option maxRecDepth 100000 in
theorem xc_Mo_codeX (l : Launch) (D : va_G) (kA : Nat → ClassId) (sz h : Nat) (mm : Nat → Nat) (v : Nat → Int32) (g : Nat → Nat → Int32) (c0 : Int32) (c1 : Int32) (c2 : Int32) (c3 : Int32) (c4 : Int32) : Met l xy_Mo_code (.code xy_Mo_code xb_Mo_code 6 (some .int) :: wT) { frames := 0, cells := 0, slots := 0, locals := 0 } (va_Pc [.int c0, .int c1, .int c2, .int c3, .int c4] (xPre D kA sz (moW h mm kA v g))) (va_Qi (fun (r : Int32) (u : Unit) => r = cdV c0 c1 c2 c3 c4) (fun (u : Unit) t => va_P D xcl (moW h mm kA v g) t.heap ∧ va_D (va_A (moW h mm kA v g) sz) (moW h mm kA v g)) (va_A (moW h mm kA v g) sz)) 0 0 (va_A (moW h mm kA v g) sz) := by
  refine Met.ofW (cc := xb_Mo_code) (maxL := 6) (ret := (some .int)) (by decide) rfl ?_
  intro p e s m args below meth c s₁ B hml hv
  obtain ⟨rfl, hsz, hP, hK, hD0⟩ := hv
  have hx := B.exec
  have hb := B.bytes
  have hr := B.returns
  have hT := x_hT B.pre
  have hown : s.vm.findClass xR_Mo = some m.cls := findClass_of_methodNamed B.named
  have hlocks := B.notSynchronized
  subst hsz
  have hD := hD0.self (sz := s.heap.size)
  generalize hAe : va_A (moW h mm kA v g) s.heap.size = A at hD ⊢
  have hA : ∀ q : Nat, s.heap.size ≤ q → A q := fun q h => by rw [← hAe]; exact Or.inr h
  have hS : va_S A s.heap s.heap [] := va_S.rf
  have hl := lv_entry ([.int c0, .int c1, .int c2, .int c3, .int c4]) (n := 6) (Nat.le_of_ble_eq_true rfl)
  rw [lg_entry_eq]
  generalize (lg_sl ([.int c0, .int c1, .int c2, .int c3, .int c4]) ++ List.replicate (6 - (lg_sl ([.int c0, .int c1, .int c2, .int c3, .int c4])).length) Slot.unset).toArray = ls at hl ⊢
  have hl : lv_has ls 6 [(0, .int c0), (1, .int c1), (2, .int c2), (3, .int c3), (4, .int c4)] := hl
  have hP : va_P D xcl (moW h mm kA v g) s.heap := hP
  refine lv_iload_n hx hb xd_Mo_code_0 rfl (lv_at hl 0 rfl) ?_
  refine lv_bipush (v := 96) hx hb xd_Mo_code_1 (by decide) ?_
  refine lv_isub hx hb xd_Mo_code_3 ?_
  refine lv_istore hx hb xd_Mo_code_4 hl (Nat.le_of_ble_eq_true rfl) rfl (fun ls hl => ?_)
  have hl : lv_has ls 6 [(5, .int (c0 - 96)), (0, .int c0), (1, .int c1), (2, .int c2), (3, .int c3), (4, .int c4)] := hl
  refine lv_iload_n hx hb xd_Mo_code_6 rfl (lv_at hl 2 rfl) ?_
  refine lv_if_ne (tgt := 15) hx hb xd_Mo_code_7 (by decide) (fun hc1 => ?_) (fun hc1 => ?_)
  · refine lv_bipush (v := 32) hx hb xd_Mo_code_15 (by decide) ?_
    refine lv_iload hx hb xd_Mo_code_17 (lv_at hl 0 rfl) ?_
    refine lv_imul hx hb xd_Mo_code_19 ?_
    refine lv_iload_n hx hb xd_Mo_code_20 rfl (lv_at hl 2 rfl) ?_
    refine lv_iadd hx hb xd_Mo_code_21 ?_
    refine lv_bipush (v := 96) hx hb xd_Mo_code_22 (by decide) ?_
    refine lv_isub hx hb xd_Mo_code_24 ?_
    refine lv_istore hx hb xd_Mo_code_25 hl (Nat.le_of_ble_eq_true rfl) rfl (fun ls hl => ?_)
    have hl : lv_has ls 6 [(5, .int (((32 * (c0 - 96)) + c1) - 96)), (0, .int c0), (1, .int c1), (2, .int c2), (3, .int c3), (4, .int c4)] := hl
    refine lv_iload_n hx hb xd_Mo_code_27 rfl (lv_at hl 3 rfl) ?_
    refine lv_if_ne (tgt := 36) hx hb xd_Mo_code_28 (by decide) (fun hc2 => ?_) (fun hc2 => ?_)
    · refine lv_bipush (v := 32) hx hb xd_Mo_code_36 (by decide) ?_
      refine lv_iload hx hb xd_Mo_code_38 (lv_at hl 0 rfl) ?_
      refine lv_imul hx hb xd_Mo_code_40 ?_
      refine lv_iload_n hx hb xd_Mo_code_41 rfl (lv_at hl 3 rfl) ?_
      refine lv_iadd hx hb xd_Mo_code_42 ?_
      refine lv_bipush (v := 96) hx hb xd_Mo_code_43 (by decide) ?_
      refine lv_isub hx hb xd_Mo_code_45 ?_
      refine lv_istore hx hb xd_Mo_code_46 hl (Nat.le_of_ble_eq_true rfl) rfl (fun ls hl => ?_)
      have hl : lv_has ls 6 [(5, .int (((32 * (((32 * (c0 - 96)) + c1) - 96)) + c2) - 96)), (0, .int c0), (1, .int c1), (2, .int c2), (3, .int c3), (4, .int c4)] := hl
      refine lv_iload_n hx hb xd_Mo_code_48 rfl (lv_at hl 4 rfl) ?_
      refine lv_if_ne (tgt := 57) hx hb xd_Mo_code_49 (by decide) (fun hc3 => ?_) (fun hc3 => ?_)
      · refine lv_bipush (v := 32) hx hb xd_Mo_code_57 (by decide) ?_
        refine lv_iload hx hb xd_Mo_code_59 (lv_at hl 0 rfl) ?_
        refine lv_imul hx hb xd_Mo_code_61 ?_
        refine lv_iload_n hx hb xd_Mo_code_62 rfl (lv_at hl 4 rfl) ?_
        refine lv_iadd hx hb xd_Mo_code_63 ?_
        refine lv_bipush (v := 96) hx hb xd_Mo_code_64 (by decide) ?_
        refine lv_isub hx hb xd_Mo_code_66 ?_
        refine lv_istore hx hb xd_Mo_code_67 hl (Nat.le_of_ble_eq_true rfl) rfl (fun ls hl => ?_)
        have hl : lv_has ls 6 [(5, .int (((32 * (((32 * (((32 * (c0 - 96)) + c1) - 96)) + c2) - 96)) + c3) - 96)), (0, .int c0), (1, .int c1), (2, .int c2), (3, .int c3), (4, .int c4)] := hl
        refine lv_iload hx hb xd_Mo_code_69 (lv_at hl 5 rfl) ?_
        refine lv_if_ne (tgt := 79) hx hb xd_Mo_code_71 (by decide) (fun hc4 => ?_) (fun hc4 => ?_)
        · refine lv_bipush (v := 32) hx hb xd_Mo_code_79 (by decide) ?_
          refine lv_iload hx hb xd_Mo_code_81 (lv_at hl 0 rfl) ?_
          refine lv_imul hx hb xd_Mo_code_83 ?_
          refine lv_iload hx hb xd_Mo_code_84 (lv_at hl 5 rfl) ?_
          refine lv_iadd hx hb xd_Mo_code_86 ?_
          refine lv_bipush (v := 96) hx hb xd_Mo_code_87 (by decide) ?_
          refine lv_isub hx hb xd_Mo_code_89 ?_
          exact W.iret (v := (((32 * (((32 * (((32 * (((32 * (c0 - 96)) + c1) - 96)) + c2) - 96)) + c3) - 96)) + c4) - 96)) hx hb hr (fun t ht hW => ⟨⟨(((32 * (((32 * (((32 * (((32 * (c0 - 96)) + c1) - 96)) + c2) - 96)) + c3) - 96)) + c4) - 96), (), rfl, (by unfold cdV; rw [cd1_n hc1, cd1_n hc2, cd1_n hc3, cd1_n hc4]), by rw [ht]; exact hP, hD⟩, hS.F ht⟩) hS.2.2 xd_Mo_code_90
        · refine lv_iload hx hb xd_Mo_code_74 (lv_at hl 0 rfl) ?_
          refine lv_goto (tgt := 90) hx hb xd_Mo_code_76 (by decide) ?_
          exact W.iret (v := (((32 * (((32 * (((32 * (c0 - 96)) + c1) - 96)) + c2) - 96)) + c3) - 96)) hx hb hr (fun t ht hW => ⟨⟨(((32 * (((32 * (((32 * (c0 - 96)) + c1) - 96)) + c2) - 96)) + c3) - 96), (), rfl, (by unfold cdV; rw [cd1_n hc1, cd1_n hc2, cd1_n hc3, cd1_p hc4]), by rw [ht]; exact hP, hD⟩, hS.F ht⟩) hS.2.2 xd_Mo_code_90
      · refine lv_iload hx hb xd_Mo_code_52 (lv_at hl 0 rfl) ?_
        refine lv_goto (tgt := 67) hx hb xd_Mo_code_54 (by decide) ?_
        refine lv_istore hx hb xd_Mo_code_67 hl (Nat.le_of_ble_eq_true rfl) rfl (fun ls hl => ?_)
        have hl : lv_has ls 6 [(5, .int (((32 * (((32 * (c0 - 96)) + c1) - 96)) + c2) - 96)), (0, .int c0), (1, .int c1), (2, .int c2), (3, .int c3), (4, .int c4)] := hl
        refine lv_iload hx hb xd_Mo_code_69 (lv_at hl 5 rfl) ?_
        refine lv_if_ne (tgt := 79) hx hb xd_Mo_code_71 (by decide) (fun hc5 => ?_) (fun hc5 => ?_)
        · refine lv_bipush (v := 32) hx hb xd_Mo_code_79 (by decide) ?_
          refine lv_iload hx hb xd_Mo_code_81 (lv_at hl 0 rfl) ?_
          refine lv_imul hx hb xd_Mo_code_83 ?_
          refine lv_iload hx hb xd_Mo_code_84 (lv_at hl 5 rfl) ?_
          refine lv_iadd hx hb xd_Mo_code_86 ?_
          refine lv_bipush (v := 96) hx hb xd_Mo_code_87 (by decide) ?_
          refine lv_isub hx hb xd_Mo_code_89 ?_
          exact W.iret (v := (((32 * (((32 * (((32 * (c0 - 96)) + c1) - 96)) + c2) - 96)) + c4) - 96)) hx hb hr (fun t ht hW => ⟨⟨(((32 * (((32 * (((32 * (c0 - 96)) + c1) - 96)) + c2) - 96)) + c4) - 96), (), rfl, (by unfold cdV; rw [cd1_n hc1, cd1_n hc2, cd1_p hc3, cd1_n hc5]), by rw [ht]; exact hP, hD⟩, hS.F ht⟩) hS.2.2 xd_Mo_code_90
        · refine lv_iload hx hb xd_Mo_code_74 (lv_at hl 0 rfl) ?_
          refine lv_goto (tgt := 90) hx hb xd_Mo_code_76 (by decide) ?_
          exact W.iret (v := (((32 * (((32 * (c0 - 96)) + c1) - 96)) + c2) - 96)) hx hb hr (fun t ht hW => ⟨⟨(((32 * (((32 * (c0 - 96)) + c1) - 96)) + c2) - 96), (), rfl, (by unfold cdV; rw [cd1_n hc1, cd1_n hc2, cd1_p hc3, cd1_p hc5]), by rw [ht]; exact hP, hD⟩, hS.F ht⟩) hS.2.2 xd_Mo_code_90
    · refine lv_iload hx hb xd_Mo_code_31 (lv_at hl 0 rfl) ?_
      refine lv_goto (tgt := 46) hx hb xd_Mo_code_33 (by decide) ?_
      refine lv_istore hx hb xd_Mo_code_46 hl (Nat.le_of_ble_eq_true rfl) rfl (fun ls hl => ?_)
      have hl : lv_has ls 6 [(5, .int (((32 * (c0 - 96)) + c1) - 96)), (0, .int c0), (1, .int c1), (2, .int c2), (3, .int c3), (4, .int c4)] := hl
      refine lv_iload_n hx hb xd_Mo_code_48 rfl (lv_at hl 4 rfl) ?_
      refine lv_if_ne (tgt := 57) hx hb xd_Mo_code_49 (by decide) (fun hc6 => ?_) (fun hc6 => ?_)
      · refine lv_bipush (v := 32) hx hb xd_Mo_code_57 (by decide) ?_
        refine lv_iload hx hb xd_Mo_code_59 (lv_at hl 0 rfl) ?_
        refine lv_imul hx hb xd_Mo_code_61 ?_
        refine lv_iload_n hx hb xd_Mo_code_62 rfl (lv_at hl 4 rfl) ?_
        refine lv_iadd hx hb xd_Mo_code_63 ?_
        refine lv_bipush (v := 96) hx hb xd_Mo_code_64 (by decide) ?_
        refine lv_isub hx hb xd_Mo_code_66 ?_
        refine lv_istore hx hb xd_Mo_code_67 hl (Nat.le_of_ble_eq_true rfl) rfl (fun ls hl => ?_)
        have hl : lv_has ls 6 [(5, .int (((32 * (((32 * (c0 - 96)) + c1) - 96)) + c3) - 96)), (0, .int c0), (1, .int c1), (2, .int c2), (3, .int c3), (4, .int c4)] := hl
        refine lv_iload hx hb xd_Mo_code_69 (lv_at hl 5 rfl) ?_
        refine lv_if_ne (tgt := 79) hx hb xd_Mo_code_71 (by decide) (fun hc7 => ?_) (fun hc7 => ?_)
        · refine lv_bipush (v := 32) hx hb xd_Mo_code_79 (by decide) ?_
          refine lv_iload hx hb xd_Mo_code_81 (lv_at hl 0 rfl) ?_
          refine lv_imul hx hb xd_Mo_code_83 ?_
          refine lv_iload hx hb xd_Mo_code_84 (lv_at hl 5 rfl) ?_
          refine lv_iadd hx hb xd_Mo_code_86 ?_
          refine lv_bipush (v := 96) hx hb xd_Mo_code_87 (by decide) ?_
          refine lv_isub hx hb xd_Mo_code_89 ?_
          exact W.iret (v := (((32 * (((32 * (((32 * (c0 - 96)) + c1) - 96)) + c3) - 96)) + c4) - 96)) hx hb hr (fun t ht hW => ⟨⟨(((32 * (((32 * (((32 * (c0 - 96)) + c1) - 96)) + c3) - 96)) + c4) - 96), (), rfl, (by unfold cdV; rw [cd1_n hc1, cd1_p hc2, cd1_n hc6, cd1_n hc7]), by rw [ht]; exact hP, hD⟩, hS.F ht⟩) hS.2.2 xd_Mo_code_90
        · refine lv_iload hx hb xd_Mo_code_74 (lv_at hl 0 rfl) ?_
          refine lv_goto (tgt := 90) hx hb xd_Mo_code_76 (by decide) ?_
          exact W.iret (v := (((32 * (((32 * (c0 - 96)) + c1) - 96)) + c3) - 96)) hx hb hr (fun t ht hW => ⟨⟨(((32 * (((32 * (c0 - 96)) + c1) - 96)) + c3) - 96), (), rfl, (by unfold cdV; rw [cd1_n hc1, cd1_p hc2, cd1_n hc6, cd1_p hc7]), by rw [ht]; exact hP, hD⟩, hS.F ht⟩) hS.2.2 xd_Mo_code_90
      · refine lv_iload hx hb xd_Mo_code_52 (lv_at hl 0 rfl) ?_
        refine lv_goto (tgt := 67) hx hb xd_Mo_code_54 (by decide) ?_
        refine lv_istore hx hb xd_Mo_code_67 hl (Nat.le_of_ble_eq_true rfl) rfl (fun ls hl => ?_)
        have hl : lv_has ls 6 [(5, .int (((32 * (c0 - 96)) + c1) - 96)), (0, .int c0), (1, .int c1), (2, .int c2), (3, .int c3), (4, .int c4)] := hl
        refine lv_iload hx hb xd_Mo_code_69 (lv_at hl 5 rfl) ?_
        refine lv_if_ne (tgt := 79) hx hb xd_Mo_code_71 (by decide) (fun hc8 => ?_) (fun hc8 => ?_)
        · refine lv_bipush (v := 32) hx hb xd_Mo_code_79 (by decide) ?_
          refine lv_iload hx hb xd_Mo_code_81 (lv_at hl 0 rfl) ?_
          refine lv_imul hx hb xd_Mo_code_83 ?_
          refine lv_iload hx hb xd_Mo_code_84 (lv_at hl 5 rfl) ?_
          refine lv_iadd hx hb xd_Mo_code_86 ?_
          refine lv_bipush (v := 96) hx hb xd_Mo_code_87 (by decide) ?_
          refine lv_isub hx hb xd_Mo_code_89 ?_
          exact W.iret (v := (((32 * (((32 * (c0 - 96)) + c1) - 96)) + c4) - 96)) hx hb hr (fun t ht hW => ⟨⟨(((32 * (((32 * (c0 - 96)) + c1) - 96)) + c4) - 96), (), rfl, (by unfold cdV; rw [cd1_n hc1, cd1_p hc2, cd1_p hc6, cd1_n hc8]), by rw [ht]; exact hP, hD⟩, hS.F ht⟩) hS.2.2 xd_Mo_code_90
        · refine lv_iload hx hb xd_Mo_code_74 (lv_at hl 0 rfl) ?_
          refine lv_goto (tgt := 90) hx hb xd_Mo_code_76 (by decide) ?_
          exact W.iret (v := (((32 * (c0 - 96)) + c1) - 96)) hx hb hr (fun t ht hW => ⟨⟨(((32 * (c0 - 96)) + c1) - 96), (), rfl, (by unfold cdV; rw [cd1_n hc1, cd1_p hc2, cd1_p hc6, cd1_p hc8]), by rw [ht]; exact hP, hD⟩, hS.F ht⟩) hS.2.2 xd_Mo_code_90
  · refine lv_iload hx hb xd_Mo_code_10 (lv_at hl 0 rfl) ?_
    refine lv_goto (tgt := 25) hx hb xd_Mo_code_12 (by decide) ?_
    refine lv_istore hx hb xd_Mo_code_25 hl (Nat.le_of_ble_eq_true rfl) rfl (fun ls hl => ?_)
    have hl : lv_has ls 6 [(5, .int (c0 - 96)), (0, .int c0), (1, .int c1), (2, .int c2), (3, .int c3), (4, .int c4)] := hl
    refine lv_iload_n hx hb xd_Mo_code_27 rfl (lv_at hl 3 rfl) ?_
    refine lv_if_ne (tgt := 36) hx hb xd_Mo_code_28 (by decide) (fun hc9 => ?_) (fun hc9 => ?_)
    · refine lv_bipush (v := 32) hx hb xd_Mo_code_36 (by decide) ?_
      refine lv_iload hx hb xd_Mo_code_38 (lv_at hl 0 rfl) ?_
      refine lv_imul hx hb xd_Mo_code_40 ?_
      refine lv_iload_n hx hb xd_Mo_code_41 rfl (lv_at hl 3 rfl) ?_
      refine lv_iadd hx hb xd_Mo_code_42 ?_
      refine lv_bipush (v := 96) hx hb xd_Mo_code_43 (by decide) ?_
      refine lv_isub hx hb xd_Mo_code_45 ?_
      refine lv_istore hx hb xd_Mo_code_46 hl (Nat.le_of_ble_eq_true rfl) rfl (fun ls hl => ?_)
      have hl : lv_has ls 6 [(5, .int (((32 * (c0 - 96)) + c2) - 96)), (0, .int c0), (1, .int c1), (2, .int c2), (3, .int c3), (4, .int c4)] := hl
      refine lv_iload_n hx hb xd_Mo_code_48 rfl (lv_at hl 4 rfl) ?_
      refine lv_if_ne (tgt := 57) hx hb xd_Mo_code_49 (by decide) (fun hc10 => ?_) (fun hc10 => ?_)
      · refine lv_bipush (v := 32) hx hb xd_Mo_code_57 (by decide) ?_
        refine lv_iload hx hb xd_Mo_code_59 (lv_at hl 0 rfl) ?_
        refine lv_imul hx hb xd_Mo_code_61 ?_
        refine lv_iload_n hx hb xd_Mo_code_62 rfl (lv_at hl 4 rfl) ?_
        refine lv_iadd hx hb xd_Mo_code_63 ?_
        refine lv_bipush (v := 96) hx hb xd_Mo_code_64 (by decide) ?_
        refine lv_isub hx hb xd_Mo_code_66 ?_
        refine lv_istore hx hb xd_Mo_code_67 hl (Nat.le_of_ble_eq_true rfl) rfl (fun ls hl => ?_)
        have hl : lv_has ls 6 [(5, .int (((32 * (((32 * (c0 - 96)) + c2) - 96)) + c3) - 96)), (0, .int c0), (1, .int c1), (2, .int c2), (3, .int c3), (4, .int c4)] := hl
        refine lv_iload hx hb xd_Mo_code_69 (lv_at hl 5 rfl) ?_
        refine lv_if_ne (tgt := 79) hx hb xd_Mo_code_71 (by decide) (fun hc11 => ?_) (fun hc11 => ?_)
        · refine lv_bipush (v := 32) hx hb xd_Mo_code_79 (by decide) ?_
          refine lv_iload hx hb xd_Mo_code_81 (lv_at hl 0 rfl) ?_
          refine lv_imul hx hb xd_Mo_code_83 ?_
          refine lv_iload hx hb xd_Mo_code_84 (lv_at hl 5 rfl) ?_
          refine lv_iadd hx hb xd_Mo_code_86 ?_
          refine lv_bipush (v := 96) hx hb xd_Mo_code_87 (by decide) ?_
          refine lv_isub hx hb xd_Mo_code_89 ?_
          exact W.iret (v := (((32 * (((32 * (((32 * (c0 - 96)) + c2) - 96)) + c3) - 96)) + c4) - 96)) hx hb hr (fun t ht hW => ⟨⟨(((32 * (((32 * (((32 * (c0 - 96)) + c2) - 96)) + c3) - 96)) + c4) - 96), (), rfl, (by unfold cdV; rw [cd1_p hc1, cd1_n hc9, cd1_n hc10, cd1_n hc11]), by rw [ht]; exact hP, hD⟩, hS.F ht⟩) hS.2.2 xd_Mo_code_90
        · refine lv_iload hx hb xd_Mo_code_74 (lv_at hl 0 rfl) ?_
          refine lv_goto (tgt := 90) hx hb xd_Mo_code_76 (by decide) ?_
          exact W.iret (v := (((32 * (((32 * (c0 - 96)) + c2) - 96)) + c3) - 96)) hx hb hr (fun t ht hW => ⟨⟨(((32 * (((32 * (c0 - 96)) + c2) - 96)) + c3) - 96), (), rfl, (by unfold cdV; rw [cd1_p hc1, cd1_n hc9, cd1_n hc10, cd1_p hc11]), by rw [ht]; exact hP, hD⟩, hS.F ht⟩) hS.2.2 xd_Mo_code_90
      · refine lv_iload hx hb xd_Mo_code_52 (lv_at hl 0 rfl) ?_
        refine lv_goto (tgt := 67) hx hb xd_Mo_code_54 (by decide) ?_
        refine lv_istore hx hb xd_Mo_code_67 hl (Nat.le_of_ble_eq_true rfl) rfl (fun ls hl => ?_)
        have hl : lv_has ls 6 [(5, .int (((32 * (c0 - 96)) + c2) - 96)), (0, .int c0), (1, .int c1), (2, .int c2), (3, .int c3), (4, .int c4)] := hl
        refine lv_iload hx hb xd_Mo_code_69 (lv_at hl 5 rfl) ?_
        refine lv_if_ne (tgt := 79) hx hb xd_Mo_code_71 (by decide) (fun hc12 => ?_) (fun hc12 => ?_)
        · refine lv_bipush (v := 32) hx hb xd_Mo_code_79 (by decide) ?_
          refine lv_iload hx hb xd_Mo_code_81 (lv_at hl 0 rfl) ?_
          refine lv_imul hx hb xd_Mo_code_83 ?_
          refine lv_iload hx hb xd_Mo_code_84 (lv_at hl 5 rfl) ?_
          refine lv_iadd hx hb xd_Mo_code_86 ?_
          refine lv_bipush (v := 96) hx hb xd_Mo_code_87 (by decide) ?_
          refine lv_isub hx hb xd_Mo_code_89 ?_
          exact W.iret (v := (((32 * (((32 * (c0 - 96)) + c2) - 96)) + c4) - 96)) hx hb hr (fun t ht hW => ⟨⟨(((32 * (((32 * (c0 - 96)) + c2) - 96)) + c4) - 96), (), rfl, (by unfold cdV; rw [cd1_p hc1, cd1_n hc9, cd1_p hc10, cd1_n hc12]), by rw [ht]; exact hP, hD⟩, hS.F ht⟩) hS.2.2 xd_Mo_code_90
        · refine lv_iload hx hb xd_Mo_code_74 (lv_at hl 0 rfl) ?_
          refine lv_goto (tgt := 90) hx hb xd_Mo_code_76 (by decide) ?_
          exact W.iret (v := (((32 * (c0 - 96)) + c2) - 96)) hx hb hr (fun t ht hW => ⟨⟨(((32 * (c0 - 96)) + c2) - 96), (), rfl, (by unfold cdV; rw [cd1_p hc1, cd1_n hc9, cd1_p hc10, cd1_p hc12]), by rw [ht]; exact hP, hD⟩, hS.F ht⟩) hS.2.2 xd_Mo_code_90
    · refine lv_iload hx hb xd_Mo_code_31 (lv_at hl 0 rfl) ?_
      refine lv_goto (tgt := 46) hx hb xd_Mo_code_33 (by decide) ?_
      refine lv_istore hx hb xd_Mo_code_46 hl (Nat.le_of_ble_eq_true rfl) rfl (fun ls hl => ?_)
      have hl : lv_has ls 6 [(5, .int (c0 - 96)), (0, .int c0), (1, .int c1), (2, .int c2), (3, .int c3), (4, .int c4)] := hl
      refine lv_iload_n hx hb xd_Mo_code_48 rfl (lv_at hl 4 rfl) ?_
      refine lv_if_ne (tgt := 57) hx hb xd_Mo_code_49 (by decide) (fun hc13 => ?_) (fun hc13 => ?_)
      · refine lv_bipush (v := 32) hx hb xd_Mo_code_57 (by decide) ?_
        refine lv_iload hx hb xd_Mo_code_59 (lv_at hl 0 rfl) ?_
        refine lv_imul hx hb xd_Mo_code_61 ?_
        refine lv_iload_n hx hb xd_Mo_code_62 rfl (lv_at hl 4 rfl) ?_
        refine lv_iadd hx hb xd_Mo_code_63 ?_
        refine lv_bipush (v := 96) hx hb xd_Mo_code_64 (by decide) ?_
        refine lv_isub hx hb xd_Mo_code_66 ?_
        refine lv_istore hx hb xd_Mo_code_67 hl (Nat.le_of_ble_eq_true rfl) rfl (fun ls hl => ?_)
        have hl : lv_has ls 6 [(5, .int (((32 * (c0 - 96)) + c3) - 96)), (0, .int c0), (1, .int c1), (2, .int c2), (3, .int c3), (4, .int c4)] := hl
        refine lv_iload hx hb xd_Mo_code_69 (lv_at hl 5 rfl) ?_
        refine lv_if_ne (tgt := 79) hx hb xd_Mo_code_71 (by decide) (fun hc14 => ?_) (fun hc14 => ?_)
        · refine lv_bipush (v := 32) hx hb xd_Mo_code_79 (by decide) ?_
          refine lv_iload hx hb xd_Mo_code_81 (lv_at hl 0 rfl) ?_
          refine lv_imul hx hb xd_Mo_code_83 ?_
          refine lv_iload hx hb xd_Mo_code_84 (lv_at hl 5 rfl) ?_
          refine lv_iadd hx hb xd_Mo_code_86 ?_
          refine lv_bipush (v := 96) hx hb xd_Mo_code_87 (by decide) ?_
          refine lv_isub hx hb xd_Mo_code_89 ?_
          exact W.iret (v := (((32 * (((32 * (c0 - 96)) + c3) - 96)) + c4) - 96)) hx hb hr (fun t ht hW => ⟨⟨(((32 * (((32 * (c0 - 96)) + c3) - 96)) + c4) - 96), (), rfl, (by unfold cdV; rw [cd1_p hc1, cd1_p hc9, cd1_n hc13, cd1_n hc14]), by rw [ht]; exact hP, hD⟩, hS.F ht⟩) hS.2.2 xd_Mo_code_90
        · refine lv_iload hx hb xd_Mo_code_74 (lv_at hl 0 rfl) ?_
          refine lv_goto (tgt := 90) hx hb xd_Mo_code_76 (by decide) ?_
          exact W.iret (v := (((32 * (c0 - 96)) + c3) - 96)) hx hb hr (fun t ht hW => ⟨⟨(((32 * (c0 - 96)) + c3) - 96), (), rfl, (by unfold cdV; rw [cd1_p hc1, cd1_p hc9, cd1_n hc13, cd1_p hc14]), by rw [ht]; exact hP, hD⟩, hS.F ht⟩) hS.2.2 xd_Mo_code_90
      · refine lv_iload hx hb xd_Mo_code_52 (lv_at hl 0 rfl) ?_
        refine lv_goto (tgt := 67) hx hb xd_Mo_code_54 (by decide) ?_
        refine lv_istore hx hb xd_Mo_code_67 hl (Nat.le_of_ble_eq_true rfl) rfl (fun ls hl => ?_)
        have hl : lv_has ls 6 [(5, .int (c0 - 96)), (0, .int c0), (1, .int c1), (2, .int c2), (3, .int c3), (4, .int c4)] := hl
        refine lv_iload hx hb xd_Mo_code_69 (lv_at hl 5 rfl) ?_
        refine lv_if_ne (tgt := 79) hx hb xd_Mo_code_71 (by decide) (fun hc15 => ?_) (fun hc15 => ?_)
        · refine lv_bipush (v := 32) hx hb xd_Mo_code_79 (by decide) ?_
          refine lv_iload hx hb xd_Mo_code_81 (lv_at hl 0 rfl) ?_
          refine lv_imul hx hb xd_Mo_code_83 ?_
          refine lv_iload hx hb xd_Mo_code_84 (lv_at hl 5 rfl) ?_
          refine lv_iadd hx hb xd_Mo_code_86 ?_
          refine lv_bipush (v := 96) hx hb xd_Mo_code_87 (by decide) ?_
          refine lv_isub hx hb xd_Mo_code_89 ?_
          exact W.iret (v := (((32 * (c0 - 96)) + c4) - 96)) hx hb hr (fun t ht hW => ⟨⟨(((32 * (c0 - 96)) + c4) - 96), (), rfl, (by unfold cdV; rw [cd1_p hc1, cd1_p hc9, cd1_p hc13, cd1_n hc15]), by rw [ht]; exact hP, hD⟩, hS.F ht⟩) hS.2.2 xd_Mo_code_90
        · refine lv_iload hx hb xd_Mo_code_74 (lv_at hl 0 rfl) ?_
          refine lv_goto (tgt := 90) hx hb xd_Mo_code_76 (by decide) ?_
          exact W.iret (v := (c0 - 96)) hx hb hr (fun t ht hW => ⟨⟨(c0 - 96), (), rfl, (by unfold cdV; rw [cd1_p hc1, cd1_p hc9, cd1_p hc13, cd1_p hc15]), by rw [ht]; exact hP, hD⟩, hS.F ht⟩) hS.2.2 xd_Mo_code_90
set_option maxHeartbeats 4000000 in
set_option maxRecDepth 100000 in
theorem xc_Mo_splitX (l : Launch) (D : va_G) (kA : Nat → ClassId) (sz h : Nat) (mm : Nat → Nat) (v : Nat → Int32) (g : Nat → Nat → Int32) (wr : Nat) (hwr : v 2 = nI wr) (hwr40 : wr ≤ 40) : Met l xy_Mo_split (.code xy_Mo_split xb_Mo_split 2 none :: wT) { frames := 0, cells := 0, slots := 0, locals := 0 } (va_Pc [.ref h] (xPre D kA sz (moW h mm kA v g))) (va_Qv (fun (u : (Nat → Int32) × (Nat → Nat → Int32)) => u.1 = va_up (va_up v 2 0) 3 (nI (w_all (g 0) wr).length) ∧ (∀ j, j ≠ 1 → j ≠ 2 → u.2 j = g j) ∧ fT g (u.2 1) (u.2 2) (w_all (g 0) wr)) (fun (u : (Nat → Int32) × (Nat → Nat → Int32)) t => va_P D xcl (moW h mm kA u.1 u.2) t.heap ∧ va_D (va_A (moW h mm kA v g) sz) (moW h mm kA u.1 u.2)) (va_A (moW h mm kA v g) sz)) 0 0 (va_A (moW h mm kA v g) sz) := by
  refine Met.ofW (cc := xb_Mo_split) (maxL := 2) (ret := none) (by decide) rfl ?_
  intro p e s m args below meth c s₁ B hml hv
  obtain ⟨rfl, hsz, hP, hK, hD0⟩ := hv
  have hx := B.exec
  have hb := B.bytes
  have hr := B.returns
  have hT := x_hT B.pre
  have hown : s.vm.findClass xR_Mo = some m.cls := findClass_of_methodNamed B.named
  have hlocks := B.notSynchronized
  subst hsz
  have hD := hD0.self (sz := s.heap.size)
  generalize hAe : va_A (moW h mm kA v g) s.heap.size = A at hD ⊢
  have hA : ∀ q : Nat, s.heap.size ≤ q → A q := fun q h => by rw [← hAe]; exact Or.inr h
  have hS : va_S A s.heap s.heap [] := va_S.rf
  have hl := lv_entry ([.ref h]) (n := 2) (Nat.le_of_ble_eq_true rfl)
  rw [lg_entry_eq]
  generalize (lg_sl ([.ref h]) ++ List.replicate (2 - (lg_sl ([.ref h])).length) Slot.unset).toArray = ls at hl ⊢
  have hl : lv_has ls 2 [(0, .ref h)] := hl
  have hP : va_P D xcl (moW h mm kA v g) s.heap := hP
  refine lv_aload_n hx hb xd_Mo_split_0 rfl (lv_at hl 0 rfl) ?_
  refine lv_iconst (v := 0) hx hb xd_Mo_split_1 (by decide) ?_
  refine va_put (D := D) (ci := 4) (v := .int 0) (ty := .int) (C := xR_Mo) (T := xT_Mo) (N := 31) hx hb hT xi_Mo xt_Mo xt_Mo_ok xn_Mo hown hK.1 hP hD hS 0 rfl rfl 4 (by decide) (hT _ k4a_8) (fun _ h9 => h9) rfl (by decide +kernel) rfl rfl (Nat.le_of_ble_eq_true rfl) xd_Mo_split_2 (fun H locs hP hD hS => ?_)
  have hP : va_P D xcl (moW h mm kA (va_up v 3 0) g) H := hP
  have hD : va_D A (moW h mm kA (va_up v 3 0) g) := hD
  refine lv_iconst (v := 0) hx hb xd_Mo_split_5 (by decide) ?_
  refine lv_istore_n hx hb xd_Mo_split_6 rfl hl (Nat.le_of_ble_eq_true rfl) rfl (fun ls hl => ?_)
  have hl : lv_has ls 2 [(1, .int 0), (0, .ref h)] := hl
  refine xlab (σ := Nat × Nat × (Nat → Int32) × (Nat → Int32)) (ml := 2) 7 (fun (k, wn, f1, f2) => [(1, .int (nI k)), (0, .ref h)]) (fun (k, wn, f1, f2) => []) (fun (k, wn, f1, f2) => moW h mm kA (va_up v 3 (nI wn)) (va_up (va_up g 1 f1) 2 f2)) (fun (k, wn, f1, f2) => (k ≤ wr) ∧ (wn = (w_all (g 0) k).length) ∧ (k = 0 ∨ k = wr ∨ g 0 k = 32) ∧ (fT g f1 f2 (w_all (g 0) k))) (fun (k, wn, f1, f2) => wr - k) ?_ (0, 0, (g 1), (g 2)) _ _ _ (lv_sub hl [0, 1] rfl) hP hD hS ⟨(show 0 ≤ wr from by first | assumption | omega), (show 0 = (w_all (g 0) 0).length from rfl), (show 0 = 0 ∨ 0 = wr ∨ g 0 0 = 32 from Or.inl rfl), (show fT g (g 1) (g 2) (w_all (g 0) 0) from fT_nil)⟩
  intro n9 ih1 a9 ls H locs hμ hl hP hD hS hI
  subst hμ
  obtain ⟨k, wn, f1, f2⟩ := a9
  obtain ⟨hk, hwn, hbl, hsg⟩ := hI
  have hk : k ≤ wr := hk
  have hwn : wn = (w_all (g 0) k).length := hwn
  have hbl : k = 0 ∨ k = wr ∨ g 0 k = 32 := hbl
  have hsg : fT g f1 f2 (w_all (g 0) k) := hsg
  have hl : lv_has ls 2 [(1, .int (nI k)), (0, .ref h)] := hl
  have hP : va_P D xcl (moW h mm kA (va_up v 3 (nI wn)) (va_up (va_up g 1 f1) 2 f2)) H := hP
  have hD : va_D A (moW h mm kA (va_up v 3 (nI wn)) (va_up (va_up g 1 f1) 2 f2)) := hD
  refine lv_iload_n hx hb xd_Mo_split_7 rfl (lv_at hl 0 rfl) ?_
  refine lv_aload_n hx hb xd_Mo_split_8 rfl (lv_at hl 1 rfl) ?_
  refine va_get (D := D) (ci := 4) (v := .int (v 2)) (C := xR_Mo) (T := xT_Mo) (N := 31) hx hb hT xi_Mo hown hK.1 hP 0 rfl rfl 3 (by decide) (hT _ k4a_9) (fun _ h9 => h9) rfl xd_Mo_split_9 ?_
  refine xn_top (x := (v 2)) (y := nI wr) hwr ?_
  refine xn_ge (a := k) (b := wr) (tgt := 106) hx hb xd_Mo_split_12 (by decide) (by omega) (by omega) (fun hc2 => ?_) (fun hc2 => ?_)
  · refine lv_aload_n hx hb xd_Mo_split_106 rfl (lv_at hl 1 rfl) ?_
    refine lv_iconst (v := 0) hx hb xd_Mo_split_107 (by decide) ?_
    refine va_put (D := D) (ci := 4) (v := .int 0) (ty := .int) (C := xR_Mo) (T := xT_Mo) (N := 31) hx hb hT xi_Mo xt_Mo xt_Mo_ok xn_Mo hown hK.1 hP hD hS 0 rfl rfl 3 (by decide) (hT _ k4a_9) (fun _ h9 => h9) rfl (by decide +kernel) rfl rfl (Nat.le_of_ble_eq_true rfl) xd_Mo_split_108 (fun H locs hP hD hS => ?_)
    have hP : va_P D xcl (moW h mm kA (va_up (va_up v 2 0) 3 (nI wn)) (va_up (va_up g 1 f1) 2 f2)) H := hP
    have hD : va_D A (moW h mm kA (va_up (va_up v 2 0) 3 (nI wn)) (va_up (va_up g 1 f1) 2 f2)) := hD
    exact W.vret hx hb hr (fun t ht hW => ⟨⟨((va_up (va_up v 2 0) 3 (nI wn)), (va_up (va_up g 1 f1) 2 f2)), rfl, ⟨by rw [show wr = k by omega, ← hwn], fun j h1 h2 => by simp [va_up, h1, h2], by rw [show wr = k by omega]; exact hsg⟩, by rw [ht]; exact hP, hD⟩, hS.F ht⟩) hS.2.2 xd_Mo_split_111
  · refine xlab (σ := Nat) (ml := 2) 15 (fun (k1 : Nat) => [(1, .int (nI k1)), (0, .ref h)]) (fun (k1 : Nat) => []) (fun (k1 : Nat) => moW h mm kA (va_up v 3 (nI wn)) (va_up (va_up g 1 f1) 2 f2)) (fun (k1 : Nat) => (k ≤ k1) ∧ (k1 ≤ wr) ∧ (w_all (g 0) k1 = w_all (g 0) k) ∧ (k1 = k ∨ w_st (g 0) k1 = k1)) (fun (k1 : Nat) => wr - k1) ?_ k _ _ _ (lv_sub hl [0, 1] rfl) hP hD hS ⟨(show k ≤ k from by first | assumption | omega), (show k ≤ wr from by first | assumption | omega), (show w_all (g 0) k = w_all (g 0) k from rfl), (show k = k ∨ w_st (g 0) k = k from Or.inl rfl)⟩
    intro n9 ih3 a9 ls H locs hμ hl hP hD hS hI
    subst hμ
    obtain ⟨k1, rfl⟩ : ∃ z, z = a9 := ⟨_, rfl⟩
    obtain ⟨hk1, hk2, hall, hst⟩ := hI
    have hk1 : k ≤ k1 := hk1
    have hk2 : k1 ≤ wr := hk2
    have hall : w_all (g 0) k1 = w_all (g 0) k := hall
    have hst : k1 = k ∨ w_st (g 0) k1 = k1 := hst
    have hl : lv_has ls 2 [(1, .int (nI k1)), (0, .ref h)] := hl
    have hP : va_P D xcl (moW h mm kA (va_up v 3 (nI wn)) (va_up (va_up g 1 f1) 2 f2)) H := hP
    have hD : va_D A (moW h mm kA (va_up v 3 (nI wn)) (va_up (va_up g 1 f1) 2 f2)) := hD
    refine lv_iload_n hx hb xd_Mo_split_15 rfl (lv_at hl 0 rfl) ?_
    refine lv_aload_n hx hb xd_Mo_split_16 rfl (lv_at hl 1 rfl) ?_
    refine va_get (D := D) (ci := 4) (v := .int (v 2)) (C := xR_Mo) (T := xT_Mo) (N := 31) hx hb hT xi_Mo hown hK.1 hP 0 rfl rfl 3 (by decide) (hT _ k4a_9) (fun _ h9 => h9) rfl xd_Mo_split_17 ?_
    refine xn_top (x := (v 2)) (y := nI wr) hwr ?_
    refine xn_ge (a := k1) (b := wr) (tgt := 40) hx hb xd_Mo_split_20 (by decide) (by omega) (by omega) (fun hc4 => ?_) (fun hc4 => ?_)
    · refine lv_iload_n hx hb xd_Mo_split_40 rfl (lv_at hl 0 rfl) ?_
      refine lv_aload_n hx hb xd_Mo_split_41 rfl (lv_at hl 1 rfl) ?_
      refine va_get (D := D) (ci := 4) (v := .int (v 2)) (C := xR_Mo) (T := xT_Mo) (N := 31) hx hb hT xi_Mo hown hK.1 hP 0 rfl rfl 3 (by decide) (hT _ k4a_9) (fun _ h9 => h9) rfl xd_Mo_split_42 ?_
      refine xn_top (x := (v 2)) (y := nI wr) hwr ?_
      refine xn_ge (a := k1) (b := wr) (tgt := 7) hx hb xd_Mo_split_45 (by decide) (by omega) (by omega) (fun _ => ?_) (fun hc5 => absurd hc5 (by omega))
      exact ih1 (k1, wn, f1, f2) _ _ _ (show wr - k1 < wr - k by omega) (lv_sub hl [0, 1] rfl) hP hD hS ⟨(show k1 ≤ wr from by first | assumption | omega), (show wn = (w_all (g 0) k1).length from by rw [hall]; exact hwn), (show k1 = 0 ∨ k1 = wr ∨ g 0 k1 = 32 from Or.inr (Or.inl (by omega))), (show fT g f1 f2 (w_all (g 0) k1) from by rw [hall]; exact hsg)⟩
    · refine lv_aload_n hx hb xd_Mo_split_23 rfl (lv_at hl 1 rfl) ?_
      refine va_get (D := D) (ci := 4) (v := .ref (mm 0)) (C := xR_Mo) (T := xT_Mo) (N := 31) hx hb hT xi_Mo hown hK.1 hP 0 rfl rfl 2 (by decide) (hT _ k4a_2) (fun _ h9 => h9) rfl xd_Mo_split_24 ?_
      refine lv_iload_n hx hb xd_Mo_split_27 rfl (lv_at hl 0 rfl) ?_
      refine xn_cald (i := k1) hx hb hK.1 hP 1 1 rfl rfl (by omega) (by decide) xd_Mo_split_28 ?_
      refine lv_bipush (v := 32) hx hb xd_Mo_split_29 (by decide) ?_
      refine lv_icmp_ne (tgt := 40) hx hb xd_Mo_split_31 (by decide) (fun hc6 => ?_) (fun hc6 => ?_)
      · have hst2 : w_st (g 0) k1 = k1 := by
          rcases hst with q | q
          · rcases hbl with q2 | q2 | q2
            · rw [q, q2]; rfl
            · omega
            · rw [q] at hc6; exact absurd q2 hc6
          · exact q
        have hwn20 : wn < 20 := by
          have q := w_l_len (g 0) k1
          rw [hst2, ← w_all_st hst2, hall, ← hwn] at q
          omega
        refine lv_iload_n hx hb xd_Mo_split_40 rfl (lv_at hl 0 rfl) ?_
        refine lv_aload_n hx hb xd_Mo_split_41 rfl (lv_at hl 1 rfl) ?_
        refine va_get (D := D) (ci := 4) (v := .int (v 2)) (C := xR_Mo) (T := xT_Mo) (N := 31) hx hb hT xi_Mo hown hK.1 hP 0 rfl rfl 3 (by decide) (hT _ k4a_9) (fun _ h9 => h9) rfl xd_Mo_split_42 ?_
        refine xn_top (x := (v 2)) (y := nI wr) hwr ?_
        refine xn_ge (a := k1) (b := wr) (tgt := 7) hx hb xd_Mo_split_45 (by decide) (by omega) (by omega) (fun hc7 => absurd hc7 (by omega)) (fun _ => ?_)
        refine lv_aload_n hx hb xd_Mo_split_48 rfl (lv_at hl 1 rfl) ?_
        refine va_get (D := D) (ci := 4) (v := .ref (mm 1)) (C := xR_Mo) (T := xT_Mo) (N := 31) hx hb hT xi_Mo hown hK.1 hP 0 rfl rfl 5 (by decide) (hT _ k4a_0) (fun _ h9 => h9) rfl xd_Mo_split_49 ?_
        refine lv_aload_n hx hb xd_Mo_split_52 rfl (lv_at hl 1 rfl) ?_
        refine va_get (D := D) (ci := 4) (v := .int (nI wn)) (C := xR_Mo) (T := xT_Mo) (N := 31) hx hb hT xi_Mo hown hK.1 hP 0 rfl rfl 4 (by decide) (hT _ k4a_8) (fun _ h9 => h9) rfl xd_Mo_split_53 ?_
        refine lv_iload_n hx hb xd_Mo_split_56 rfl (lv_at hl 0 rfl) ?_
        refine xn_iast (i := wn) hx hb hK.1 hP hD hS 2 0 rfl rfl (by omega) (by decide) xd_Mo_split_57 (fun H locs hP hD hS => ?_)
        have hP : va_P D xcl (moW h mm kA (va_up v 3 (nI wn)) (va_up (va_up g 1 (upd f1 wn (nI k1))) 2 f2)) H := hP
        have hD : va_D A (moW h mm kA (va_up v 3 (nI wn)) (va_up (va_up g 1 (upd f1 wn (nI k1))) 2 f2)) := hD
        refine xlab (σ := Nat) (ml := 2) 58 (fun (k2 : Nat) => [(1, .int (nI k2)), (0, .ref h)]) (fun (k2 : Nat) => []) (fun (k2 : Nat) => moW h mm kA (va_up v 3 (nI wn)) (va_up (va_up g 1 (upd f1 wn (nI k1))) 2 f2)) (fun (k2 : Nat) => (k1 ≤ k2) ∧ (k2 ≤ wr) ∧ (w_l (g 0) k2 = w_l (g 0) k1 ∧ w_st (g 0) k2 = k1) ∧ (k1 < k2 ∨ ¬ g 0 k2 = 32)) (fun (k2 : Nat) => wr - k2) ?_ k1 _ _ _ (lv_sub hl [0, 1] rfl) hP hD hS ⟨(show k1 ≤ k1 from by first | assumption | omega), (show k1 ≤ wr from by first | assumption | omega), (show w_l (g 0) k1 = w_l (g 0) k1 ∧ w_st (g 0) k1 = k1 from ⟨rfl, hst2⟩), (show k1 < k1 ∨ ¬ g 0 k1 = 32 from Or.inr hc6)⟩
        intro n9 ih8 a9 ls H locs hμ hl hP hD hS hI
        subst hμ
        obtain ⟨k2, rfl⟩ : ∃ z, z = a9 := ⟨_, rfl⟩
        obtain ⟨hk3, hk4, hws2, hne⟩ := hI
        have hk3 : k1 ≤ k2 := hk3
        have hk4 : k2 ≤ wr := hk4
        have hws2 : w_l (g 0) k2 = w_l (g 0) k1 ∧ w_st (g 0) k2 = k1 := hws2
        have hne : k1 < k2 ∨ ¬ g 0 k2 = 32 := hne
        have hl : lv_has ls 2 [(1, .int (nI k2)), (0, .ref h)] := hl
        have hP : va_P D xcl (moW h mm kA (va_up v 3 (nI wn)) (va_up (va_up g 1 (upd f1 wn (nI k1))) 2 f2)) H := hP
        have hD : va_D A (moW h mm kA (va_up v 3 (nI wn)) (va_up (va_up g 1 (upd f1 wn (nI k1))) 2 f2)) := hD
        refine lv_iload_n hx hb xd_Mo_split_58 rfl (lv_at hl 0 rfl) ?_
        refine lv_aload_n hx hb xd_Mo_split_59 rfl (lv_at hl 1 rfl) ?_
        refine va_get (D := D) (ci := 4) (v := .int (v 2)) (C := xR_Mo) (T := xT_Mo) (N := 31) hx hb hT xi_Mo hown hK.1 hP 0 rfl rfl 3 (by decide) (hT _ k4a_9) (fun _ h9 => h9) rfl xd_Mo_split_60 ?_
        refine xn_top (x := (v 2)) (y := nI wr) hwr ?_
        refine xn_ge (a := k2) (b := wr) (tgt := 83) hx hb xd_Mo_split_63 (by decide) (by omega) (by omega) (fun hc9 => ?_) (fun hc9 => ?_)
        · have hk12 : k1 < k2 := by omega
          have hrun : w_all (g 0) k2 = w_all (g 0) k ++ [(k1, k2)] := by
            rw [w_all_run (by rw [hws2.2]; exact hk12), hws2.1, hws2.2, ← hall, w_all_st hst2]
          refine lv_aload_n hx hb xd_Mo_split_83 rfl (lv_at hl 1 rfl) ?_
          refine va_get (D := D) (ci := 4) (v := .ref (mm 2)) (C := xR_Mo) (T := xT_Mo) (N := 31) hx hb hT xi_Mo hown hK.1 hP 0 rfl rfl 6 (by decide) (hT _ k4a_1) (fun _ h9 => h9) rfl xd_Mo_split_84 ?_
          refine lv_aload_n hx hb xd_Mo_split_87 rfl (lv_at hl 1 rfl) ?_
          refine va_get (D := D) (ci := 4) (v := .int (nI wn)) (C := xR_Mo) (T := xT_Mo) (N := 31) hx hb hT xi_Mo hown hK.1 hP 0 rfl rfl 4 (by decide) (hT _ k4a_8) (fun _ h9 => h9) rfl xd_Mo_split_88 ?_
          refine lv_iload_n hx hb xd_Mo_split_91 rfl (lv_at hl 0 rfl) ?_
          refine xn_iast (i := wn) hx hb hK.1 hP hD hS 3 0 rfl rfl (by omega) (by decide) xd_Mo_split_92 (fun H locs hP hD hS => ?_)
          have hP : va_P D xcl (moW h mm kA (va_up v 3 (nI wn)) (va_up (va_up g 1 (upd f1 wn (nI k1))) 2 (upd f2 wn (nI k2)))) H := hP
          have hD : va_D A (moW h mm kA (va_up v 3 (nI wn)) (va_up (va_up g 1 (upd f1 wn (nI k1))) 2 (upd f2 wn (nI k2)))) := hD
          refine lv_aload_n hx hb xd_Mo_split_93 rfl (lv_at hl 1 rfl) ?_
          refine lv_dup hx hb xd_Mo_split_94 rfl ?_
          refine va_get (D := D) (ci := 4) (v := .int (nI wn)) (C := xR_Mo) (T := xT_Mo) (N := 31) hx hb hT xi_Mo hown hK.1 hP 0 rfl rfl 4 (by decide) (hT _ k4a_8) (fun _ h9 => h9) rfl xd_Mo_split_95 ?_
          refine lv_iconst (v := 1) hx hb xd_Mo_split_98 (by decide) ?_
          refine lv_iadd hx hb xd_Mo_split_99 ?_
          refine xn_top (y := nI (wn + 1)) (nI_add wn 1) ?_
          refine va_put (D := D) (ci := 4) (v := .int (nI (wn + 1))) (ty := .int) (C := xR_Mo) (T := xT_Mo) (N := 31) hx hb hT xi_Mo xt_Mo xt_Mo_ok xn_Mo hown hK.1 hP hD hS 0 rfl rfl 4 (by decide) (hT _ k4a_8) (fun _ h9 => h9) rfl (by decide +kernel) rfl rfl (Nat.le_of_ble_eq_true rfl) xd_Mo_split_100 (fun H locs hP hD hS => ?_)
          have hP : va_P D xcl (moW h mm kA (va_up v 3 (nI (wn + 1))) (va_up (va_up g 1 (upd f1 wn (nI k1))) 2 (upd f2 wn (nI k2)))) H := hP
          have hD : va_D A (moW h mm kA (va_up v 3 (nI (wn + 1))) (va_up (va_up g 1 (upd f1 wn (nI k1))) 2 (upd f2 wn (nI k2)))) := hD
          refine lv_goto (tgt := 7) hx hb xd_Mo_split_103 (by decide) ?_
          exact ih1 (k2, wn + 1, (upd f1 wn (nI k1)), (upd f2 wn (nI k2))) _ _ _ (show wr - k2 < wr - k by omega) (lv_sub hl [0, 1] rfl) hP hD hS ⟨(show k2 ≤ wr from by first | assumption | omega), (show (wn + 1) = (w_all (g 0) k2).length from by rw [hrun, List.length_append, ← hwn]; rfl), (show k2 = 0 ∨ k2 = wr ∨ g 0 k2 = 32 from Or.inr (Or.inl (by omega))), (show fT g (upd f1 wn (nI k1)) (upd f2 wn (nI k2)) (w_all (g 0) k2) from by
      have q := fT_add (b := k1) (e := k2) hsg
      rw [← hwn, ← hrun] at q
      exact q)⟩
        · refine lv_aload_n hx hb xd_Mo_split_66 rfl (lv_at hl 1 rfl) ?_
          refine va_get (D := D) (ci := 4) (v := .ref (mm 0)) (C := xR_Mo) (T := xT_Mo) (N := 31) hx hb hT xi_Mo hown hK.1 hP 0 rfl rfl 2 (by decide) (hT _ k4a_2) (fun _ h9 => h9) rfl xd_Mo_split_67 ?_
          refine lv_iload_n hx hb xd_Mo_split_70 rfl (lv_at hl 0 rfl) ?_
          refine xn_cald (i := k2) hx hb hK.1 hP 1 1 rfl rfl (by omega) (by decide) xd_Mo_split_71 ?_
          refine lv_bipush (v := 32) hx hb xd_Mo_split_72 (by decide) ?_
          refine lv_icmp_eq (tgt := 83) hx hb xd_Mo_split_74 (by decide) (fun hc10 => ?_) (fun hc10 => ?_)
          · have hk12 : k1 < k2 := by
              rcases hne with q | q
              · exact q
              · exact absurd hc10 q
            have hrun : w_all (g 0) k2 = w_all (g 0) k ++ [(k1, k2)] := by
              rw [w_all_run (by rw [hws2.2]; exact hk12), hws2.1, hws2.2, ← hall, w_all_st hst2]
            refine lv_aload_n hx hb xd_Mo_split_83 rfl (lv_at hl 1 rfl) ?_
            refine va_get (D := D) (ci := 4) (v := .ref (mm 2)) (C := xR_Mo) (T := xT_Mo) (N := 31) hx hb hT xi_Mo hown hK.1 hP 0 rfl rfl 6 (by decide) (hT _ k4a_1) (fun _ h9 => h9) rfl xd_Mo_split_84 ?_
            refine lv_aload_n hx hb xd_Mo_split_87 rfl (lv_at hl 1 rfl) ?_
            refine va_get (D := D) (ci := 4) (v := .int (nI wn)) (C := xR_Mo) (T := xT_Mo) (N := 31) hx hb hT xi_Mo hown hK.1 hP 0 rfl rfl 4 (by decide) (hT _ k4a_8) (fun _ h9 => h9) rfl xd_Mo_split_88 ?_
            refine lv_iload_n hx hb xd_Mo_split_91 rfl (lv_at hl 0 rfl) ?_
            refine xn_iast (i := wn) hx hb hK.1 hP hD hS 3 0 rfl rfl (by omega) (by decide) xd_Mo_split_92 (fun H locs hP hD hS => ?_)
            have hP : va_P D xcl (moW h mm kA (va_up v 3 (nI wn)) (va_up (va_up g 1 (upd f1 wn (nI k1))) 2 (upd f2 wn (nI k2)))) H := hP
            have hD : va_D A (moW h mm kA (va_up v 3 (nI wn)) (va_up (va_up g 1 (upd f1 wn (nI k1))) 2 (upd f2 wn (nI k2)))) := hD
            refine lv_aload_n hx hb xd_Mo_split_93 rfl (lv_at hl 1 rfl) ?_
            refine lv_dup hx hb xd_Mo_split_94 rfl ?_
            refine va_get (D := D) (ci := 4) (v := .int (nI wn)) (C := xR_Mo) (T := xT_Mo) (N := 31) hx hb hT xi_Mo hown hK.1 hP 0 rfl rfl 4 (by decide) (hT _ k4a_8) (fun _ h9 => h9) rfl xd_Mo_split_95 ?_
            refine lv_iconst (v := 1) hx hb xd_Mo_split_98 (by decide) ?_
            refine lv_iadd hx hb xd_Mo_split_99 ?_
            refine xn_top (y := nI (wn + 1)) (nI_add wn 1) ?_
            refine va_put (D := D) (ci := 4) (v := .int (nI (wn + 1))) (ty := .int) (C := xR_Mo) (T := xT_Mo) (N := 31) hx hb hT xi_Mo xt_Mo xt_Mo_ok xn_Mo hown hK.1 hP hD hS 0 rfl rfl 4 (by decide) (hT _ k4a_8) (fun _ h9 => h9) rfl (by decide +kernel) rfl rfl (Nat.le_of_ble_eq_true rfl) xd_Mo_split_100 (fun H locs hP hD hS => ?_)
            have hP : va_P D xcl (moW h mm kA (va_up v 3 (nI (wn + 1))) (va_up (va_up g 1 (upd f1 wn (nI k1))) 2 (upd f2 wn (nI k2)))) H := hP
            have hD : va_D A (moW h mm kA (va_up v 3 (nI (wn + 1))) (va_up (va_up g 1 (upd f1 wn (nI k1))) 2 (upd f2 wn (nI k2)))) := hD
            refine lv_goto (tgt := 7) hx hb xd_Mo_split_103 (by decide) ?_
            exact ih1 (k2, wn + 1, (upd f1 wn (nI k1)), (upd f2 wn (nI k2))) _ _ _ (show wr - k2 < wr - k by omega) (lv_sub hl [0, 1] rfl) hP hD hS ⟨(show k2 ≤ wr from by first | assumption | omega), (show (wn + 1) = (w_all (g 0) k2).length from by rw [hrun, List.length_append, ← hwn]; rfl), (show k2 = 0 ∨ k2 = wr ∨ g 0 k2 = 32 from Or.inr (Or.inr hc10)), (show fT g (upd f1 wn (nI k1)) (upd f2 wn (nI k2)) (w_all (g 0) k2) from by
      have q := fT_add (b := k1) (e := k2) hsg
      rw [← hwn, ← hrun] at q
      exact q)⟩
          · refine lv_iinc (k := 0) (x := (nI k2)) (v := (nI (k2 + 1))) hx hb xd_Mo_split_77 hl rfl (xb_inc k2 1) (Nat.le_of_ble_eq_true rfl) rfl (fun ls hl => ?_)
            have hl : lv_has ls 2 [(1, .int (nI (k2 + 1))), (0, .ref h)] := hl
            refine lv_goto (tgt := 58) hx hb xd_Mo_split_80 (by decide) ?_
            exact ih8 (k2 + 1) _ _ _ (show wr - (k2 + 1) < wr - k2 by omega) (lv_sub hl [0, 1] rfl) hP hD hS ⟨(show k1 ≤ (k2 + 1) from by first | assumption | omega), (show (k2 + 1) ≤ wr from by first | assumption | omega), (show w_l (g 0) (k2 + 1) = w_l (g 0) k1 ∧ w_st (g 0) (k2 + 1) = k1 from by rw [(w_ns (t := g 0) hc10).1, (w_ns (t := g 0) hc10).2]; exact hws2), (show k1 < (k2 + 1) ∨ ¬ g 0 (k2 + 1) = 32 from Or.inl (by omega))⟩
      · refine lv_iinc (k := 0) (x := (nI k1)) (v := (nI (k1 + 1))) hx hb xd_Mo_split_34 hl rfl (xb_inc k1 1) (Nat.le_of_ble_eq_true rfl) rfl (fun ls hl => ?_)
        have hl : lv_has ls 2 [(1, .int (nI (k1 + 1))), (0, .ref h)] := hl
        refine lv_goto (tgt := 15) hx hb xd_Mo_split_37 (by decide) ?_
        exact ih3 (k1 + 1) _ _ _ (show wr - (k1 + 1) < wr - k1 by omega) (lv_sub hl [0, 1] rfl) hP hD hS ⟨(show k ≤ (k1 + 1) from by first | assumption | omega), (show (k1 + 1) ≤ wr from by first | assumption | omega), (show w_all (g 0) (k1 + 1) = w_all (g 0) k from by rw [w_all_st (w_sp (t := g 0) hc6).2, (w_sp (t := g 0) hc6).1]; exact hall), (show (k1 + 1) = k ∨ w_st (g 0) (k1 + 1) = (k1 + 1) from Or.inr (w_sp (t := g 0) hc6).2)⟩
