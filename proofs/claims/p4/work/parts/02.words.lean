def wT : List Cond := lw_tbl.filter goodWord
theorem wT_t {w : Cond} (h : w ∈ tables_1) (g : goodWord w = true) : w ∈ wT := List.mem_filter.mpr ⟨List.mem_append_right _ h, g⟩
theorem wT_s {q : MethodName × Nat} (h : q ∈ lw_privs) (g : goodWord (Cond.selects q.1.cls q.1 q.1) = true) : Cond.selects q.1.cls q.1 q.1 ∈ wT := List.mem_filter.mpr ⟨List.mem_append_left _ (List.mem_map.mpr ⟨q, h, rfl⟩), g⟩
theorem wT_g {ws : List Cond} (h : ∀ w ∈ ws, w ∈ wT) : GoodIn wT ws := fun w hw => ⟨h w hw, good_of_word (List.mem_filter.mp (h w hw)).2⟩
theorem wT_c {w : Cond} (h5 : w ∈ wT) : ∀ v ∈ w :: wT, v ∈ wT := fun v hv => by
  rcases List.mem_cons.mp hv with rfl | h
  · exact h5
  · exact h
theorem wT_V {own C : String} {idx : Nat} {y : MethodName} {w : Cond} (h1 : Cond.methodLink own idx y ∈ wT) (h2 : Cond.instanceMethod y ∈ wT) (h3 : Cond.selects C y y ∈ wT) (h4 : Cond.initialized C ∈ wT) (h5 : w ∈ wT) : GoodIn wT (wsV own idx C y (w :: wT)) := wT_g (fun v hv => by
  rcases List.mem_append.mp hv with h | h
  · simp only [List.mem_cons, List.not_mem_nil, or_false] at h
    rcases h with rfl | rfl | rfl | rfl
    · exact h1
    · exact h2
    · exact h3
    · exact h4
  · exact wT_c h5 v h)
theorem wT_S {own : String} {idx : Nat} {y : MethodName} {w : Cond} (h1 : Cond.methodLink own idx y ∈ wT) (h2 : Cond.static y ∈ wT) (h4 : Cond.initialized y.cls ∈ wT) (h5 : w ∈ wT) : GoodIn wT (va_wsS own idx y (w :: wT)) := wT_g (fun v hv => by
  rcases List.mem_append.mp hv with h | h
  · simp only [List.mem_cons, List.not_mem_nil, or_false] at h
    rcases h with rfl | rfl | rfl
    · exact h1
    · exact h2
    · exact h4
  · exact wT_c h5 v h)
theorem wT_S0 {own : String} {idx : Nat} {y : MethodName} {w : Cond} (h1 : Cond.methodLink own idx y ∈ wT) (h2 : Cond.static y ∈ wT) (h4 : Cond.initialized own ∈ wT) (h5 : w ∈ wT) : GoodIn wT (wsS own idx y (w :: wT)) := wT_g (fun v hv => by
  rcases List.mem_append.mp hv with h | h
  · simp only [List.mem_cons, List.not_mem_nil, or_false] at h
    rcases h with rfl | rfl | rfl
    · exact h1
    · exact h2
    · exact h4
  · exact wT_c h5 v h)
theorem wT_I {w : Cond} (h5 : w ∈ wT) : GoodIn wT (w :: wT) := wT_g (wT_c h5)
theorem x_hT {w : Cond} {rm : Room} {args : Array Value} {s : State} (h : (headSpec (w :: wT) rm).pre.before args s = true) : ∀ v ∈ wT, v.before args s = true := fun v hv => atoms_spec (ws := w :: wT) h v (List.mem_cons_of_mem _ hv)
def xR_De : String := "LayerDesk"
def xT_De : u_T := fun k => match k with
  | 0 => ("LayerDesk", "written", "LLayerDesk$Line;", true)
  | 1 => ("LayerDesk", "shelf", "LLayerDesk$Shelf;", true)
  | 2 => ("LayerDesk", "chooser", "LLayerDesk$Chooser;", true)
  | 3 => ("LayerDesk", "layers", "[LLayerDesk$Layer;", true)
  | 4 => ("LayerDesk", "made", "I", false)
  | _ => ("LayerDesk", "latestFault", "I", false)
def xt_De : Nat → FieldType := fun k => match k with
  | 0 => .object "LayerDesk$Line"
  | 1 => .object "LayerDesk$Shelf"
  | 2 => .object "LayerDesk$Chooser"
  | 3 => .array (.object "LayerDesk$Layer")
  | 4 => .int
  | _ => .int
theorem xn_De : ∀ a, a < 6 → ∀ b, b < 6 → a ≠ b → (xT_De a).2.1 ≠ (xT_De b).2.1 := by decide +kernel
theorem xt_De_ok : ∀ k, k < 6 → parseFieldDescriptor (xT_De k).2.2.1 = some (xt_De k) := by decide +kernel
theorem xi_De : ∀ w ∈ u_ws xR_De xT_De 6, w ∈ wT := fun w hw => by
  have h : w ∈ ([Cond.laysFinal xR_De "LayerDesk" "written" "LLayerDesk$Line;", Cond.laysFinal xR_De "LayerDesk" "shelf" "LLayerDesk$Shelf;", Cond.laysFinal xR_De "LayerDesk" "chooser" "LLayerDesk$Chooser;", Cond.laysFinal xR_De "LayerDesk" "layers" "[LLayerDesk$Layer;", Cond.lays xR_De "LayerDesk" "made" "I", Cond.lays xR_De "LayerDesk" "latestFault" "I"] : List Cond) := hw
  simp only [List.mem_cons, List.not_mem_nil, or_false] at h
  rcases h with rfl | rfl | rfl | rfl | rfl | rfl
  · exact wT_t (List.mem_append_left _ (List.mem_of_getElem? (i := 105) rfl)) rfl
  · exact wT_t (List.mem_append_left _ (List.mem_of_getElem? (i := 107) rfl)) rfl
  · exact wT_t (List.mem_append_left _ (List.mem_of_getElem? (i := 109) rfl)) rfl
  · exact wT_t (List.mem_append_left _ (List.mem_of_getElem? (i := 111) rfl)) rfl
  · exact wT_t (List.mem_append_left _ (List.mem_of_getElem? (i := 113) rfl)) rfl
  · exact wT_t (List.mem_append_left _ (List.mem_of_getElem? (i := 115) rfl)) rfl
def xR_Li : String := "LayerDesk$Line"
def xT_Li : u_T := fun k => match k with
  | 0 => ("LayerDesk$Line", "text", "[C", true)
  | 1 => ("LayerDesk$Line", "starts", "[I", true)
  | 2 => ("LayerDesk$Line", "ends", "[I", true)
  | 3 => ("LayerDesk$Line", "length", "I", false)
  | _ => ("LayerDesk$Line", "words", "I", false)
def xt_Li : Nat → FieldType := fun k => match k with
  | 0 => .array .char
  | 1 => .array .int
  | 2 => .array .int
  | 3 => .int
  | _ => .int
theorem xn_Li : ∀ a, a < 5 → ∀ b, b < 5 → a ≠ b → (xT_Li a).2.1 ≠ (xT_Li b).2.1 := by decide +kernel
theorem xt_Li_ok : ∀ k, k < 5 → parseFieldDescriptor (xT_Li k).2.2.1 = some (xt_Li k) := by decide +kernel
theorem xi_Li : ∀ w ∈ u_ws xR_Li xT_Li 5, w ∈ wT := fun w hw => by
  have h : w ∈ ([Cond.laysFinal xR_Li "LayerDesk$Line" "text" "[C", Cond.laysFinal xR_Li "LayerDesk$Line" "starts" "[I", Cond.laysFinal xR_Li "LayerDesk$Line" "ends" "[I", Cond.lays xR_Li "LayerDesk$Line" "length" "I", Cond.lays xR_Li "LayerDesk$Line" "words" "I"] : List Cond) := hw
  simp only [List.mem_cons, List.not_mem_nil, or_false] at h
  rcases h with rfl | rfl | rfl | rfl | rfl
  · exact wT_t (List.mem_append_left _ (List.mem_of_getElem? (i := 43) rfl)) rfl
  · exact wT_t (List.mem_append_left _ (List.mem_of_getElem? (i := 45) rfl)) rfl
  · exact wT_t (List.mem_append_left _ (List.mem_of_getElem? (i := 47) rfl)) rfl
  · exact wT_t (List.mem_append_left _ (List.mem_of_getElem? (i := 49) rfl)) rfl
  · exact wT_t (List.mem_append_left _ (List.mem_of_getElem? (i := 51) rfl)) rfl
def xR_Sh : String := "LayerDesk$Shelf"
def xT_Sh : u_T := fun k => match k with
  | 0 => ("LayerDesk$Shelf", "descriptors", "[LLayerDesk$Descriptor;", true)
  | _ => ("LayerDesk$Shelf", "size", "I", false)
def xt_Sh : Nat → FieldType := fun k => match k with
  | 0 => .array (.object "LayerDesk$Descriptor")
  | _ => .int
theorem xn_Sh : ∀ a, a < 2 → ∀ b, b < 2 → a ≠ b → (xT_Sh a).2.1 ≠ (xT_Sh b).2.1 := by decide +kernel
theorem xt_Sh_ok : ∀ k, k < 2 → parseFieldDescriptor (xT_Sh k).2.2.1 = some (xt_Sh k) := by decide +kernel
theorem xi_Sh : ∀ w ∈ u_ws xR_Sh xT_Sh 2, w ∈ wT := fun w hw => by
  have h : w ∈ ([Cond.laysFinal xR_Sh "LayerDesk$Shelf" "descriptors" "[LLayerDesk$Descriptor;", Cond.lays xR_Sh "LayerDesk$Shelf" "size" "I"] : List Cond) := hw
  simp only [List.mem_cons, List.not_mem_nil, or_false] at h
  rcases h with rfl | rfl
  · exact wT_t (List.mem_append_left _ (List.mem_of_getElem? (i := 69) rfl)) rfl
  · exact wT_t (List.mem_append_left _ (List.mem_of_getElem? (i := 71) rfl)) rfl
def xR_Ch : String := "LayerDesk$Chooser"
def xT_Ch : u_T := fun k => match k with
  | 0 => ("LayerDesk$Chooser", "shelf", "LLayerDesk$Shelf;", true)
  | 1 => ("LayerDesk$Chooser", "chosen", "[LLayerDesk$Descriptor;", true)
  | 2 => ("LayerDesk$Chooser", "size", "I", false)
  | 3 => ("LayerDesk$Chooser", "finder", "I", false)
  | _ => ("LayerDesk$Chooser", "parent", "LLayerDesk$Layer;", false)
def xt_Ch : Nat → FieldType := fun k => match k with
  | 0 => .object "LayerDesk$Shelf"
  | 1 => .array (.object "LayerDesk$Descriptor")
  | 2 => .int
  | 3 => .int
  | _ => .object "LayerDesk$Layer"
theorem xn_Ch : ∀ a, a < 5 → ∀ b, b < 5 → a ≠ b → (xT_Ch a).2.1 ≠ (xT_Ch b).2.1 := by decide +kernel
theorem xt_Ch_ok : ∀ k, k < 5 → parseFieldDescriptor (xT_Ch k).2.2.1 = some (xt_Ch k) := by decide +kernel
theorem xi_Ch : ∀ w ∈ u_ws xR_Ch xT_Ch 5, w ∈ wT := fun w hw => by
  have h : w ∈ ([Cond.laysFinal xR_Ch "LayerDesk$Chooser" "shelf" "LLayerDesk$Shelf;", Cond.laysFinal xR_Ch "LayerDesk$Chooser" "chosen" "[LLayerDesk$Descriptor;", Cond.lays xR_Ch "LayerDesk$Chooser" "size" "I", Cond.lays xR_Ch "LayerDesk$Chooser" "finder" "I", Cond.lays xR_Ch "LayerDesk$Chooser" "parent" "LLayerDesk$Layer;"] : List Cond) := hw
  simp only [List.mem_cons, List.not_mem_nil, or_false] at h
  rcases h with rfl | rfl | rfl | rfl | rfl
  · exact wT_t (List.mem_append_left _ (List.mem_of_getElem? (i := 86) rfl)) rfl
  · exact wT_t (List.mem_append_left _ (List.mem_of_getElem? (i := 88) rfl)) rfl
  · exact wT_t (List.mem_append_left _ (List.mem_of_getElem? (i := 90) rfl)) rfl
  · exact wT_t (List.mem_append_left _ (List.mem_of_getElem? (i := 92) rfl)) rfl
  · exact wT_t (List.mem_append_left _ (List.mem_of_getElem? (i := 94) rfl)) rfl
def xR_Mo : String := "LayerDeskModel"
def xT_Mo : u_T := fun k => match k with
  | 0 => ("LayerDeskModel", "fault", "I", false)
  | 1 => ("LayerDeskModel", "why", "I", false)
  | 2 => ("LayerDeskModel", "text", "[C", true)
  | 3 => ("LayerDeskModel", "written", "I", false)
  | 4 => ("LayerDeskModel", "words", "I", false)
  | 5 => ("LayerDeskModel", "begin", "[I", true)
  | 6 => ("LayerDeskModel", "end", "[I", true)
  | 7 => ("LayerDeskModel", "descriptors", "I", false)
  | 8 => ("LayerDeskModel", "finder", "[I", true)
  | 9 => ("LayerDeskModel", "name", "[I", true)
  | 10 => ("LayerDeskModel", "packages", "[I", true)
  | 11 => ("LayerDeskModel", "pack", "[I", true)
  | 12 => ("LayerDeskModel", "exportTo", "[I", true)
  | 13 => ("LayerDeskModel", "openTo", "[I", true)
  | 14 => ("LayerDeskModel", "exportAll", "[Z", true)
  | 15 => ("LayerDeskModel", "openAll", "[Z", true)
  | 16 => ("LayerDeskModel", "locked", "[Z", true)
  | 17 => ("LayerDeskModel", "requires", "[I", true)
  | 18 => ("LayerDeskModel", "require", "[I", true)
  | 19 => ("LayerDeskModel", "use", "[I", true)
  | 20 => ("LayerDeskModel", "provide", "[I", true)
  | 21 => ("LayerDeskModel", "passes", "[Z", true)
  | 22 => ("LayerDeskModel", "still", "[Z", true)
  | 23 => ("LayerDeskModel", "layers", "I", false)
  | 24 => ("LayerDeskModel", "finderOf", "[I", true)
  | 25 => ("LayerDeskModel", "parent", "[I", true)
  | 26 => ("LayerDeskModel", "modules", "[I", true)
  | 27 => ("LayerDeskModel", "module", "[I", true)
  | 28 => ("LayerDeskModel", "open", "[Z", true)
  | 29 => ("LayerDeskModel", "stack", "[I", true)
  | _ => ("LayerDeskModel", "seen", "[Z", true)
def xt_Mo : Nat → FieldType := fun k => match k with
  | 0 => .int
  | 1 => .int
  | 2 => .array .char
  | 3 => .int
  | 4 => .int
  | 5 => .array .int
  | 6 => .array .int
  | 7 => .int
  | 8 => .array .int
  | 9 => .array .int
  | 10 => .array .int
  | 11 => .array .int
  | 12 => .array .int
  | 13 => .array .int
  | 14 => .array .boolean
  | 15 => .array .boolean
  | 16 => .array .boolean
  | 17 => .array .int
  | 18 => .array .int
  | 19 => .array .int
  | 20 => .array .int
  | 21 => .array .boolean
  | 22 => .array .boolean
  | 23 => .int
  | 24 => .array .int
  | 25 => .array .int
  | 26 => .array .int
  | 27 => .array .int
  | 28 => .array .boolean
  | 29 => .array .int
  | _ => .array .boolean
theorem xn_Mo : ∀ a, a < 31 → ∀ b, b < 31 → a ≠ b → (xT_Mo a).2.1 ≠ (xT_Mo b).2.1 := by decide +kernel
theorem xt_Mo_ok : ∀ k, k < 31 → parseFieldDescriptor (xT_Mo k).2.2.1 = some (xt_Mo k) := by decide +kernel
theorem xi_Mo : ∀ w ∈ u_ws xR_Mo xT_Mo 31, w ∈ wT := fun w hw => by
  have h : w ∈ ([Cond.lays xR_Mo "LayerDeskModel" "fault" "I", Cond.lays xR_Mo "LayerDeskModel" "why" "I", Cond.laysFinal xR_Mo "LayerDeskModel" "text" "[C", Cond.lays xR_Mo "LayerDeskModel" "written" "I", Cond.lays xR_Mo "LayerDeskModel" "words" "I", Cond.laysFinal xR_Mo "LayerDeskModel" "begin" "[I", Cond.laysFinal xR_Mo "LayerDeskModel" "end" "[I", Cond.lays xR_Mo "LayerDeskModel" "descriptors" "I", Cond.laysFinal xR_Mo "LayerDeskModel" "finder" "[I", Cond.laysFinal xR_Mo "LayerDeskModel" "name" "[I", Cond.laysFinal xR_Mo "LayerDeskModel" "packages" "[I", Cond.laysFinal xR_Mo "LayerDeskModel" "pack" "[I", Cond.laysFinal xR_Mo "LayerDeskModel" "exportTo" "[I", Cond.laysFinal xR_Mo "LayerDeskModel" "openTo" "[I", Cond.laysFinal xR_Mo "LayerDeskModel" "exportAll" "[Z", Cond.laysFinal xR_Mo "LayerDeskModel" "openAll" "[Z", Cond.laysFinal xR_Mo "LayerDeskModel" "locked" "[Z", Cond.laysFinal xR_Mo "LayerDeskModel" "requires" "[I", Cond.laysFinal xR_Mo "LayerDeskModel" "require" "[I", Cond.laysFinal xR_Mo "LayerDeskModel" "use" "[I", Cond.laysFinal xR_Mo "LayerDeskModel" "provide" "[I", Cond.laysFinal xR_Mo "LayerDeskModel" "passes" "[Z", Cond.laysFinal xR_Mo "LayerDeskModel" "still" "[Z", Cond.lays xR_Mo "LayerDeskModel" "layers" "I", Cond.laysFinal xR_Mo "LayerDeskModel" "finderOf" "[I", Cond.laysFinal xR_Mo "LayerDeskModel" "parent" "[I", Cond.laysFinal xR_Mo "LayerDeskModel" "modules" "[I", Cond.laysFinal xR_Mo "LayerDeskModel" "module" "[I", Cond.laysFinal xR_Mo "LayerDeskModel" "open" "[Z", Cond.laysFinal xR_Mo "LayerDeskModel" "stack" "[I", Cond.laysFinal xR_Mo "LayerDeskModel" "seen" "[Z"] : List Cond) := hw
  simp only [List.mem_cons, List.not_mem_nil, or_false] at h
  rcases h with rfl | rfl | rfl | rfl | rfl | rfl | rfl | rfl | rfl | rfl | rfl | rfl | rfl | rfl | rfl | rfl | rfl | rfl | rfl | rfl | rfl | rfl | rfl | rfl | rfl | rfl | rfl | rfl | rfl | rfl | rfl
  · exact wT_t (List.mem_append_right _ (List.mem_append_right _ (List.mem_append_right _ (List.mem_append_left _ (List.mem_of_getElem? (i := 115) rfl))))) rfl
  · exact wT_t (List.mem_append_right _ (List.mem_append_right _ (List.mem_append_right _ (List.mem_append_left _ (List.mem_of_getElem? (i := 117) rfl))))) rfl
  · exact wT_t (List.mem_append_right _ (List.mem_append_right _ (List.mem_append_right _ (List.mem_append_left _ (List.mem_of_getElem? (i := 119) rfl))))) rfl
  · exact wT_t (List.mem_append_right _ (List.mem_append_right _ (List.mem_append_right _ (List.mem_append_left _ (List.mem_of_getElem? (i := 121) rfl))))) rfl
  · exact wT_t (List.mem_append_right _ (List.mem_append_right _ (List.mem_append_right _ (List.mem_append_left _ (List.mem_of_getElem? (i := 123) rfl))))) rfl
  · exact wT_t (List.mem_append_right _ (List.mem_append_right _ (List.mem_append_right _ (List.mem_append_left _ (List.mem_of_getElem? (i := 125) rfl))))) rfl
  · exact wT_t (List.mem_append_right _ (List.mem_append_right _ (List.mem_append_right _ (List.mem_append_left _ (List.mem_of_getElem? (i := 127) rfl))))) rfl
  · exact wT_t (List.mem_append_right _ (List.mem_append_right _ (List.mem_append_right _ (List.mem_append_left _ (List.mem_of_getElem? (i := 129) rfl))))) rfl
  · exact wT_t (List.mem_append_right _ (List.mem_append_right _ (List.mem_append_right _ (List.mem_append_left _ (List.mem_of_getElem? (i := 131) rfl))))) rfl
  · exact wT_t (List.mem_append_right _ (List.mem_append_right _ (List.mem_append_right _ (List.mem_append_left _ (List.mem_of_getElem? (i := 133) rfl))))) rfl
  · exact wT_t (List.mem_append_right _ (List.mem_append_right _ (List.mem_append_right _ (List.mem_append_left _ (List.mem_of_getElem? (i := 135) rfl))))) rfl
  · exact wT_t (List.mem_append_right _ (List.mem_append_right _ (List.mem_append_right _ (List.mem_append_left _ (List.mem_of_getElem? (i := 137) rfl))))) rfl
  · exact wT_t (List.mem_append_right _ (List.mem_append_right _ (List.mem_append_right _ (List.mem_append_left _ (List.mem_of_getElem? (i := 139) rfl))))) rfl
  · exact wT_t (List.mem_append_right _ (List.mem_append_right _ (List.mem_append_right _ (List.mem_append_left _ (List.mem_of_getElem? (i := 141) rfl))))) rfl
  · exact wT_t (List.mem_append_right _ (List.mem_append_right _ (List.mem_append_right _ (List.mem_append_left _ (List.mem_of_getElem? (i := 143) rfl))))) rfl
  · exact wT_t (List.mem_append_right _ (List.mem_append_right _ (List.mem_append_right _ (List.mem_append_left _ (List.mem_of_getElem? (i := 145) rfl))))) rfl
  · exact wT_t (List.mem_append_right _ (List.mem_append_right _ (List.mem_append_right _ (List.mem_append_left _ (List.mem_of_getElem? (i := 147) rfl))))) rfl
  · exact wT_t (List.mem_append_right _ (List.mem_append_right _ (List.mem_append_right _ (List.mem_append_left _ (List.mem_of_getElem? (i := 149) rfl))))) rfl
  · exact wT_t (List.mem_append_right _ (List.mem_append_right _ (List.mem_append_right _ (List.mem_append_left _ (List.mem_of_getElem? (i := 151) rfl))))) rfl
  · exact wT_t (List.mem_append_right _ (List.mem_append_right _ (List.mem_append_right _ (List.mem_append_left _ (List.mem_of_getElem? (i := 153) rfl))))) rfl
  · exact wT_t (List.mem_append_right _ (List.mem_append_right _ (List.mem_append_right _ (List.mem_append_left _ (List.mem_of_getElem? (i := 155) rfl))))) rfl
  · exact wT_t (List.mem_append_right _ (List.mem_append_right _ (List.mem_append_right _ (List.mem_append_left _ (List.mem_of_getElem? (i := 157) rfl))))) rfl
  · exact wT_t (List.mem_append_right _ (List.mem_append_right _ (List.mem_append_right _ (List.mem_append_left _ (List.mem_of_getElem? (i := 159) rfl))))) rfl
  · exact wT_t (List.mem_append_right _ (List.mem_append_right _ (List.mem_append_right _ (List.mem_append_left _ (List.mem_of_getElem? (i := 161) rfl))))) rfl
  · exact wT_t (List.mem_append_right _ (List.mem_append_right _ (List.mem_append_right _ (List.mem_append_left _ (List.mem_of_getElem? (i := 163) rfl))))) rfl
  · exact wT_t (List.mem_append_right _ (List.mem_append_right _ (List.mem_append_right _ (List.mem_append_left _ (List.mem_of_getElem? (i := 165) rfl))))) rfl
  · exact wT_t (List.mem_append_right _ (List.mem_append_right _ (List.mem_append_right _ (List.mem_append_left _ (List.mem_of_getElem? (i := 167) rfl))))) rfl
  · exact wT_t (List.mem_append_right _ (List.mem_append_right _ (List.mem_append_right _ (List.mem_append_left _ (List.mem_of_getElem? (i := 169) rfl))))) rfl
  · exact wT_t (List.mem_append_right _ (List.mem_append_right _ (List.mem_append_right _ (List.mem_append_left _ (List.mem_of_getElem? (i := 171) rfl))))) rfl
  · exact wT_t (List.mem_append_right _ (List.mem_append_right _ (List.mem_append_right _ (List.mem_append_left _ (List.mem_of_getElem? (i := 173) rfl))))) rfl
  · exact wT_t (List.mem_append_right _ (List.mem_append_right _ (List.mem_append_right _ (List.mem_append_left _ (List.mem_of_getElem? (i := 175) rfl))))) rfl
def xR_Ly : String := "LayerDesk$Layer"
def xT_Ly : u_T := fun k => match k with
  | 0 => ("LayerDesk$Layer", "number", "I", true)
  | 1 => ("LayerDesk$Layer", "parent", "LLayerDesk$Layer;", true)
  | 2 => ("LayerDesk$Layer", "members", "[LLayerDesk$Member;", true)
  | _ => ("LayerDesk$Layer", "open", "Z", false)
def xt_Ly : Nat → FieldType := fun k => match k with
  | 0 => .int
  | 1 => .object "LayerDesk$Layer"
  | 2 => .array (.object "LayerDesk$Member")
  | _ => .boolean
theorem xn_Ly : ∀ a, a < 4 → ∀ b, b < 4 → a ≠ b → (xT_Ly a).2.1 ≠ (xT_Ly b).2.1 := by decide +kernel
theorem xt_Ly_ok : ∀ k, k < 4 → parseFieldDescriptor (xT_Ly k).2.2.1 = some (xt_Ly k) := by decide +kernel
theorem xi_Ly : ∀ w ∈ u_ws xR_Ly xT_Ly 4, w ∈ wT := fun w hw => by
  have h : w ∈ ([Cond.laysFinal xR_Ly "LayerDesk$Layer" "number" "I", Cond.laysFinal xR_Ly "LayerDesk$Layer" "parent" "LLayerDesk$Layer;", Cond.laysFinal xR_Ly "LayerDesk$Layer" "members" "[LLayerDesk$Member;", Cond.lays xR_Ly "LayerDesk$Layer" "open" "Z"] : List Cond) := hw
  simp only [List.mem_cons, List.not_mem_nil, or_false] at h
  rcases h with rfl | rfl | rfl | rfl
  · exact wT_t (List.mem_append_right _ (List.mem_append_right _ (List.mem_append_left _ (List.mem_of_getElem? (i := 153) rfl)))) rfl
  · exact wT_t (List.mem_append_right _ (List.mem_append_right _ (List.mem_append_left _ (List.mem_of_getElem? (i := 155) rfl)))) rfl
  · exact wT_t (List.mem_append_right _ (List.mem_append_right _ (List.mem_append_left _ (List.mem_of_getElem? (i := 157) rfl)))) rfl
  · exact wT_t (List.mem_append_right _ (List.mem_append_right _ (List.mem_append_left _ (List.mem_of_getElem? (i := 159) rfl)))) rfl
def xR_Me : String := "LayerDesk$Member"
def xT_Me : u_T := fun k => match k with
  | 0 => ("LayerDesk$Member", "home", "LLayerDesk$Layer;", true)
  | 1 => ("LayerDesk$Member", "descriptor", "LLayerDesk$Descriptor;", true)
  | 2 => ("LayerDesk$Member", "required", "[LLayerDesk$Member;", true)
  | 3 => ("LayerDesk$Member", "leading", "LLayerDesk$Reach;", true)
  | 4 => ("LayerDesk$Member", "carried", "LLayerDesk$Reach;", true)
  | _ => ("LayerDesk$Member", "reading", "LLayerDesk$Reach;", true)
def xt_Me : Nat → FieldType := fun k => match k with
  | 0 => .object "LayerDesk$Layer"
  | 1 => .object "LayerDesk$Descriptor"
  | 2 => .array (.object "LayerDesk$Member")
  | 3 => .object "LayerDesk$Reach"
  | 4 => .object "LayerDesk$Reach"
  | _ => .object "LayerDesk$Reach"
theorem xn_Me : ∀ a, a < 6 → ∀ b, b < 6 → a ≠ b → (xT_Me a).2.1 ≠ (xT_Me b).2.1 := by decide +kernel
theorem xt_Me_ok : ∀ k, k < 6 → parseFieldDescriptor (xT_Me k).2.2.1 = some (xt_Me k) := by decide +kernel
theorem xi_Me : ∀ w ∈ u_ws xR_Me xT_Me 6, w ∈ wT := fun w hw => by
  have h : w ∈ ([Cond.laysFinal xR_Me "LayerDesk$Member" "home" "LLayerDesk$Layer;", Cond.laysFinal xR_Me "LayerDesk$Member" "descriptor" "LLayerDesk$Descriptor;", Cond.laysFinal xR_Me "LayerDesk$Member" "required" "[LLayerDesk$Member;", Cond.laysFinal xR_Me "LayerDesk$Member" "leading" "LLayerDesk$Reach;", Cond.laysFinal xR_Me "LayerDesk$Member" "carried" "LLayerDesk$Reach;", Cond.laysFinal xR_Me "LayerDesk$Member" "reading" "LLayerDesk$Reach;"] : List Cond) := hw
  simp only [List.mem_cons, List.not_mem_nil, or_false] at h
  rcases h with rfl | rfl | rfl | rfl | rfl | rfl
  · exact wT_t (List.mem_append_right _ (List.mem_append_right _ (List.mem_append_left _ (List.mem_of_getElem? (i := 193) rfl)))) rfl
  · exact wT_t (List.mem_append_right _ (List.mem_append_right _ (List.mem_append_left _ (List.mem_of_getElem? (i := 195) rfl)))) rfl
  · exact wT_t (List.mem_append_right _ (List.mem_append_right _ (List.mem_append_left _ (List.mem_of_getElem? (i := 197) rfl)))) rfl
  · exact wT_t (List.mem_append_right _ (List.mem_append_right _ (List.mem_append_left _ (List.mem_of_getElem? (i := 199) rfl)))) rfl
  · exact wT_t (List.mem_append_right _ (List.mem_append_right _ (List.mem_append_left _ (List.mem_of_getElem? (i := 201) rfl)))) rfl
  · exact wT_t (List.mem_append_right _ (List.mem_append_right _ (List.mem_append_left _ (List.mem_of_getElem? (i := 203) rfl)))) rfl
def xR_Ds : String := "LayerDesk$Descriptor"
def xT_Ds : u_T := fun k => match k with
  | 0 => ("LayerDesk$Descriptor", "number", "I", true)
  | 1 => ("LayerDesk$Descriptor", "finder", "I", true)
  | 2 => ("LayerDesk$Descriptor", "name", "I", true)
  | 3 => ("LayerDesk$Descriptor", "packages", "LLayerDesk$Names;", true)
  | 4 => ("LayerDesk$Descriptor", "exported", "[LLayerDesk$Grant;", true)
  | 5 => ("LayerDesk$Descriptor", "opened", "[LLayerDesk$Grant;", true)
  | 6 => ("LayerDesk$Descriptor", "required", "LLayerDesk$Names;", true)
  | 7 => ("LayerDesk$Descriptor", "transitive", "[Z", true)
  | 8 => ("LayerDesk$Descriptor", "optional", "[Z", true)
  | 9 => ("LayerDesk$Descriptor", "used", "LLayerDesk$Names;", true)
  | 10 => ("LayerDesk$Descriptor", "provided", "LLayerDesk$Names;", true)
  | _ => ("LayerDesk$Descriptor", "settled", "Z", false)
def xt_Ds : Nat → FieldType := fun k => match k with
  | 0 => .int
  | 1 => .int
  | 2 => .int
  | 3 => .object "LayerDesk$Names"
  | 4 => .array (.object "LayerDesk$Grant")
  | 5 => .array (.object "LayerDesk$Grant")
  | 6 => .object "LayerDesk$Names"
  | 7 => .array .boolean
  | 8 => .array .boolean
  | 9 => .object "LayerDesk$Names"
  | 10 => .object "LayerDesk$Names"
  | _ => .boolean
theorem xn_Ds : ∀ a, a < 12 → ∀ b, b < 12 → a ≠ b → (xT_Ds a).2.1 ≠ (xT_Ds b).2.1 := by decide +kernel
theorem xt_Ds_ok : ∀ k, k < 12 → parseFieldDescriptor (xT_Ds k).2.2.1 = some (xt_Ds k) := by decide +kernel
theorem xi_Ds : ∀ w ∈ u_ws xR_Ds xT_Ds 12, w ∈ wT := fun w hw => by
  have h : w ∈ ([Cond.laysFinal xR_Ds "LayerDesk$Descriptor" "number" "I", Cond.laysFinal xR_Ds "LayerDesk$Descriptor" "finder" "I", Cond.laysFinal xR_Ds "LayerDesk$Descriptor" "name" "I", Cond.laysFinal xR_Ds "LayerDesk$Descriptor" "packages" "LLayerDesk$Names;", Cond.laysFinal xR_Ds "LayerDesk$Descriptor" "exported" "[LLayerDesk$Grant;", Cond.laysFinal xR_Ds "LayerDesk$Descriptor" "opened" "[LLayerDesk$Grant;", Cond.laysFinal xR_Ds "LayerDesk$Descriptor" "required" "LLayerDesk$Names;", Cond.laysFinal xR_Ds "LayerDesk$Descriptor" "transitive" "[Z", Cond.laysFinal xR_Ds "LayerDesk$Descriptor" "optional" "[Z", Cond.laysFinal xR_Ds "LayerDesk$Descriptor" "used" "LLayerDesk$Names;", Cond.laysFinal xR_Ds "LayerDesk$Descriptor" "provided" "LLayerDesk$Names;", Cond.lays xR_Ds "LayerDesk$Descriptor" "settled" "Z"] : List Cond) := hw
  simp only [List.mem_cons, List.not_mem_nil, or_false] at h
  rcases h with rfl | rfl | rfl | rfl | rfl | rfl | rfl | rfl | rfl | rfl | rfl | rfl
  · exact wT_t (List.mem_append_right _ (List.mem_append_left _ (List.mem_of_getElem? (i := 85) rfl))) rfl
  · exact wT_t (List.mem_append_right _ (List.mem_append_left _ (List.mem_of_getElem? (i := 87) rfl))) rfl
  · exact wT_t (List.mem_append_right _ (List.mem_append_left _ (List.mem_of_getElem? (i := 89) rfl))) rfl
  · exact wT_t (List.mem_append_right _ (List.mem_append_left _ (List.mem_of_getElem? (i := 91) rfl))) rfl
  · exact wT_t (List.mem_append_right _ (List.mem_append_left _ (List.mem_of_getElem? (i := 93) rfl))) rfl
  · exact wT_t (List.mem_append_right _ (List.mem_append_left _ (List.mem_of_getElem? (i := 95) rfl))) rfl
  · exact wT_t (List.mem_append_right _ (List.mem_append_left _ (List.mem_of_getElem? (i := 97) rfl))) rfl
  · exact wT_t (List.mem_append_right _ (List.mem_append_left _ (List.mem_of_getElem? (i := 99) rfl))) rfl
  · exact wT_t (List.mem_append_right _ (List.mem_append_left _ (List.mem_of_getElem? (i := 101) rfl))) rfl
  · exact wT_t (List.mem_append_right _ (List.mem_append_left _ (List.mem_of_getElem? (i := 103) rfl))) rfl
  · exact wT_t (List.mem_append_right _ (List.mem_append_left _ (List.mem_of_getElem? (i := 105) rfl))) rfl
  · exact wT_t (List.mem_append_right _ (List.mem_append_left _ (List.mem_of_getElem? (i := 107) rfl))) rfl
def xR_Na : String := "LayerDesk$Names"
def xT_Na : u_T := fun k => match k with
  | 0 => ("LayerDesk$Names", "entries", "[I", true)
  | _ => ("LayerDesk$Names", "size", "I", false)
def xt_Na : Nat → FieldType := fun k => match k with
  | 0 => .array .int
  | _ => .int
theorem xn_Na : ∀ a, a < 2 → ∀ b, b < 2 → a ≠ b → (xT_Na a).2.1 ≠ (xT_Na b).2.1 := by decide +kernel
theorem xt_Na_ok : ∀ k, k < 2 → parseFieldDescriptor (xT_Na k).2.2.1 = some (xt_Na k) := by decide +kernel
theorem xi_Na : ∀ w ∈ u_ws xR_Na xT_Na 2, w ∈ wT := fun w hw => by
  have h : w ∈ ([Cond.laysFinal xR_Na "LayerDesk$Names" "entries" "[I", Cond.lays xR_Na "LayerDesk$Names" "size" "I"] : List Cond) := hw
  simp only [List.mem_cons, List.not_mem_nil, or_false] at h
  rcases h with rfl | rfl
  · exact wT_t (List.mem_append_right _ (List.mem_append_left _ (List.mem_of_getElem? (i := 38) rfl))) rfl
  · exact wT_t (List.mem_append_right _ (List.mem_append_left _ (List.mem_of_getElem? (i := 40) rfl))) rfl
def xR_Gr : String := "LayerDesk$Grant"
def xT_Gr : u_T := fun k => match k with
  | 0 => ("LayerDesk$Grant", "names", "LLayerDesk$Names;", true)
  | _ => ("LayerDesk$Grant", "toAll", "Z", false)
def xt_Gr : Nat → FieldType := fun k => match k with
  | 0 => .object "LayerDesk$Names"
  | _ => .boolean
theorem xn_Gr : ∀ a, a < 2 → ∀ b, b < 2 → a ≠ b → (xT_Gr a).2.1 ≠ (xT_Gr b).2.1 := by decide +kernel
theorem xt_Gr_ok : ∀ k, k < 2 → parseFieldDescriptor (xT_Gr k).2.2.1 = some (xt_Gr k) := by decide +kernel
theorem xi_Gr : ∀ w ∈ u_ws xR_Gr xT_Gr 2, w ∈ wT := fun w hw => by
  have h : w ∈ ([Cond.laysFinal xR_Gr "LayerDesk$Grant" "names" "LLayerDesk$Names;", Cond.lays xR_Gr "LayerDesk$Grant" "toAll" "Z"] : List Cond) := hw
  simp only [List.mem_cons, List.not_mem_nil, or_false] at h
  rcases h with rfl | rfl
  · exact wT_t (List.mem_append_right _ (List.mem_append_left _ (List.mem_of_getElem? (i := 146) rfl))) rfl
  · exact wT_t (List.mem_append_right _ (List.mem_append_left _ (List.mem_of_getElem? (i := 148) rfl))) rfl
def xR_Re : String := "LayerDesk$Reach"
def xT_Re : u_T := fun k => match k with
  | _ => ("LayerDesk$Reach", "rows", "[I", true)
def xt_Re : Nat → FieldType := fun k => match k with
  | _ => .array .int
theorem xn_Re : ∀ a, a < 1 → ∀ b, b < 1 → a ≠ b → (xT_Re a).2.1 ≠ (xT_Re b).2.1 := by decide +kernel
theorem xt_Re_ok : ∀ k, k < 1 → parseFieldDescriptor (xT_Re k).2.2.1 = some (xt_Re k) := by decide +kernel
theorem xi_Re : ∀ w ∈ u_ws xR_Re xT_Re 1, w ∈ wT := fun w hw => by
  have h : w ∈ ([Cond.laysFinal xR_Re "LayerDesk$Reach" "rows" "[I"] : List Cond) := hw
  simp only [List.mem_cons, List.not_mem_nil, or_false] at h
  rcases h with rfl
  · exact wT_t (List.mem_append_right _ (List.mem_append_right _ (List.mem_append_left _ (List.mem_of_getElem? (i := 175) rfl)))) rfl
def xcl : List vw_C := [(xR_De, xT_De, 6), (xR_Li, xT_Li, 5), (xR_Sh, xT_Sh, 2), (xR_Ch, xT_Ch, 5), (xR_Mo, xT_Mo, 31), (xR_Ly, xT_Ly, 4), (xR_Me, xT_Me, 6), (xR_Ds, xT_Ds, 12), (xR_Na, xT_Na, 2), (xR_Gr, xT_Gr, 2), (xR_Re, xT_Re, 1)]
def xty (kA : Nat → ClassId) : List (ClassId × FieldType) := [(kA 0, .int), (kA 1, .char), (kA 2, .boolean), (kA 3, .long), (kA 4, .object "LayerDesk$Descriptor"), (kA 5, .object "LayerDesk$Layer"), (kA 6, .object "LayerDesk$Member"), (kA 7, .object "LayerDesk$Reach"), (kA 8, .object "LayerDesk$Grant")]
def xE1 (U : State) : Prop := va_Nw (.methodLinkNest "LayerDesk" 9 ⟨"LayerDesk$Line", "<init>", "()V"⟩ "LayerDesk") U ∧ va_Nw (.methodLinkNest "LayerDesk" 18 ⟨"LayerDesk$Shelf", "<init>", "()V"⟩ "LayerDesk") U ∧ va_Nw (.methodLinkNest "LayerDesk$Descriptor" 64 ⟨"LayerDesk$Grant", "<init>", "()V"⟩ "LayerDesk") U ∧ va_Nw (.methodLinkNest "LayerDesk$Member" 11 ⟨"LayerDesk$Reach", "<init>", "()V"⟩ "LayerDesk") U ∧ va_AO "LayerDesk$Descriptor" U ∧ va_AO "LayerDesk$Layer" U ∧ va_AO "LayerDesk$Member" U ∧ va_AO "LayerDesk$Reach" U ∧ va_AO "LayerDesk$Grant" U
theorem xE1.warm {s U : State} (hW : s.WarmedH U.vm) (h : xE1 s) : xE1 U := by
  obtain ⟨h1, h2, h3, h4, h5, h6, h7, h8, h9⟩ := h
  exact ⟨va_Nw.warmM hW h1, va_Nw.warmM hW h2, va_Nw.warmM hW h3, va_Nw.warmM hW h4, va_AO.moved hW.alike h5, va_AO.moved hW.alike h6, va_AO.moved hW.alike h7, va_AO.moved hW.alike h8, va_AO.moved hW.alike h9⟩
theorem xE1.same {s U : State} (hv : s.vm = U.vm) (h : xE1 s) : xE1 U := by
  obtain ⟨h1, h2, h3, h4, h5, h6, h7, h8, h9⟩ := h
  have ha : s.vm.Alike U.vm := by rw [hv]; exact Vm.Alike.refl _
  exact ⟨va_Nw.same rfl hv h1, va_Nw.same rfl hv h2, va_Nw.same rfl hv h3, va_Nw.same rfl hv h4, va_AO.moved ha h5, va_AO.moved ha h6, va_AO.moved ha h7, va_AO.moved ha h8, va_AO.moved ha h9⟩
def xE2 (U : State) : Prop := va_Nw (.declares ⟨"java/lang/RuntimeException", "<init>", "(Ljava/lang/String;)V"⟩) U ∧ va_Nw (.declares ⟨"java/lang/Exception", "<init>", "(Ljava/lang/String;)V"⟩) U ∧ va_Nw (.declares ⟨"java/lang/Throwable", "<init>", "(Ljava/lang/String;)V"⟩) U ∧ va_Nw (.castable "java/lang/IllegalArgumentException" "java/lang/IllegalArgumentException") U ∧ va_Nw (.castable "java/lang/IllegalStateException" "java/lang/IllegalStateException") U ∧ va_Nw (.castable "java/util/NoSuchElementException" "java/util/NoSuchElementException") U
theorem xE2.warm {s U : State} (hW : s.WarmedH U.vm) (h : xE2 s) : xE2 U := by
  obtain ⟨h1, h2, h3, h4, h5, h6⟩ := h
  exact ⟨va_Nw.warmD hW h1, va_Nw.warmD hW h2, va_Nw.warmD hW h3, va_Nw.warmC hW h4, va_Nw.warmC hW h5, va_Nw.warmC hW h6⟩
theorem xE2.same {s U : State} (hv : s.vm = U.vm) (h : xE2 s) : xE2 U := by
  obtain ⟨h1, h2, h3, h4, h5, h6⟩ := h
  exact ⟨va_Nw.same rfl hv h1, va_Nw.same rfl hv h2, va_Nw.same rfl hv h3, va_Nw.same rfl hv h4, va_Nw.same rfl hv h5, va_Nw.same rfl hv h6⟩
def xE (U : State) : Prop := xE1 U ∧ xE2 U
theorem xE.warm {s U : State} (hW : s.WarmedH U.vm) (h : xE s) : xE U := ⟨xE1.warm hW h.1, xE2.warm hW h.2⟩
theorem xE.same {s U : State} (hv : s.vm = U.vm) (h : xE s) : xE U := ⟨xE1.same hv h.1, xE2.same hv h.2⟩
def xK (D : va_G) (kA : Nat → ClassId) (U : State) : Prop := va_K D xcl (xty kA) U ∧ xE U
theorem xK.warm {D : va_G} {kA : Nat → ClassId} {s U : State} (hW : s.WarmedH U.vm) (h : xK D kA s) : xK D kA U := ⟨va_K.moved hW.alike h.1, xE.warm hW h.2⟩
theorem xK.same {D : va_G} {kA : Nat → ClassId} {s U : State} (hv : s.vm = U.vm) (h : xK D kA s) : xK D kA U := ⟨va_K.moved (by rw [hv]; exact Vm.Alike.refl _) h.1, xE.same hv h.2⟩
def xPre (D : va_G) (kA : Nat → ClassId) (sz : Nat) (ws : va_W) (U : State) : Prop := U.heap.size = sz ∧ va_P D xcl ws U.heap ∧ xK D kA U ∧ va_D (fun _ => True) ws
theorem x_blind {av : List Value} {D : va_G} {kA : Nat → ClassId} {sz : Nat} {ws : va_W} : FrameBlind (va_Pc av (xPre D kA sz ws)) := fun a U g mk h => by
  obtain ⟨q0, q1, qP, qK, qD⟩ := h
  exact ⟨q0, q1, qP, xK.same (s := U) (U := U.calling g mk a) rfl qK, qD⟩
theorem x_preS {s : State} {H : Heap} {D : va_G} {kA : Nat → ClassId} {wc : va_W} {A : Nat → Prop} {As : List Value} (hK : xK D kA s) (hP : va_P D xcl wc H) (hD : va_D A wc) : PreS s H (va_Pc As (xPre D kA H.size wc)) As :=
  ⟨x_blind, fun U hU hW => ⟨rfl, by rw [hU], by rw [hU]; exact hP, xK.warm hW hK, hD.weaken (fun _ _ _ _ => trivial)⟩⟩
theorem x_preV {s : State} {H : Heap} {D : va_G} {kA : Nat → ClassId} {wc : va_W} {A : Nat → Prop} {As : List Value} {b ci : Nat} {fs : List Value} {q : vw_C} (hK : xK D kA s) (hP : va_P D xcl wc H) (hD : va_D A wc) (q0 : Nat) (he : wc[q0]? = some (b, .inr (ci, fs))) (hc : xcl[ci]? = some q) : PreV s H q.1 b (va_Pc (.ref b :: As) (xPre D kA H.size wc)) As :=
  ⟨x_blind, va_recv hK.1 hP hc he, fun U hU hW => ⟨rfl, by rw [hU], by rw [hU]; exact hP, xK.warm hW hK, hD.weaken (fun _ _ _ _ => trivial)⟩⟩
section XA
variable {p : Program} {l : Launch} {e : Env} {R : Room} {s : State} {m : MethodId} {args : Array Value} {below : List Frame} {meth : Method} {c : Code} {H : Heap} {locs : List Loc} {cells slots : Nat} {Q : State → Prop}
variable {cc : ByteArray} {pc : Nat} {ls : Array Slot} {rest : List Value} {D : va_G} {cl : List vw_C} {tys : List (ClassId × FieldType)} {ws : va_W} {A : Nat → Prop} {H0 : Heap}
theorem xa_newa (hexec : p.tables.exec = Jvm.exec) (hb : c.code = cc) {atype : ArrayType} (harr : (Cond.arrayClass (newarray.typeOf atype)).before args s = true) {ty : FieldType} (hty : newarray.typeOf atype = ty) (hra : ∀ cA : ClassId, va_RA s cA ty → s.vm.findClass ("[" ++ ty.toString) = some cA) (hK : va_K D cl tys s) (t0 : Nat) {cA0 : ClassId} (ht : tys[t0]? = some (cA0, ty)) (hP : va_P D cl ws H) (hD : va_D A ws) (hS : va_S A H0 H locs) (hA : ∀ q, H0.size ≤ q → A q)
    {n : Int32} {N' : Nat} {a0 : vp_A} (ha : ∀ cA : ClassId, vp_cell cA a0 = arrV cA N' (fun _ => defaultValue ty)) (hn : ¬ n < 0) (hN : n.toNatClampNeg = N') (hbytes : N' * componentBytes ty ≤ 536870912) (hcells : cells + 1 ≤ R.cells) (hslots : slots + N' ≤ R.slots) (hdg : decode cc pc = .ok (.newarray atype, 2))
    (kk : ∀ (q : Nat) (H1 : Heap), va_P D cl (ws ++ [(q, .inl (cA0, a0))]) H1 → va_D A (ws ++ [(q, .inl (cA0, a0))]) → va_S A H0 H1 locs →
      W p l e R s m args below meth c H1 locs (cells + 1) (slots + N') Q (F0 m (pc + 2) ls (.ref q :: rest))) : W p l e R s m args below meth c H locs cells slots Q (F0 m pc ls (.int n :: rest)) := by
  refine va_newa hexec hb harr hty hK hP hD hS hA ha hn hN hbytes hcells hslots hdg (fun q cA H1 hK1 hP1 hD1 hS1 => ?_)
  have e1 := hra _ (hK.2 t0 _ ht).2
  have e2 := hra _ (hK1.2 tys.length (cA, ty) (by simp)).2
  cases Option.some.inj (e1.symm.trans e2)
  exact kk q H1 hP1 hD1 hS1
theorem xa_newq (hexec : p.tables.exec = Jvm.exec) (hb : c.code = cc) {own C : String} {index : Nat} (hown : s.vm.findClass own = some m.cls) (hclink : (Cond.classLink own index C).before args s = true) (hover : va_AO C s) (hK : va_K D cl tys s) (t0 : Nat) {cA0 : ClassId} (ht : tys[t0]? = some (cA0, .object C)) (hP : va_P D cl ws H) (hD : va_D A ws) (hS : va_S A H0 H locs) (hA : ∀ q, H0.size ≤ q → A q)
    {n : Int32} {N' : Nat} (hn : ¬ n < 0) (hN : n.toNatClampNeg = N') (hbytes : N' * 4 ≤ 536870912) (hcells : cells + 1 ≤ R.cells) (hslots : slots + N' ≤ R.slots) (hdg : decode cc pc = .ok (.anewarray index, 3))
    (kk : ∀ (q : Nat) (H1 : Heap), va_P D cl (ws ++ [(q, .inl (cA0, N', .inr (.inr (.inr (.inr (fun _ => none))))))]) H1 → va_D A (ws ++ [(q, .inl (cA0, N', .inr (.inr (.inr (.inr (fun _ => none))))))]) → va_S A H0 H1 locs →
      W p l e R s m args below meth c H1 locs (cells + 1) (slots + N') Q (F0 m (pc + 3) ls (.ref q :: rest))) : W p l e R s m args below meth c H locs cells slots Q (F0 m pc ls (.int n :: rest)) := by
  refine va_newq hexec hb hown hclink hover hK hP hD hS hA hn hN hbytes hcells hslots hdg (fun q cA H1 hK1 hP1 hD1 hS1 => ?_)
  obtain ⟨-, -, -, -, -, e1⟩ := (hK.2 t0 _ ht).2
  obtain ⟨-, -, -, -, -, e2⟩ := (hK1.2 tys.length (cA, .object C) (by simp)).2
  cases Option.some.inj (e1.symm.trans e2)
  exact kk q H1 hP1 hD1 hS1
end XA
