/-! ===== words of the tables: the good ones (fn_tT) are the words of every contract; nest words (fn_nT) go with the state ===== -/
theorem fn_tm1 {w : Jvm.Cond} {k : Nat} (h : tables_1_1[k]? = some w) : w ∈ lw_tbl := List.mem_append_right _ (List.mem_append_left _ (List.mem_of_getElem? h))
theorem fn_tm2 {w : Jvm.Cond} {k : Nat} (h : tables_1_2[k]? = some w) : w ∈ lw_tbl := List.mem_append_right _ (List.mem_append_right _ (List.mem_append_left _ (List.mem_of_getElem? h)))
theorem fn_tm3 {w : Jvm.Cond} {k : Nat} (h : tables_1_3[k]? = some w) : w ∈ lw_tbl := List.mem_append_right _ (List.mem_append_right _ (List.mem_append_right _ (List.mem_append_left _ (List.mem_of_getElem? h))))
theorem fn_tm4 {w : Jvm.Cond} {k : Nat} (h : tables_1_4[k]? = some w) : w ∈ lw_tbl := List.mem_append_right _ (List.mem_append_right _ (List.mem_append_right _ (List.mem_append_right _ (List.mem_append_left _ (List.mem_of_getElem? h)))))
theorem fn_tm5 {w : Jvm.Cond} {k : Nat} (h : tables_1_5[k]? = some w) : w ∈ lw_tbl := List.mem_append_right _ (List.mem_append_right _ (List.mem_append_right _ (List.mem_append_right _ (List.mem_append_right _ (List.mem_of_getElem? h)))))
/-- three more words, out of the tables: hidden methods of the superclass of StringBuilder select themselves -/
def fn_xs : List Jvm.Cond := [.selects "java/lang/StringBuilder" ⟨"java/lang/AbstractStringBuilder", "ensureCapacityInternal", "(I)V"⟩ ⟨"java/lang/AbstractStringBuilder", "ensureCapacityInternal", "(I)V"⟩, .selects "java/lang/StringBuilder" ⟨"java/lang/AbstractStringBuilder", "putStringAt", "(ILjava/lang/String;)V"⟩ ⟨"java/lang/AbstractStringBuilder", "putStringAt", "(ILjava/lang/String;)V"⟩, .selects "java/lang/StringBuilder" ⟨"java/lang/AbstractStringBuilder", "inflateIfNeededFor", "(Ljava/lang/String;)V"⟩ ⟨"java/lang/AbstractStringBuilder", "inflateIfNeededFor", "(Ljava/lang/String;)V"⟩]
def fn_tT : List Jvm.Cond := (lw_tbl ++ fn_xs).filter goodWord
def fn_isN : Jvm.Cond → Bool
  | .fieldLinkNest .. => true
  | .methodLinkNest .. => true
  | _ => false
def fn_nT : List Jvm.Cond := lw_tbl.filter fn_isN
theorem fn_gd {w : Jvm.Cond} (h : w ∈ lw_tbl) (g : goodWord w = true) : w ∈ fn_tT := List.mem_filter.mpr ⟨List.mem_append_left _ h, g⟩
theorem fn_gx {w : Jvm.Cond} {k : Nat} (h : fn_xs[k]? = some w) (g : goodWord w = true) : w ∈ fn_tT := List.mem_filter.mpr ⟨List.mem_append_right _ (List.mem_of_getElem? h), g⟩
theorem fn_ns {w : Jvm.Cond} (h : w ∈ lw_tbl) (g : fn_isN w = true) : w ∈ fn_nT := List.mem_filter.mpr ⟨h, g⟩
theorem fn_good {w : Jvm.Cond} (h : w ∈ fn_tT) : (w.onTables && w.keeps) = true ∨ ∃ ty, w = .arrayClass ty := good_of_word (List.mem_filter.mp h).2
/-- a callee's words among a caller's: the same ones -/
theorem fn_GI {y : MethodName} {b : ByteArray} {n : Nat} {r : Option FieldType} (h : Jvm.Cond.code y b n r ∈ fn_tT) : GoodIn fn_tT (.code y b n r :: fn_tT) := fun w hw => by
  rcases List.mem_cons.mp hw with e | hw
  · subst e
    exact ⟨h, fn_good h⟩
  · exact ⟨hw, fn_good hw⟩
/-! ===== kinds of objects ===== -/
def fn_C0 : String := "FieldNet$Client"
def fn_F0 : u_T := fun k => match k with
  | 0 => ("FieldNet$Client", "busy", "Z", false)
  | 1 => ("FieldNet$Client", "forBoot", "Z", false)
  | 2 => ("FieldNet$Client", "node", "I", false)
  | 3 => ("FieldNet$Client", "asked", "I", false)
  | 4 => ("FieldNet$Client", "writes", "Z", false)
  | 5 => ("FieldNet$Client", "until", "I", false)
  | 6 => ("FieldNet$Client", "code", "I", false)
  | 7 => ("FieldNet$Client", "result", "I", false)
  | 8 => ("FieldNet$Client", "hasLength", "Z", false)
  | 9 => ("FieldNet$Client", "length", "I", false)
  | 10 => ("FieldNet$Client", "toggle", "I", false)
  | 11 => ("FieldNet$Client", "letters", "[I", true)
  | _ => ("FieldNet$Client", "size", "I", false)
def fn_t0 : Nat → FieldType := fun k => match k with
  | 0 => .boolean
  | 1 => .boolean
  | 2 => .int
  | 3 => .int
  | 4 => .boolean
  | 5 => .int
  | 6 => .int
  | 7 => .int
  | 8 => .boolean
  | 9 => .int
  | 10 => .int
  | 11 => .array .int
  | _ => .int
theorem fn_u0 : u_ws fn_C0 fn_F0 13 = [Jvm.Cond.lays "FieldNet$Client" "FieldNet$Client" "busy" "Z", Jvm.Cond.lays "FieldNet$Client" "FieldNet$Client" "forBoot" "Z", Jvm.Cond.lays "FieldNet$Client" "FieldNet$Client" "node" "I", Jvm.Cond.lays "FieldNet$Client" "FieldNet$Client" "asked" "I", Jvm.Cond.lays "FieldNet$Client" "FieldNet$Client" "writes" "Z", Jvm.Cond.lays "FieldNet$Client" "FieldNet$Client" "until" "I", Jvm.Cond.lays "FieldNet$Client" "FieldNet$Client" "code" "I", Jvm.Cond.lays "FieldNet$Client" "FieldNet$Client" "result" "I", Jvm.Cond.lays "FieldNet$Client" "FieldNet$Client" "hasLength" "Z", Jvm.Cond.lays "FieldNet$Client" "FieldNet$Client" "length" "I", Jvm.Cond.lays "FieldNet$Client" "FieldNet$Client" "toggle" "I", Jvm.Cond.laysFinal "FieldNet$Client" "FieldNet$Client" "letters" "[I", Jvm.Cond.lays "FieldNet$Client" "FieldNet$Client" "size" "I"] := by decide +kernel
theorem fn_in0 : ∀ w ∈ u_ws fn_C0 fn_F0 13, w ∈ fn_tT := by
  rw [fn_u0]
  exact List.forall_mem_cons.mpr ⟨(fn_gd (fn_tm1 (k := 129) rfl) rfl), List.forall_mem_cons.mpr ⟨(fn_gd (fn_tm1 (k := 131) rfl) rfl), List.forall_mem_cons.mpr ⟨(fn_gd (fn_tm1 (k := 133) rfl) rfl), List.forall_mem_cons.mpr ⟨(fn_gd (fn_tm1 (k := 135) rfl) rfl), List.forall_mem_cons.mpr ⟨(fn_gd (fn_tm1 (k := 137) rfl) rfl), List.forall_mem_cons.mpr ⟨(fn_gd (fn_tm1 (k := 139) rfl) rfl), List.forall_mem_cons.mpr ⟨(fn_gd (fn_tm1 (k := 141) rfl) rfl), List.forall_mem_cons.mpr ⟨(fn_gd (fn_tm1 (k := 143) rfl) rfl), List.forall_mem_cons.mpr ⟨(fn_gd (fn_tm1 (k := 145) rfl) rfl), List.forall_mem_cons.mpr ⟨(fn_gd (fn_tm1 (k := 147) rfl) rfl), List.forall_mem_cons.mpr ⟨(fn_gd (fn_tm1 (k := 149) rfl) rfl), List.forall_mem_cons.mpr ⟨(fn_gd (fn_tm1 (k := 151) rfl) rfl), List.forall_mem_cons.mpr ⟨(fn_gd (fn_tm1 (k := 153) rfl) rfl), fun _ h => absurd h List.not_mem_nil⟩⟩⟩⟩⟩⟩⟩⟩⟩⟩⟩⟩⟩
theorem fn_nm0 : ∀ a, a < 13 → ∀ b, b < 13 → a ≠ b → (fn_F0 a).2.1 ≠ (fn_F0 b).2.1 := by decide +kernel
theorem fn_ty0 : ∀ k, k < 13 → parseFieldDescriptor (fn_F0 k).2.2.1 = some (fn_t0 k) := by decide +kernel
def fn_C1 : String := "FieldNet$Frame"
def fn_F1 : u_T := fun k => match k with
  | 0 => ("FieldNet$Frame", "from", "I", false)
  | 1 => ("FieldNet$Frame", "id", "I", false)
  | 2 => ("FieldNet$Frame", "a", "I", false)
  | 3 => ("FieldNet$Frame", "b", "I", false)
  | _ => ("FieldNet$Frame", "c", "I", false)
def fn_t1 : Nat → FieldType := fun k => match k with
  | 0 => .int
  | 1 => .int
  | 2 => .int
  | 3 => .int
  | _ => .int
theorem fn_u1 : u_ws fn_C1 fn_F1 5 = [Jvm.Cond.lays "FieldNet$Frame" "FieldNet$Frame" "from" "I", Jvm.Cond.lays "FieldNet$Frame" "FieldNet$Frame" "id" "I", Jvm.Cond.lays "FieldNet$Frame" "FieldNet$Frame" "a" "I", Jvm.Cond.lays "FieldNet$Frame" "FieldNet$Frame" "b" "I", Jvm.Cond.lays "FieldNet$Frame" "FieldNet$Frame" "c" "I"] := by decide +kernel
theorem fn_in1 : ∀ w ∈ u_ws fn_C1 fn_F1 5, w ∈ fn_tT := by
  rw [fn_u1]
  exact List.forall_mem_cons.mpr ⟨(fn_gd (fn_tm1 (k := 61) rfl) rfl), List.forall_mem_cons.mpr ⟨(fn_gd (fn_tm1 (k := 63) rfl) rfl), List.forall_mem_cons.mpr ⟨(fn_gd (fn_tm1 (k := 65) rfl) rfl), List.forall_mem_cons.mpr ⟨(fn_gd (fn_tm1 (k := 67) rfl) rfl), List.forall_mem_cons.mpr ⟨(fn_gd (fn_tm1 (k := 69) rfl) rfl), fun _ h => absurd h List.not_mem_nil⟩⟩⟩⟩⟩
theorem fn_nm1 : ∀ a, a < 5 → ∀ b, b < 5 → a ≠ b → (fn_F1 a).2.1 ≠ (fn_F1 b).2.1 := by decide +kernel
theorem fn_ty1 : ∀ k, k < 5 → parseFieldDescriptor (fn_F1 k).2.2.1 = some (fn_t1 k) := by decide +kernel
def fn_C2 : String := "FieldNet$Master"
def fn_F2 : u_T := fun k => match k with
  | 0 => ("FieldNet$Master", "client", "LFieldNet$Client;", true)
  | 1 => ("FieldNet$Master", "members", "[LFieldNet$Member;", true)
  | 2 => ("FieldNet$Master", "reports", "[I", true)
  | 3 => ("FieldNet$Master", "reported", "I", false)
  | _ => ("FieldNet$Master", "syncPeriod", "I", false)
def fn_t2 : Nat → FieldType := fun k => match k with
  | 0 => .object "FieldNet$Client"
  | 1 => .array (.object "FieldNet$Member")
  | 2 => .array .int
  | 3 => .int
  | _ => .int
theorem fn_u2 : u_ws fn_C2 fn_F2 5 = [Jvm.Cond.laysFinal "FieldNet$Master" "FieldNet$Master" "client" "LFieldNet$Client;", Jvm.Cond.laysFinal "FieldNet$Master" "FieldNet$Master" "members" "[LFieldNet$Member;", Jvm.Cond.laysFinal "FieldNet$Master" "FieldNet$Master" "reports" "[I", Jvm.Cond.lays "FieldNet$Master" "FieldNet$Master" "reported" "I", Jvm.Cond.lays "FieldNet$Master" "FieldNet$Master" "syncPeriod" "I"] := by decide +kernel
theorem fn_in2 : ∀ w ∈ u_ws fn_C2 fn_F2 5, w ∈ fn_tT := by
  rw [fn_u2]
  exact List.forall_mem_cons.mpr ⟨(fn_gd (fn_tm1 (k := 203) rfl) rfl), List.forall_mem_cons.mpr ⟨(fn_gd (fn_tm1 (k := 205) rfl) rfl), List.forall_mem_cons.mpr ⟨(fn_gd (fn_tm1 (k := 207) rfl) rfl), List.forall_mem_cons.mpr ⟨(fn_gd (fn_tm1 (k := 209) rfl) rfl), List.forall_mem_cons.mpr ⟨(fn_gd (fn_tm1 (k := 211) rfl) rfl), fun _ h => absurd h List.not_mem_nil⟩⟩⟩⟩⟩
theorem fn_nm2 : ∀ a, a < 5 → ∀ b, b < 5 → a ≠ b → (fn_F2 a).2.1 ≠ (fn_F2 b).2.1 := by decide +kernel
theorem fn_ty2 : ∀ k, k < 5 → parseFieldDescriptor (fn_F2 k).2.2.1 = some (fn_t2 k) := by decide +kernel
def fn_C3 : String := "FieldNet$Member"
def fn_F3 : u_T := fun k => match k with
  | 0 => ("FieldNet$Member", "expected", "I", false)
  | 1 => ("FieldNet$Member", "time", "I", false)
  | 2 => ("FieldNet$Member", "phase", "I", false)
  | 3 => ("FieldNet$Member", "heardAt", "I", false)
  | 4 => ("FieldNet$Member", "writeObjects", "[I", true)
  | 5 => ("FieldNet$Member", "writeValues", "[I", true)
  | 6 => ("FieldNet$Member", "writes", "I", false)
  | _ => ("FieldNet$Member", "written", "I", false)
def fn_t3 : Nat → FieldType := fun k => match k with
  | 0 => .int
  | 1 => .int
  | 2 => .int
  | 3 => .int
  | 4 => .array .int
  | 5 => .array .int
  | 6 => .int
  | _ => .int
theorem fn_u3 : u_ws fn_C3 fn_F3 8 = [Jvm.Cond.lays "FieldNet$Member" "FieldNet$Member" "expected" "I", Jvm.Cond.lays "FieldNet$Member" "FieldNet$Member" "time" "I", Jvm.Cond.lays "FieldNet$Member" "FieldNet$Member" "phase" "I", Jvm.Cond.lays "FieldNet$Member" "FieldNet$Member" "heardAt" "I", Jvm.Cond.laysFinal "FieldNet$Member" "FieldNet$Member" "writeObjects" "[I", Jvm.Cond.laysFinal "FieldNet$Member" "FieldNet$Member" "writeValues" "[I", Jvm.Cond.lays "FieldNet$Member" "FieldNet$Member" "writes" "I", Jvm.Cond.lays "FieldNet$Member" "FieldNet$Member" "written" "I"] := by decide +kernel
theorem fn_in3 : ∀ w ∈ u_ws fn_C3 fn_F3 8, w ∈ fn_tT := by
  rw [fn_u3]
  exact List.forall_mem_cons.mpr ⟨(fn_gd (fn_tm1 (k := 178) rfl) rfl), List.forall_mem_cons.mpr ⟨(fn_gd (fn_tm1 (k := 180) rfl) rfl), List.forall_mem_cons.mpr ⟨(fn_gd (fn_tm1 (k := 182) rfl) rfl), List.forall_mem_cons.mpr ⟨(fn_gd (fn_tm1 (k := 184) rfl) rfl), List.forall_mem_cons.mpr ⟨(fn_gd (fn_tm1 (k := 186) rfl) rfl), List.forall_mem_cons.mpr ⟨(fn_gd (fn_tm1 (k := 188) rfl) rfl), List.forall_mem_cons.mpr ⟨(fn_gd (fn_tm1 (k := 190) rfl) rfl), List.forall_mem_cons.mpr ⟨(fn_gd (fn_tm1 (k := 192) rfl) rfl), fun _ h => absurd h List.not_mem_nil⟩⟩⟩⟩⟩⟩⟩⟩
theorem fn_nm3 : ∀ a, a < 8 → ∀ b, b < 8 → a ≠ b → (fn_F3 a).2.1 ≠ (fn_F3 b).2.1 := by decide +kernel
theorem fn_ty3 : ∀ k, k < 8 → parseFieldDescriptor (fn_F3 k).2.2.1 = some (fn_t3 k) := by decide +kernel
def fn_C4 : String := "FieldNet$Node"
def fn_F4 : u_T := fun k => match k with
  | 0 => ("FieldNet$Node", "number", "I", true)
  | 1 => ("FieldNet$Node", "objects", "[I", true)
  | 2 => ("FieldNet$Node", "name", "Ljava/lang/StringBuilder;", true)
  | 3 => ("FieldNet$Node", "state", "I", false)
  | 4 => ("FieldNet$Node", "latestBeat", "I", false)
  | 5 => ("FieldNet$Node", "latestSample", "I", false)
  | 6 => ("FieldNet$Node", "heldBack", "Z", false)
  | 7 => ("FieldNet$Node", "syncs", "I", false)
  | 8 => ("FieldNet$Node", "heardAt", "I", false)
  | 9 => ("FieldNet$Node", "readsOut", "Z", false)
  | 10 => ("FieldNet$Node", "position", "I", false)
  | _ => ("FieldNet$Node", "toggle", "I", false)
def fn_t4 : Nat → FieldType := fun k => match k with
  | 0 => .int
  | 1 => .array .int
  | 2 => .object "java/lang/StringBuilder"
  | 3 => .int
  | 4 => .int
  | 5 => .int
  | 6 => .boolean
  | 7 => .int
  | 8 => .int
  | 9 => .boolean
  | 10 => .int
  | _ => .int
theorem fn_u4 : u_ws fn_C4 fn_F4 12 = [Jvm.Cond.laysFinal "FieldNet$Node" "FieldNet$Node" "number" "I", Jvm.Cond.laysFinal "FieldNet$Node" "FieldNet$Node" "objects" "[I", Jvm.Cond.laysFinal "FieldNet$Node" "FieldNet$Node" "name" "Ljava/lang/StringBuilder;", Jvm.Cond.lays "FieldNet$Node" "FieldNet$Node" "state" "I", Jvm.Cond.lays "FieldNet$Node" "FieldNet$Node" "latestBeat" "I", Jvm.Cond.lays "FieldNet$Node" "FieldNet$Node" "latestSample" "I", Jvm.Cond.lays "FieldNet$Node" "FieldNet$Node" "heldBack" "Z", Jvm.Cond.lays "FieldNet$Node" "FieldNet$Node" "syncs" "I", Jvm.Cond.lays "FieldNet$Node" "FieldNet$Node" "heardAt" "I", Jvm.Cond.lays "FieldNet$Node" "FieldNet$Node" "readsOut" "Z", Jvm.Cond.lays "FieldNet$Node" "FieldNet$Node" "position" "I", Jvm.Cond.lays "FieldNet$Node" "FieldNet$Node" "toggle" "I"] := by decide +kernel
theorem fn_in4 : ∀ w ∈ u_ws fn_C4 fn_F4 12, w ∈ fn_tT := by
  rw [fn_u4]
  exact List.forall_mem_cons.mpr ⟨(fn_gd (fn_tm2 (k := 218) rfl) rfl), List.forall_mem_cons.mpr ⟨(fn_gd (fn_tm2 (k := 220) rfl) rfl), List.forall_mem_cons.mpr ⟨(fn_gd (fn_tm2 (k := 222) rfl) rfl), List.forall_mem_cons.mpr ⟨(fn_gd (fn_tm2 (k := 224) rfl) rfl), List.forall_mem_cons.mpr ⟨(fn_gd (fn_tm2 (k := 226) rfl) rfl), List.forall_mem_cons.mpr ⟨(fn_gd (fn_tm2 (k := 228) rfl) rfl), List.forall_mem_cons.mpr ⟨(fn_gd (fn_tm2 (k := 230) rfl) rfl), List.forall_mem_cons.mpr ⟨(fn_gd (fn_tm2 (k := 232) rfl) rfl), List.forall_mem_cons.mpr ⟨(fn_gd (fn_tm2 (k := 234) rfl) rfl), List.forall_mem_cons.mpr ⟨(fn_gd (fn_tm2 (k := 236) rfl) rfl), List.forall_mem_cons.mpr ⟨(fn_gd (fn_tm2 (k := 238) rfl) rfl), List.forall_mem_cons.mpr ⟨(fn_gd (fn_tm3 (k := 0) rfl) rfl), fun _ h => absurd h List.not_mem_nil⟩⟩⟩⟩⟩⟩⟩⟩⟩⟩⟩⟩
theorem fn_nm4 : ∀ a, a < 12 → ∀ b, b < 12 → a ≠ b → (fn_F4 a).2.1 ≠ (fn_F4 b).2.1 := by decide +kernel
theorem fn_ty4 : ∀ k, k < 12 → parseFieldDescriptor (fn_F4 k).2.2.1 = some (fn_t4 k) := by decide +kernel
def fn_C5 : String := "FieldNet$Wire"
def fn_F5 : u_T := fun k => match k with
  | 0 => ("FieldNet$Wire", "frames", "[LFieldNet$Frame;", true)
  | 1 => ("FieldNet$Wire", "spare", "LFieldNet$Frame;", false)
  | 2 => ("FieldNet$Wire", "count", "I", false)
  | 3 => ("FieldNet$Wire", "lost", "I", false)
  | 4 => ("FieldNet$Wire", "errors", "I", false)
  | 5 => ("FieldNet$Wire", "disturbed", "I", false)
  | _ => ("FieldNet$Wire", "now", "I", false)
def fn_t5 : Nat → FieldType := fun k => match k with
  | 0 => .array (.object "FieldNet$Frame")
  | 1 => .object "FieldNet$Frame"
  | 2 => .int
  | 3 => .int
  | 4 => .int
  | 5 => .int
  | _ => .int
theorem fn_u5 : u_ws fn_C5 fn_F5 7 = [Jvm.Cond.laysFinal "FieldNet$Wire" "FieldNet$Wire" "frames" "[LFieldNet$Frame;", Jvm.Cond.lays "FieldNet$Wire" "FieldNet$Wire" "spare" "LFieldNet$Frame;", Jvm.Cond.lays "FieldNet$Wire" "FieldNet$Wire" "count" "I", Jvm.Cond.lays "FieldNet$Wire" "FieldNet$Wire" "lost" "I", Jvm.Cond.lays "FieldNet$Wire" "FieldNet$Wire" "errors" "I", Jvm.Cond.lays "FieldNet$Wire" "FieldNet$Wire" "disturbed" "I", Jvm.Cond.lays "FieldNet$Wire" "FieldNet$Wire" "now" "I"] := by decide +kernel
theorem fn_in5 : ∀ w ∈ u_ws fn_C5 fn_F5 7, w ∈ fn_tT := by
  rw [fn_u5]
  exact List.forall_mem_cons.mpr ⟨(fn_gd (fn_tm1 (k := 84) rfl) rfl), List.forall_mem_cons.mpr ⟨(fn_gd (fn_tm1 (k := 86) rfl) rfl), List.forall_mem_cons.mpr ⟨(fn_gd (fn_tm1 (k := 88) rfl) rfl), List.forall_mem_cons.mpr ⟨(fn_gd (fn_tm1 (k := 90) rfl) rfl), List.forall_mem_cons.mpr ⟨(fn_gd (fn_tm1 (k := 92) rfl) rfl), List.forall_mem_cons.mpr ⟨(fn_gd (fn_tm1 (k := 94) rfl) rfl), List.forall_mem_cons.mpr ⟨(fn_gd (fn_tm1 (k := 96) rfl) rfl), fun _ h => absurd h List.not_mem_nil⟩⟩⟩⟩⟩⟩⟩
theorem fn_nm5 : ∀ a, a < 7 → ∀ b, b < 7 → a ≠ b → (fn_F5 a).2.1 ≠ (fn_F5 b).2.1 := by decide +kernel
theorem fn_ty5 : ∀ k, k < 7 → parseFieldDescriptor (fn_F5 k).2.2.1 = some (fn_t5 k) := by decide +kernel
def fn_C6 : String := "FieldNet"
def fn_F6 : u_T := fun k => match k with
  | 0 => ("FieldNet", "wire", "LFieldNet$Wire;", true)
  | 1 => ("FieldNet", "master", "LFieldNet$Master;", true)
  | _ => ("FieldNet", "nodes", "[LFieldNet$Node;", true)
def fn_t6 : Nat → FieldType := fun k => match k with
  | 0 => .object "FieldNet$Wire"
  | 1 => .object "FieldNet$Master"
  | _ => .array (.object "FieldNet$Node")
theorem fn_u6 : u_ws fn_C6 fn_F6 3 = [Jvm.Cond.laysFinal "FieldNet" "FieldNet" "wire" "LFieldNet$Wire;", Jvm.Cond.laysFinal "FieldNet" "FieldNet" "master" "LFieldNet$Master;", Jvm.Cond.laysFinal "FieldNet" "FieldNet" "nodes" "[LFieldNet$Node;"] := by decide +kernel
theorem fn_in6 : ∀ w ∈ u_ws fn_C6 fn_F6 3, w ∈ fn_tT := by
  rw [fn_u6]
  exact List.forall_mem_cons.mpr ⟨(fn_gd (fn_tm3 (k := 6) rfl) rfl), List.forall_mem_cons.mpr ⟨(fn_gd (fn_tm3 (k := 8) rfl) rfl), List.forall_mem_cons.mpr ⟨(fn_gd (fn_tm3 (k := 10) rfl) rfl), fun _ h => absurd h List.not_mem_nil⟩⟩⟩
theorem fn_nm6 : ∀ a, a < 3 → ∀ b, b < 3 → a ≠ b → (fn_F6 a).2.1 ≠ (fn_F6 b).2.1 := by decide +kernel
theorem fn_ty6 : ∀ k, k < 3 → parseFieldDescriptor (fn_F6 k).2.2.1 = some (fn_t6 k) := by decide +kernel
def fn_C7 : String := "FieldNetModel"
def fn_F7 : u_T := fun k => match k with
  | 0 => ("FieldNetModel", "now", "I", false)
  | 1 => ("FieldNetModel", "states", "[I", true)
  | 2 => ("FieldNetModel", "objects", "[I", true)
  | 3 => ("FieldNetModel", "sentAt", "[I", true)
  | 4 => ("FieldNetModel", "held", "[Z", true)
  | 5 => ("FieldNetModel", "syncs", "[I", true)
  | 6 => ("FieldNetModel", "heardAt", "[I", true)
  | 7 => ("FieldNetModel", "reading", "[I", true)
  | 8 => ("FieldNetModel", "toggles", "[I", true)
  | 9 => ("FieldNetModel", "beatAt", "[I", true)
  | 10 => ("FieldNetModel", "pending", "I", false)
  | 11 => ("FieldNetModel", "ids", "[I", true)
  | 12 => ("FieldNetModel", "as", "[I", true)
  | 13 => ("FieldNetModel", "bs", "[I", true)
  | 14 => ("FieldNetModel", "cs", "[I", true)
  | 15 => ("FieldNetModel", "from", "[I", true)
  | 16 => ("FieldNetModel", "lost", "I", false)
  | 17 => ("FieldNetModel", "errors", "I", false)
  | 18 => ("FieldNetModel", "disturbed", "I", false)
  | 19 => ("FieldNetModel", "beat", "I", false)
  | 20 => ("FieldNetModel", "expected", "[I", true)
  | 21 => ("FieldNetModel", "time", "[I", true)
  | 22 => ("FieldNetModel", "listed", "[I", true)
  | 23 => ("FieldNetModel", "listObject", "[I", true)
  | 24 => ("FieldNetModel", "listValue", "[I", true)
  | 25 => ("FieldNetModel", "phases", "[I", true)
  | 26 => ("FieldNetModel", "heard", "[I", true)
  | 27 => ("FieldNetModel", "partner", "I", false)
  | 28 => ("FieldNetModel", "wanted", "I", false)
  | 29 => ("FieldNetModel", "writing", "Z", false)
  | 30 => ("FieldNetModel", "until", "I", false)
  | 31 => ("FieldNetModel", "booting", "Z", false)
  | 32 => ("FieldNetModel", "written", "I", false)
  | 33 => ("FieldNetModel", "code", "I", false)
  | 34 => ("FieldNetModel", "result", "I", false)
  | 35 => ("FieldNetModel", "known", "Z", false)
  | 36 => ("FieldNetModel", "due", "I", false)
  | 37 => ("FieldNetModel", "turn", "I", false)
  | 38 => ("FieldNetModel", "gotten", "I", false)
  | 39 => ("FieldNetModel", "got", "[I", true)
  | 40 => ("FieldNetModel", "reports", "I", false)
  | _ => ("FieldNetModel", "report", "[I", true)
def fn_t7 : Nat → FieldType := fun k => match k with
  | 0 => .int
  | 1 => .array .int
  | 2 => .array .int
  | 3 => .array .int
  | 4 => .array .boolean
  | 5 => .array .int
  | 6 => .array .int
  | 7 => .array .int
  | 8 => .array .int
  | 9 => .array .int
  | 10 => .int
  | 11 => .array .int
  | 12 => .array .int
  | 13 => .array .int
  | 14 => .array .int
  | 15 => .array .int
  | 16 => .int
  | 17 => .int
  | 18 => .int
  | 19 => .int
  | 20 => .array .int
  | 21 => .array .int
  | 22 => .array .int
  | 23 => .array .int
  | 24 => .array .int
  | 25 => .array .int
  | 26 => .array .int
  | 27 => .int
  | 28 => .int
  | 29 => .boolean
  | 30 => .int
  | 31 => .boolean
  | 32 => .int
  | 33 => .int
  | 34 => .int
  | 35 => .boolean
  | 36 => .int
  | 37 => .int
  | 38 => .int
  | 39 => .array .int
  | 40 => .int
  | _ => .array .int
theorem fn_u7 : u_ws fn_C7 fn_F7 42 = [Jvm.Cond.lays "FieldNetModel" "FieldNetModel" "now" "I", Jvm.Cond.laysFinal "FieldNetModel" "FieldNetModel" "states" "[I", Jvm.Cond.laysFinal "FieldNetModel" "FieldNetModel" "objects" "[I", Jvm.Cond.laysFinal "FieldNetModel" "FieldNetModel" "sentAt" "[I", Jvm.Cond.laysFinal "FieldNetModel" "FieldNetModel" "held" "[Z", Jvm.Cond.laysFinal "FieldNetModel" "FieldNetModel" "syncs" "[I", Jvm.Cond.laysFinal "FieldNetModel" "FieldNetModel" "heardAt" "[I", Jvm.Cond.laysFinal "FieldNetModel" "FieldNetModel" "reading" "[I", Jvm.Cond.laysFinal "FieldNetModel" "FieldNetModel" "toggles" "[I", Jvm.Cond.laysFinal "FieldNetModel" "FieldNetModel" "beatAt" "[I", Jvm.Cond.lays "FieldNetModel" "FieldNetModel" "pending" "I", Jvm.Cond.laysFinal "FieldNetModel" "FieldNetModel" "ids" "[I", Jvm.Cond.laysFinal "FieldNetModel" "FieldNetModel" "as" "[I", Jvm.Cond.laysFinal "FieldNetModel" "FieldNetModel" "bs" "[I", Jvm.Cond.laysFinal "FieldNetModel" "FieldNetModel" "cs" "[I", Jvm.Cond.laysFinal "FieldNetModel" "FieldNetModel" "from" "[I", Jvm.Cond.lays "FieldNetModel" "FieldNetModel" "lost" "I", Jvm.Cond.lays "FieldNetModel" "FieldNetModel" "errors" "I", Jvm.Cond.lays "FieldNetModel" "FieldNetModel" "disturbed" "I", Jvm.Cond.lays "FieldNetModel" "FieldNetModel" "beat" "I", Jvm.Cond.laysFinal "FieldNetModel" "FieldNetModel" "expected" "[I", Jvm.Cond.laysFinal "FieldNetModel" "FieldNetModel" "time" "[I", Jvm.Cond.laysFinal "FieldNetModel" "FieldNetModel" "listed" "[I", Jvm.Cond.laysFinal "FieldNetModel" "FieldNetModel" "listObject" "[I", Jvm.Cond.laysFinal "FieldNetModel" "FieldNetModel" "listValue" "[I", Jvm.Cond.laysFinal "FieldNetModel" "FieldNetModel" "phases" "[I", Jvm.Cond.laysFinal "FieldNetModel" "FieldNetModel" "heard" "[I", Jvm.Cond.lays "FieldNetModel" "FieldNetModel" "partner" "I", Jvm.Cond.lays "FieldNetModel" "FieldNetModel" "wanted" "I", Jvm.Cond.lays "FieldNetModel" "FieldNetModel" "writing" "Z", Jvm.Cond.lays "FieldNetModel" "FieldNetModel" "until" "I", Jvm.Cond.lays "FieldNetModel" "FieldNetModel" "booting" "Z", Jvm.Cond.lays "FieldNetModel" "FieldNetModel" "written" "I", Jvm.Cond.lays "FieldNetModel" "FieldNetModel" "code" "I", Jvm.Cond.lays "FieldNetModel" "FieldNetModel" "result" "I", Jvm.Cond.lays "FieldNetModel" "FieldNetModel" "known" "Z", Jvm.Cond.lays "FieldNetModel" "FieldNetModel" "due" "I", Jvm.Cond.lays "FieldNetModel" "FieldNetModel" "turn" "I", Jvm.Cond.lays "FieldNetModel" "FieldNetModel" "gotten" "I", Jvm.Cond.laysFinal "FieldNetModel" "FieldNetModel" "got" "[I", Jvm.Cond.lays "FieldNetModel" "FieldNetModel" "reports" "I", Jvm.Cond.laysFinal "FieldNetModel" "FieldNetModel" "report" "[I"] := by decide +kernel
theorem fn_in7 : ∀ w ∈ u_ws fn_C7 fn_F7 42, w ∈ fn_tT := by
  rw [fn_u7]
  exact List.forall_mem_cons.mpr ⟨(fn_gd (fn_tm4 (k := 186) rfl) rfl), List.forall_mem_cons.mpr ⟨(fn_gd (fn_tm4 (k := 188) rfl) rfl), List.forall_mem_cons.mpr ⟨(fn_gd (fn_tm4 (k := 190) rfl) rfl), List.forall_mem_cons.mpr ⟨(fn_gd (fn_tm4 (k := 192) rfl) rfl), List.forall_mem_cons.mpr ⟨(fn_gd (fn_tm4 (k := 194) rfl) rfl), List.forall_mem_cons.mpr ⟨(fn_gd (fn_tm4 (k := 196) rfl) rfl), List.forall_mem_cons.mpr ⟨(fn_gd (fn_tm4 (k := 198) rfl) rfl), List.forall_mem_cons.mpr ⟨(fn_gd (fn_tm4 (k := 200) rfl) rfl), List.forall_mem_cons.mpr ⟨(fn_gd (fn_tm4 (k := 202) rfl) rfl), List.forall_mem_cons.mpr ⟨(fn_gd (fn_tm4 (k := 204) rfl) rfl), List.forall_mem_cons.mpr ⟨(fn_gd (fn_tm4 (k := 206) rfl) rfl), List.forall_mem_cons.mpr ⟨(fn_gd (fn_tm4 (k := 208) rfl) rfl), List.forall_mem_cons.mpr ⟨(fn_gd (fn_tm4 (k := 210) rfl) rfl), List.forall_mem_cons.mpr ⟨(fn_gd (fn_tm4 (k := 212) rfl) rfl), List.forall_mem_cons.mpr ⟨(fn_gd (fn_tm4 (k := 214) rfl) rfl), List.forall_mem_cons.mpr ⟨(fn_gd (fn_tm4 (k := 216) rfl) rfl), List.forall_mem_cons.mpr ⟨(fn_gd (fn_tm4 (k := 218) rfl) rfl), List.forall_mem_cons.mpr ⟨(fn_gd (fn_tm4 (k := 220) rfl) rfl), List.forall_mem_cons.mpr ⟨(fn_gd (fn_tm4 (k := 222) rfl) rfl), List.forall_mem_cons.mpr ⟨(fn_gd (fn_tm4 (k := 224) rfl) rfl), List.forall_mem_cons.mpr ⟨(fn_gd (fn_tm4 (k := 226) rfl) rfl), List.forall_mem_cons.mpr ⟨(fn_gd (fn_tm4 (k := 228) rfl) rfl), List.forall_mem_cons.mpr ⟨(fn_gd (fn_tm4 (k := 230) rfl) rfl), List.forall_mem_cons.mpr ⟨(fn_gd (fn_tm4 (k := 232) rfl) rfl), List.forall_mem_cons.mpr ⟨(fn_gd (fn_tm4 (k := 234) rfl) rfl), List.forall_mem_cons.mpr ⟨(fn_gd (fn_tm4 (k := 236) rfl) rfl), List.forall_mem_cons.mpr ⟨(fn_gd (fn_tm4 (k := 238) rfl) rfl), List.forall_mem_cons.mpr ⟨(fn_gd (fn_tm5 (k := 0) rfl) rfl), List.forall_mem_cons.mpr ⟨(fn_gd (fn_tm5 (k := 2) rfl) rfl), List.forall_mem_cons.mpr ⟨(fn_gd (fn_tm5 (k := 4) rfl) rfl), List.forall_mem_cons.mpr ⟨(fn_gd (fn_tm5 (k := 6) rfl) rfl), List.forall_mem_cons.mpr ⟨(fn_gd (fn_tm5 (k := 8) rfl) rfl), List.forall_mem_cons.mpr ⟨(fn_gd (fn_tm5 (k := 10) rfl) rfl), List.forall_mem_cons.mpr ⟨(fn_gd (fn_tm5 (k := 12) rfl) rfl), List.forall_mem_cons.mpr ⟨(fn_gd (fn_tm5 (k := 14) rfl) rfl), List.forall_mem_cons.mpr ⟨(fn_gd (fn_tm5 (k := 16) rfl) rfl), List.forall_mem_cons.mpr ⟨(fn_gd (fn_tm5 (k := 18) rfl) rfl), List.forall_mem_cons.mpr ⟨(fn_gd (fn_tm5 (k := 20) rfl) rfl), List.forall_mem_cons.mpr ⟨(fn_gd (fn_tm5 (k := 22) rfl) rfl), List.forall_mem_cons.mpr ⟨(fn_gd (fn_tm5 (k := 24) rfl) rfl), List.forall_mem_cons.mpr ⟨(fn_gd (fn_tm5 (k := 26) rfl) rfl), List.forall_mem_cons.mpr ⟨(fn_gd (fn_tm5 (k := 28) rfl) rfl), fun _ h => absurd h List.not_mem_nil⟩⟩⟩⟩⟩⟩⟩⟩⟩⟩⟩⟩⟩⟩⟩⟩⟩⟩⟩⟩⟩⟩⟩⟩⟩⟩⟩⟩⟩⟩⟩⟩⟩⟩⟩⟩⟩⟩⟩⟩⟩⟩
theorem fn_nm7 : ∀ a, a < 42 → ∀ b, b < 42 → a ≠ b → (fn_F7 a).2.1 ≠ (fn_F7 b).2.1 := by decide +kernel
theorem fn_ty7 : ∀ k, k < 42 → parseFieldDescriptor (fn_F7 k).2.2.1 = some (fn_t7 k) := by decide +kernel
def fn_C8 : String := "java/lang/StringBuilder"
def fn_F8 : u_T := fun k => match k with
  | 0 => ("java/lang/AbstractStringBuilder", "value", "[B", false)
  | 1 => ("java/lang/AbstractStringBuilder", "coder", "B", false)
  | 2 => ("java/lang/AbstractStringBuilder", "maybeLatin1", "Z", false)
  | _ => ("java/lang/AbstractStringBuilder", "count", "I", false)
def fn_t8 : Nat → FieldType := fun k => match k with
  | 0 => .array .byte
  | 1 => .byte
  | 2 => .boolean
  | _ => .int
theorem fn_u8 : u_ws fn_C8 fn_F8 4 = [Jvm.Cond.lays "java/lang/StringBuilder" "java/lang/AbstractStringBuilder" "value" "[B", Jvm.Cond.lays "java/lang/StringBuilder" "java/lang/AbstractStringBuilder" "coder" "B", Jvm.Cond.lays "java/lang/StringBuilder" "java/lang/AbstractStringBuilder" "maybeLatin1" "Z", Jvm.Cond.lays "java/lang/StringBuilder" "java/lang/AbstractStringBuilder" "count" "I"] := by decide +kernel
theorem fn_in8 : ∀ w ∈ u_ws fn_C8 fn_F8 4, w ∈ fn_tT := by
  rw [fn_u8]
  exact List.forall_mem_cons.mpr ⟨(fn_gd (fn_tm2 (k := 3) rfl) rfl), List.forall_mem_cons.mpr ⟨(fn_gd (fn_tm2 (k := 5) rfl) rfl), List.forall_mem_cons.mpr ⟨(fn_gd (fn_tm2 (k := 7) rfl) rfl), List.forall_mem_cons.mpr ⟨(fn_gd (fn_tm2 (k := 9) rfl) rfl), fun _ h => absurd h List.not_mem_nil⟩⟩⟩⟩
theorem fn_nm8 : ∀ a, a < 4 → ∀ b, b < 4 → a ≠ b → (fn_F8 a).2.1 ≠ (fn_F8 b).2.1 := by decide +kernel
theorem fn_ty8 : ∀ k, k < 4 → parseFieldDescriptor (fn_F8 k).2.2.1 = some (fn_t8 k) := by decide +kernel
abbrev fn_cl : List vw_C := [(fn_C0, fn_F0, 13), (fn_C1, fn_F1, 5), (fn_C2, fn_F2, 5), (fn_C3, fn_F3, 8), (fn_C4, fn_F4, 12), (fn_C5, fn_F5, 7), (fn_C6, fn_F6, 3), (fn_C7, fn_F7, 42), (fn_C8, fn_F8, 4)]
/-- what is known of a kind of the table -/
def fn_CO (r : vw_C) : Prop := (∀ w ∈ u_ws r.1 r.2.1 r.2.2, w ∈ fn_tT) ∧ (∃ ty : Nat → FieldType, ∀ k, k < r.2.2 → parseFieldDescriptor (r.2.1 k).2.2.1 = some (ty k)) ∧ (∀ a, a < r.2.2 → ∀ b, b < r.2.2 → a ≠ b → (r.2.1 a).2.1 ≠ (r.2.1 b).2.1)
theorem fn_co : ∀ r ∈ fn_cl, fn_CO r := List.forall_mem_cons.mpr ⟨⟨fn_in0, ⟨fn_t0, fn_ty0⟩, fn_nm0⟩, List.forall_mem_cons.mpr ⟨⟨fn_in1, ⟨fn_t1, fn_ty1⟩, fn_nm1⟩, List.forall_mem_cons.mpr ⟨⟨fn_in2, ⟨fn_t2, fn_ty2⟩, fn_nm2⟩, List.forall_mem_cons.mpr ⟨⟨fn_in3, ⟨fn_t3, fn_ty3⟩, fn_nm3⟩, List.forall_mem_cons.mpr ⟨⟨fn_in4, ⟨fn_t4, fn_ty4⟩, fn_nm4⟩, List.forall_mem_cons.mpr ⟨⟨fn_in5, ⟨fn_t5, fn_ty5⟩, fn_nm5⟩, List.forall_mem_cons.mpr ⟨⟨fn_in6, ⟨fn_t6, fn_ty6⟩, fn_nm6⟩, List.forall_mem_cons.mpr ⟨⟨fn_in7, ⟨fn_t7, fn_ty7⟩, fn_nm7⟩, List.forall_mem_cons.mpr ⟨⟨fn_in8, ⟨fn_t8, fn_ty8⟩, fn_nm8⟩, fun _ h => absurd h List.not_mem_nil⟩⟩⟩⟩⟩⟩⟩⟩⟩
/-! ===== the layout: two worlds, 0 the system of 62 cells, 1 the reference of 24 ===== -/
/-- an instruction: its number, three numbers, a constant, rows of a switch -/
abbrev fn_I : Type := Nat × Nat × Nat × Nat × Int32 × List (Int32 × Nat)
/-- what the receiver is (the number of its kind; 99: a static method, 98: the literal) -/
def fn_ciL : List Nat := [0, 0, 0, 0, 0, 0, 0, 0, 0, 0, 0, 1, 2, 2, 2, 2, 2, 2, 2, 2, 2, 2, 3, 3, 3, 3, 4, 4, 4, 4, 4, 4, 4, 4, 4, 4, 4, 4, 4, 4, 4, 4, 4, 4, 4, 4, 4, 4, 4, 4, 4, 4, 4, 4, 5, 5, 5, 5, 5, 5, 5, 6, 6, 6, 6, 6, 6, 6, 6, 6, 6, 6, 6, 6, 6, 6, 6, 6, 6, 6, 99, 99, 99, 99, 99, 99, 7, 7, 7, 7, 99, 7, 99, 7, 7, 7, 7, 7, 7, 99, 99, 7, 7, 7, 7, 7, 7, 7, 7, 7, 7, 7, 7, 7, 7, 7, 7, 7, 7, 7, 7, 7, 7, 7, 7, 7, 7, 7, 7, 7, 7, 7, 7, 7, 8, 8, 8, 8, 8, 8, 8, 8, 8, 8, 8, 8, 8, 8, 8, 8, 98, 98, 98, 99, 99, 99, 99, 99, 99]
def fn_ci (mi : Nat) : Nat := fn_ciL.getD mi 99
def fn_lcL : List Nat := [7, 6, 0, 2, 2, 2, 2, 2, 2, 2, 2, 2, 2, 2, 2, 2, 2, 2, 2, 2, 2, 2, 2, 2, 2, 2, 2, 2, 0, 5, 5, 5, 5, 0, 0, 0, 0, 9, 9, 9, 9, 0, 0, 0, 0, 3, 1, 0, 0, 4, 4, 4, 4, 0, 0, 0, 0, 0, 0, 0, 0, 0]
def fn_lcM : List Nat := [8, 0, 0, 0, 0, 0, 0, 0, 0, 0, 0, 0, 0, 0, 0, 0, 0, 0, 0, 0, 0, 0, 0, 0]
/-- the third world: a node 0, its objects 4, its builder 8, its bytes 12; frames between them -/
def fn_lcN : List Nat := [5, 2, 2, 2, 0, 2, 2, 2, 9, 2, 2, 2, 0]
def fn_lc (G q : Nat) : Nat := match G with
  | 0 => fn_lcL.getD q 0
  | 1 => fn_lcM.getD q 0
  | _ => fn_lcN.getD q 0
def fn_laL : List (Nat × Nat) := [(0, 0), (0, 0), (4, 24), (0, 0), (0, 0), (0, 0), (0, 0), (0, 0), (0, 0), (0, 0), (0, 0), (0, 0), (0, 0), (0, 0), (0, 0), (0, 0), (0, 0), (0, 0), (0, 0), (0, 0), (0, 0), (0, 0), (0, 0), (0, 0), (0, 0), (0, 0), (0, 0), (0, 0), (6, 5), (0, 0), (0, 0), (0, 0), (0, 0), (1, 16), (1, 16), (1, 16), (1, 16), (0, 0), (0, 0), (0, 0), (0, 0), (3, 16), (3, 16), (3, 16), (3, 16), (0, 0), (0, 0), (1, 12), (5, 5), (0, 0), (0, 0), (0, 0), (0, 0), (1, 3), (1, 3), (1, 3), (1, 3), (1, 3), (1, 3), (1, 3), (1, 3), (1, 80)]
def fn_laM : List (Nat × Nat) := [(0, 0), (1, 5), (1, 80), (1, 5), (2, 5), (1, 5), (1, 5), (1, 5), (1, 5), (1, 5), (1, 24), (1, 24), (1, 24), (1, 24), (1, 24), (1, 5), (1, 5), (1, 5), (1, 15), (1, 15), (1, 5), (1, 5), (1, 12), (1, 80)]
def fn_laN : List (Nat × Nat) := [(0, 0), (0, 0), (0, 0), (0, 0), (1, 16), (0, 0), (0, 0), (0, 0), (0, 0), (0, 0), (0, 0), (0, 0), (3, 16)]
def fn_la (G q : Nat) : Nat × Nat := match G with
  | 0 => fn_laL.getD q (0, 0)
  | 1 => fn_laM.getD q (0, 0)
  | _ => fn_laN.getD q (0, 0)
def fn_NC (G : Nat) : Nat := match G with
  | 0 => 62
  | 1 => 24
  | _ => 13
def fn_fcL : List (List (Nat × Nat)) := [[(1, 0), (1, 0), (0, 0), (0, 0), (1, 0), (0, 0), (0, 0), (0, 0), (1, 0), (0, 0), (0, 0), (2, 47), (0, 0)], [(0, 0), (0, 0), (0, 0), (0, 0), (0, 0)], [(2, 46), (2, 48), (2, 61), (0, 0), (0, 0)], [(0, 0), (0, 0), (0, 0), (0, 0), (3, 4), (3, 8), (0, 0), (0, 0)], [(6, 0), (3, 4), (3, 8), (0, 0), (0, 0), (0, 0), (1, 0), (0, 0), (0, 0), (1, 0), (0, 0), (0, 0)], [(2, 2), (4, 0), (0, 0), (0, 0), (0, 0), (0, 0), (0, 0)], [(2, 1), (2, 45), (2, 28)], [(0, 0), (2, 1), (2, 2), (2, 3), (2, 4), (2, 5), (2, 6), (2, 7), (2, 8), (2, 9), (0, 0), (2, 10), (2, 11), (2, 12), (2, 13), (2, 14), (0, 0), (0, 0), (0, 0), (0, 0), (2, 15), (2, 16), (2, 17), (2, 18), (2, 19), (2, 20), (2, 21), (0, 0), (0, 0), (1, 0), (0, 0), (1, 0), (0, 0), (0, 0), (0, 0), (1, 0), (0, 0), (0, 0), (0, 0), (2, 22), (0, 0), (2, 23)], [(3, 4), (5, 0), (1, 0), (0, 0)]]
def fn_fc (ci j : Nat) : Nat × Nat := (fn_fcL.getD ci []).getD j (9, 0)
def fn_nf (ci : Nat) : Nat := (fn_fcL.getD ci []).length
def fn_dy (q : Nat) : Bool := q == 2
/-- an element of an array of objects: a frame's number stands in the memory; nodes and members lie behind their arrays -/
def fn_ar (x : Nat → Nat → Int32) (q i : Nat) : Option Nat := if fn_dy q = true then some (x q i).toNatClampNeg else if 1 ≤ i ∧ i ≤ 4 then some (q + i) else none
def fn_ones : List Int32 := [48, 49, 50, 51, 52, 53, 54, 55, 56, 57, 48, 49, 50, 51, 52, 53, 54, 55, 56, 57, 48, 49, 50, 51, 52, 53, 54, 55, 56, 57, 48, 49, 50, 51, 52, 53, 54, 55, 56, 57, 48, 49, 50, 51, 52, 53, 54, 55, 56, 57, 48, 49, 50, 51, 52, 53, 54, 55, 56, 57, 48, 49, 50, 51, 52, 53, 54, 55, 56, 57, 48, 49, 50, 51, 52, 53, 54, 55, 56, 57, 48, 49, 50, 51, 52, 53, 54, 55, 56, 57, 48, 49, 50, 51, 52, 53, 54, 55, 56, 57]
def fn_tens : List Int32 := [48, 48, 48, 48, 48, 48, 48, 48, 48, 48, 49, 49, 49, 49, 49, 49, 49, 49, 49, 49, 50, 50, 50, 50, 50, 50, 50, 50, 50, 50, 51, 51, 51, 51, 51, 51, 51, 51, 51, 51, 52, 52, 52, 52, 52, 52, 52, 52, 52, 52, 53, 53, 53, 53, 53, 53, 53, 53, 53, 53, 54, 54, 54, 54, 54, 54, 54, 54, 54, 54, 55, 55, 55, 55, 55, 55, 55, 55, 55, 55, 56, 56, 56, 56, 56, 56, 56, 56, 56, 56, 57, 57, 57, 57, 57, 57, 57, 57, 57, 57]
def fn_lit : List Int32 := [78, 79, 68, 69, 32]
def fn_ty (dA : Nat → ClassId) : List (ClassId × FieldType) := [(dA 0, .int), (dA 1, .boolean), (dA 2, .byte), (dA 3, .object "FieldNet$Frame"), (dA 4, .object "FieldNet$Member"), (dA 5, .object "FieldNet$Node")]
def fn_lidx : Nat := 42
