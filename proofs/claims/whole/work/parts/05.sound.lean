/-! ===== the world of a state, and what its cells are ===== -/
def fn_zv (n : Nat) : Value := match n with
  | 0 => .null
  | k + 1 => .ref k
def fn_cv (ad : Nat → Nat) : Value → Value
  | .ref p => .ref (ad p)
  | .float _ => fn_zv (ad 1004)
  | v => v
theorem fn_cv_cat (ad : Nat → Nat) (v : Value) : (fn_cv ad v).category = v.category := by
  cases v <;> try rfl
  show (fn_zv (ad 1004)).category = 1
  unfold fn_zv
  split <;> rfl
def fn_fs (ad : Nat → Nat) (x : fn_M) (ci q : Nat) : List Value := (List.range (fn_nf ci)).map (fun j => fn_cv ad (fn_fv x ci j q))
def fn_ce (ad : Nat → Nat) (dA : Nat → ClassId) (G : Nat) (x : fn_M) (q : Nat) : va_E := match fn_la G q with
  | (0, _) => .inr (fn_lc G q - 1, fn_fs ad x (fn_lc G q - 1) q)
  | (t + 1, n) => .inl (dA t, n, if t < 3 then .inl (x q) else .inr (.inr (.inr (.inr (fun i => (fn_ar x q i).map ad)))))
def fn_W (ad : Nat → Nat) (dA : Nat → ClassId) (G : Nat) (x : fn_M) : va_W := (List.range (fn_NC G)).map (fun q => (ad q, fn_ce ad dA G x q))
def fn_A (ad : Nat → Nat) (G : Nat) : Nat → Prop := fun q => ∃ k, k < fn_NC G ∧ q = ad k
def fn_ad (ad : Nat → Nat) (G : Nat) : Prop := ∀ i j, i < fn_NC G → j < fn_NC G → ad i = ad j → i = j
theorem fn_W_at {ad : Nat → Nat} {dA : Nat → ClassId} {G : Nat} {x : fn_M} {q : Nat} (hq : q < fn_NC G) : (fn_W ad dA G x)[q]? = some (ad q, fn_ce ad dA G x q) := by
  simp [fn_W, hq]
theorem fn_W_len {ad : Nat → Nat} {dA : Nat → ClassId} {G : Nat} {x : fn_M} : (fn_W ad dA G x).length = fn_NC G := by simp [fn_W]
theorem fn_W_get {ad : Nat → Nat} {dA : Nat → ClassId} {G : Nat} {x : fn_M} {k : Nat} {r : Nat × va_E} (h : (fn_W ad dA G x)[k]? = some r) : k < fn_NC G ∧ r = (ad k, fn_ce ad dA G x k) := by
  have hk : k < fn_NC G := by
    have h1 := (List.getElem?_eq_some_iff.mp h).1
    rwa [fn_W_len] at h1
  rw [fn_W_at hk] at h
  exact ⟨hk, (Option.some.inj h).symm⟩
theorem fn_D {ad : Nat → Nat} {dA : Nat → ClassId} {G : Nat} {x : fn_M} (h : fn_ad ad G) : va_D (fn_A ad G) (fn_W ad dA G x) := by
  refine ⟨fun i j a b ha hb e => ?_, fun k a ha => ?_⟩
  · obtain ⟨hi, rfl⟩ := fn_W_get ha
    obtain ⟨hj, rfl⟩ := fn_W_get hb
    exact h i j hi hj e
  · obtain ⟨hk, rfl⟩ := fn_W_get ha
    exact ⟨k, hk, rfl⟩
theorem fn_lc_lt {G q : Nat} (h : fn_lc G q ≠ 0) : q < fn_NC G := Nat.lt_of_not_le fun hle => h (by
  unfold fn_lc fn_NC at *
  split at hle <;> (rw [List.getD_eq_getElem?_getD, List.getElem?_eq_none hle]; rfl))
theorem fn_la_lt {G q : Nat} (h : (fn_la G q).1 ≠ 0) : q < fn_NC G := Nat.lt_of_not_le fun hle => h (by
  unfold fn_la fn_NC at *
  split at hle <;> (rw [List.getD_eq_getElem?_getD, List.getElem?_eq_none hle]; rfl))
theorem fn_sep0 : ∀ q, q < fn_NC 0 → fn_lc 0 q ≠ 0 → (fn_la 0 q).1 = 0 := by decide +kernel
theorem fn_sep1 : ∀ q, q < fn_NC 1 → fn_lc 1 q ≠ 0 → (fn_la 1 q).1 = 0 := by decide +kernel
theorem fn_sep2 : ∀ q, q < fn_NC 2 → fn_lc 2 q ≠ 0 → (fn_la 2 q).1 = 0 := by decide +kernel
theorem fn_sep {G q : Nat} (h : fn_lc G q ≠ 0) : (fn_la G q).1 = 0 := by
  have hq := fn_lc_lt h
  match G with
  | 0 => exact fn_sep0 q hq h
  | 1 => exact fn_sep1 q hq h
  | k + 2 => exact fn_sep2 q hq h
theorem fn_sml0 : ∀ q, q < fn_NC 0 → (fn_la 0 q).1 ≤ 6 ∧ fn_lc 0 q ≤ 9 := by decide +kernel
theorem fn_sml1 : ∀ q, q < fn_NC 1 → (fn_la 1 q).1 ≤ 6 ∧ fn_lc 1 q ≤ 9 := by decide +kernel
theorem fn_sml2 : ∀ q, q < fn_NC 2 → (fn_la 2 q).1 ≤ 6 ∧ fn_lc 2 q ≤ 9 := by decide +kernel
theorem fn_sml {G q : Nat} (hq : q < fn_NC G) : (fn_la G q).1 ≤ 6 ∧ fn_lc G q ≤ 9 := by
  match G with
  | 0 => exact fn_sml0 q hq
  | 1 => exact fn_sml1 q hq
  | k + 2 => exact fn_sml2 q hq
theorem fn_NC_le (G : Nat) : fn_NC G ≤ 62 := by
  unfold fn_NC
  split <;> omega
theorem fn_ce_obj {ad : Nat → Nat} {dA : Nat → ClassId} {G : Nat} {x : fn_M} {q ci : Nat} (h : fn_lc G q = ci + 1) : fn_ce ad dA G x q = .inr (ci, fn_fs ad x ci q) := by
  have h0 : fn_lc G q ≠ 0 := by omega
  have h1 := fn_sep h0
  have h2 : fn_lc G q - 1 = ci := by omega
  unfold fn_ce
  rw [h2]
  split
  · rfl
  · rename_i t n e
    rw [e] at h1
    exact absurd h1 (by simp)
theorem fn_ce_arr {ad : Nat → Nat} {dA : Nat → ClassId} {G : Nat} {x : fn_M} {q t : Nat} (h : (fn_la G q).1 = t + 1) : fn_ce ad dA G x q = .inl (dA t, (fn_la G q).2, if t < 3 then .inl (x q) else .inr (.inr (.inr (.inr (fun i => (fn_ar x q i).map ad))))) := by
  unfold fn_ce
  split
  · rename_i n e
    rw [e] at h
    exact absurd h (by simp)
  · rename_i t' n e
    rw [e] at h ⊢
    have h3 : t' = t := by simpa using h
    subst h3
    rfl
theorem fn_ce_congr {ad : Nat → Nat} {dA : Nat → ClassId} {G : Nat} {x y : fn_M} {i : Nat} (h : y i = x i) : fn_ce ad dA G y i = fn_ce ad dA G x i := by
  have h1 : ∀ ci j, fn_fv y ci j i = fn_fv x ci j i := fun ci j => by unfold fn_fv; rw [h]
  have h2 : ∀ k, fn_ar y i k = fn_ar x i k := fun k => by unfold fn_ar; rw [h]
  unfold fn_ce fn_fs
  simp only [h1, h2, h]
theorem fn_W_set {ad : Nat → Nat} {dA : Nat → ClassId} {G : Nat} {x y : fn_M} {q : Nat} {E : va_E} (hq : q < fn_NC G) (hx : ∀ a, a ≠ q → y a = x a) (e : fn_ce ad dA G y q = E) : (fn_W ad dA G x).set q (ad q, E) = fn_W ad dA G y := by
  subst e
  apply List.ext_getElem?
  intro i
  rw [List.getElem?_set]
  by_cases h : q = i
  · subst h
    rw [if_pos rfl, fn_W_at hq, if_pos (by rw [fn_W_len]; exact hq)]
  · rw [if_neg h]
    by_cases hi : i < fn_NC G
    · rw [fn_W_at hi, fn_W_at hi, fn_ce_congr (hx i (fun z => h z.symm))]
    · rw [List.getElem?_eq_none (by rw [fn_W_len]; exact Nat.le_of_not_lt hi), List.getElem?_eq_none (by rw [fn_W_len]; exact Nat.le_of_not_lt hi)]
theorem fn_w_ne {x : fn_M} {q j : Nat} {v : Int32} : ∀ a, a ≠ q → fn_w x q j v a = x a := fun a h => if_neg h
theorem fn_w_eq {x : fn_M} {q j : Nat} {v : Int32} : fn_w x q j v q = upd (x q) j v := if_pos rfl
theorem fn_fs_set {ad : Nat → Nat} {x : fn_M} {ci q j : Nat} {v : Int32} (hj : j < fn_nf ci) : (fn_fs ad x ci q).set j (fn_cv ad (fn_fv (fn_w x q j v) ci j q)) = fn_fs ad (fn_w x q j v) ci q := by
  apply List.ext_getElem?
  intro i
  rw [List.getElem?_set]
  by_cases h : j = i
  · subst h
    rw [if_pos rfl, if_pos (by simpa [fn_fs] using hj)]
    simp [fn_fs, hj]
  · rw [if_neg h]
    have e : fn_fv (fn_w x q j v) ci i q = fn_fv x ci i q := by
      unfold fn_fv
      rw [fn_w_eq]
      unfold upd
      rw [if_neg (fun z => h z.symm)]
    by_cases hi : i < fn_nf ci
    · simp [fn_fs, hi, e]
    · rw [List.getElem?_eq_none (by simpa [fn_fs] using Nat.le_of_not_lt hi), List.getElem?_eq_none (by simpa [fn_fs] using Nat.le_of_not_lt hi)]
/-- the code of a field against its type: 0 an int, 1 a boolean, 4 an object; these three aren't final -/
def fn_ftc (ci j : Nat) : Bool := match fn_cl[ci]? with
  | none => false
  | some r => match (fn_fc ci j).1 with
    | 0 => (r.2.1 j).2.2.1 == "I" && !(r.2.1 j).2.2.2
    | 1 => (r.2.1 j).2.2.1 == "Z" && !(r.2.1 j).2.2.2
    | 4 => (r.2.1 j).2.2.1 == "LFieldNet$Frame;" && !(r.2.1 j).2.2.2
    | _ => true
theorem fn_ft : ∀ ci, ci < 9 → ∀ j, j < fn_nf ci → fn_ftc ci j = true := by decide +kernel
theorem fn_cl9 {ci : Nat} {r : vw_C} (h : fn_cl[ci]? = some r) : ci < 9 := (List.getElem?_eq_some_iff.mp h).1
theorem fn_fto {ci j : Nat} {r : vw_C} (hr : fn_cl[ci]? = some r) (hj : j < fn_nf ci) : ((fn_fc ci j).1 = 0 → parseFieldDescriptor (r.2.1 j).2.2.1 = some .int ∧ (r.2.1 j).2.2.2 = false) ∧ ((fn_fc ci j).1 = 1 → parseFieldDescriptor (r.2.1 j).2.2.1 = some .boolean ∧ (r.2.1 j).2.2.2 = false) ∧ ((fn_fc ci j).1 = 4 → parseFieldDescriptor (r.2.1 j).2.2.1 = some (.object "FieldNet$Frame") ∧ (r.2.1 j).2.2.2 = false) := by
  have h := fn_ft ci (fn_cl9 hr) j hj
  unfold fn_ftc at h
  rw [hr] at h
  refine ⟨fun e => ?_, fun e => ?_, fun e => ?_⟩ <;>
    (simp only [e, Bool.and_eq_true, beq_iff_eq, Bool.not_eq_true'] at h
     refine ⟨?_, h.2⟩
     rw [h.1]
     decide +kernel)
/-! ===== what never changes: static fields of the JDK, tables of digits, the literal ===== -/
def fn_RO (ad : Nat → Nat) (A : Nat → Prop) (U : State) (H : Heap) : Prop :=
  va_Z "java/lang/String" "COMPACT_STRINGS" "Z" (.int 1) A U H ∧ va_Z "java/lang/Integer" "DigitOnes" "[B" (.ref (ad 1000)) A U H ∧ va_Z "java/lang/Integer" "DigitTens" "[B" (.ref (ad 1001)) A U H ∧
  va_Z "jdk/internal/util/Preconditions" "SIOOBE_FORMATTER" "Ljava/util/function/BiFunction;" (fn_zv (ad 1004)) A U H ∧
  va_T .byte (ad 1000) 100 (fun j => .int (fn_ones.getD j 0)) A U H ∧ va_T .byte (ad 1001) 100 (fun j => .int (fn_tens.getD j 0)) A U H ∧
  (va_O "java/lang/String" (ad 1002) A U H ∧ va_OF "java/lang/String" "coder" "B" (.int 0) (ad 1002) A U H ∧ va_OF "java/lang/String" "value" "[B" (.ref (ad 1003)) (ad 1002) A U H ∧ va_T .byte (ad 1003) 5 (fun j => .int (fn_lit.getD j 0)) A U H) ∧
  vk_R "FieldNet$Node" fn_lidx "NODE " (ad 1002) U
theorem fn_RO.next {ad : Nat → Nat} {A : Nat → Prop} {s U : State} {H : Heap} {locs : List Loc} (h : fn_RO ad A s s.heap) (hS : va_S A s.heap H locs) (hU : U.heap = H) (hW : s.WarmedH U.vm) : fn_RO ad A U U.heap := by
  obtain ⟨h1, h2, h3, h4, h5, h6, ⟨h7, h8, h9, h10⟩, h11⟩ := h
  rw [hU]
  have a := hW.alike
  have k := hS.2.1
  exact ⟨(va_Z.moved a h1).kept k, (va_Z.moved a h2).kept k, (va_Z.moved a h3).kept k, (va_Z.moved a h4).kept k, (va_T.moved a h5).kept k, (va_T.moved a h6).kept k, ⟨(va_O.moved a h7).kept k, (va_OF.moved a h8).kept k, (va_OF.moved a h9).kept k, (va_T.moved a h10).kept k⟩, vk_R.warm hW h11⟩
theorem fn_RO.same {ad : Nat → Nat} {A : Nat → Prop} {u U : State} {H : Heap} (hv : u.vm = U.vm) (h : fn_RO ad A u H) : fn_RO ad A U H := by
  obtain ⟨h1, h2, h3, h4, h5, h6, ⟨h7, h8, h9, h10⟩, h11⟩ := h
  have a : u.vm.Alike U.vm := by rw [hv]; exact Vm.Alike.refl _
  exact ⟨va_Z.moved a h1, va_Z.moved a h2, va_Z.moved a h3, va_Z.moved a h4, va_T.moved a h5, va_T.moved a h6, ⟨va_O.moved a h7, va_OF.moved a h8, va_OF.moved a h9, va_T.moved a h10⟩, vk_R.same hv.symm h11⟩
/-! ===== what goes with a state beside its cells ===== -/
def fn_P (D : va_G) (dA : Nat → ClassId) (ad : Nat → Nat) (G : Nat) (x : fn_M) (U : State) : Prop := va_P D fn_cl (fn_W ad dA G x) U.heap ∧ va_K D fn_cl (fn_ty dA) U ∧ (∀ w ∈ fn_nT, va_Nw w U) ∧ fn_RO ad (fn_A ad G) U U.heap
def fn_Q (D : va_G) (dA : Nat → ClassId) (ad : Nat → Nat) (G : Nat) (r : fn_R) : Array Value → State → Outcome → State → Prop := fun _ st oc t => (oc = .returned (r.2.map (fn_cv ad)) ∧ va_P D fn_cl (fn_W ad dA G r.1) t.heap) ∧ va_F (fn_A ad G) st t
def fn_Cx (D : va_G) (dA : Nat → ClassId) (ad : Nat → Nat) (G : Nat) (p : Program) (s : State) (m : MethodId) (args : Array Value) (meth : Method) (c : Code) (cc : ByteArray) (nL oc : Nat) (rt : Option FieldType) : Prop :=
  p.tables.exec = Jvm.exec ∧ c.code = cc ∧ c.maxLocals = nL ∧ meth.sig.returnType = rt ∧ meth.locks = false ∧ s.vm.findClass (fn_on oc) = some m.cls ∧ (∀ w ∈ fn_tT, w.before args s = true) ∧ (∀ w ∈ fn_nT, va_Nw w s) ∧ va_K D fn_cl (fn_ty dA) s ∧ fn_ad ad G ∧ fn_RO ad (fn_A ad G) s s.heap
theorem fn_nw {w : Jvm.Cond} (h : fn_isN w = true) {s U : State} (hW : s.WarmedH U.vm) (hZ : va_Nw w s) : va_Nw w U := by
  cases w <;> first | exact va_Nw.warmF hW hZ | exact va_Nw.warmM hW hZ | (simp [fn_isN] at h)
theorem fn_nw_same {w : Jvm.Cond} (h : fn_isN w = true) {s U : State} (hv : s.vm = U.vm) (hZ : va_Nw w s) : va_Nw w U := by
  refine va_Nw.same ?_ hv hZ
  cases w <;> first | rfl | (simp [fn_isN] at h)
theorem fn_P_blind {D : va_G} {dA : Nat → ClassId} {ad : Nat → Nat} {G : Nat} {x : fn_M} {as : List Value} : FrameBlind (va_Pc as (fn_P D dA ad G x)) := by
  intro a U g mk ⟨h1, h2, h3, h4, h5⟩
  exact ⟨h1, h2, va_K.moved (u := U) (U := U.calling g mk a) (Vm.Alike.refl U.vm) h3, fun w hw => fn_nw_same (s := U) (List.mem_filter.mp hw).2 rfl (h4 w hw), fn_RO.same (u := U) rfl h5⟩
theorem fn_P_next {D : va_G} {dA : Nat → ClassId} {ad : Nat → Nat} {G : Nat} {x : fn_M} {s U : State} {H : Heap} {locs : List Loc} (hP : va_P D fn_cl (fn_W ad dA G x) H) (hK : va_K D fn_cl (fn_ty dA) s) (hN : ∀ w ∈ fn_nT, va_Nw w s) (hR : fn_RO ad (fn_A ad G) s s.heap) (hS : va_S (fn_A ad G) s.heap H locs) (hU : U.heap = H) (hW : s.WarmedH U.vm) : fn_P D dA ad G x U :=
  ⟨by rw [hU]; exact hP, va_K.moved hW.alike hK, fun w hw => fn_nw (List.mem_filter.mp hw).2 hW (hN w hw), hR.next hS hU hW⟩
