/-! ===== constructors: rows that all of them use ===== -/
def kn_O (U : State) : Prop := va_AO "FieldNet$Frame" U ∧ va_AO "FieldNet$Member" U ∧ va_AO "FieldNet$Node" U
theorem kn_O.moved {u U : State} (h : u.vm.Alike U.vm) (o : kn_O u) : kn_O U := ⟨va_AO.moved h o.1, va_AO.moved h o.2.1, va_AO.moved h o.2.2⟩
def kn_Pre (D : va_G) (dA : Nat → ClassId) (sz : Nat) (ws : va_W) (U : State) : Prop := U.heap.size = sz ∧ va_P D fn_cl ws U.heap ∧ va_K D fn_cl (fn_ty dA) U ∧ (∀ w ∈ fn_nT, va_Nw w U) ∧ va_D (fun _ => True) ws ∧ kn_O U
theorem kn_blind {D : va_G} {dA : Nat → ClassId} {sz : Nat} {ws : va_W} {as : List Value} : FrameBlind (va_Pc as (kn_Pre D dA sz ws)) := by
  intro a U g mk ⟨h1, h2, h3, h4, h5, h6, h7⟩
  exact ⟨h1, h2, h3, va_K.moved (u := U) (U := U.calling g mk a) (Vm.Alike.refl U.vm) h4, fun w hw => fn_nw_same (s := U) (List.mem_filter.mp hw).2 rfl (h5 w hw), h6, kn_O.moved (u := U) (U := U.calling g mk a) (Vm.Alike.refl U.vm) h7⟩
theorem kn_pre {D : va_G} {dA : Nat → ClassId} {A : Nat → Prop} {ws : va_W} {s U : State} {H : Heap} (hP : va_P D fn_cl ws H) (hD : va_D A ws) (hK : va_K D fn_cl (fn_ty dA) s) (hN : ∀ w ∈ fn_nT, va_Nw w s) (hO : kn_O s) (hU : U.heap = H) (hW : s.WarmedH U.vm) : kn_Pre D dA H.size ws U :=
  ⟨by rw [hU], by rw [hU]; exact hP, va_K.moved hW.alike hK, fun w hw => fn_nw (List.mem_filter.mp hw).2 hW (hN w hw), hD.weaken (fun _ _ _ _ => trivial), hO.moved hW.alike⟩
def kn_CS (A : Nat → Prop) (U : State) (H : Heap) : Prop := va_Z "java/lang/String" "COMPACT_STRINGS" "Z" (.int 1) A U H
def kn_PreZ (D : va_G) (dA : Nat → ClassId) (sz : Nat) (ws : va_W) (U : State) : Prop := U.heap.size = sz ∧ va_P D fn_cl ws U.heap ∧ va_K D fn_cl (fn_ty dA) U ∧ (∀ w ∈ fn_nT, va_Nw w U) ∧ va_D (fun _ => True) ws ∧ va_Z "java/lang/String" "COMPACT_STRINGS" "Z" (.int 1) (va_A ws sz) U U.heap
theorem kn_blindZ {D : va_G} {dA : Nat → ClassId} {sz : Nat} {ws : va_W} {as : List Value} : FrameBlind (va_Pc as (kn_PreZ D dA sz ws)) := by
  intro a U g mk ⟨h1, h2, h3, h4, h5, h6, h7⟩
  exact ⟨h1, h2, h3, va_K.moved (u := U) (U := U.calling g mk a) (Vm.Alike.refl U.vm) h4, fun w hw => fn_nw_same (s := U) (List.mem_filter.mp hw).2 rfl (h5 w hw), h6, va_Z.moved (u := U) (Vm.Alike.refl U.vm) h7⟩
theorem kn_un {D : va_G} {cl : List vw_C} {tys : List (ClassId × FieldType)} {s : State} {c1 c2 : ClassId} {ty : FieldType} (h : va_K D cl tys s) (i j : Nat) (h1 : tys[i]? = some (c1, ty)) (h2 : tys[j]? = some (c2, ty)) : c1 = c2 := by
  have a := (h.2 i _ h1).2
  have b := (h.2 j _ h2).2
  cases ty <;> first
    | (obtain ⟨_, _, _, _, _, a⟩ := a
       obtain ⟨_, _, _, _, _, b⟩ := b
       exact Option.some.inj (a.symm.trans b))
    | exact Option.some.inj (Eq.trans (Eq.symm a) b)

theorem kn_f0 : ∀ j, j < 13 → defaultValue (fn_t0 j) = vp_V [.int 0, .int 0, .int 0, .int 0, .int 0, .int 0, .int 0, .int 0, .int 0, .int 0, .int 0, .null, .int 0] j := fun j hj => match j, hj with
  | 0, _ => rfl
  | 1, _ => rfl
  | 2, _ => rfl
  | 3, _ => rfl
  | 4, _ => rfl
  | 5, _ => rfl
  | 6, _ => rfl
  | 7, _ => rfl
  | 8, _ => rfl
  | 9, _ => rfl
  | 10, _ => rfl
  | 11, _ => rfl
  | 12, _ => rfl
  | (n + 13), h => absurd h (by omega)
theorem kn_f1 : ∀ j, j < 5 → defaultValue (fn_t1 j) = vp_V [.int 0, .int 0, .int 0, .int 0, .int 0] j := fun j hj => match j, hj with
  | 0, _ => rfl
  | 1, _ => rfl
  | 2, _ => rfl
  | 3, _ => rfl
  | 4, _ => rfl
  | (n + 5), h => absurd h (by omega)
theorem kn_f2 : ∀ j, j < 5 → defaultValue (fn_t2 j) = vp_V [.null, .null, .null, .int 0, .int 0] j := fun j hj => match j, hj with
  | 0, _ => rfl
  | 1, _ => rfl
  | 2, _ => rfl
  | 3, _ => rfl
  | 4, _ => rfl
  | (n + 5), h => absurd h (by omega)
theorem kn_f3 : ∀ j, j < 8 → defaultValue (fn_t3 j) = vp_V [.int 0, .int 0, .int 0, .int 0, .null, .null, .int 0, .int 0] j := fun j hj => match j, hj with
  | 0, _ => rfl
  | 1, _ => rfl
  | 2, _ => rfl
  | 3, _ => rfl
  | 4, _ => rfl
  | 5, _ => rfl
  | 6, _ => rfl
  | 7, _ => rfl
  | (n + 8), h => absurd h (by omega)
theorem kn_f4 : ∀ j, j < 12 → defaultValue (fn_t4 j) = vp_V [.int 0, .null, .null, .int 0, .int 0, .int 0, .int 0, .int 0, .int 0, .int 0, .int 0, .int 0] j := fun j hj => match j, hj with
  | 0, _ => rfl
  | 1, _ => rfl
  | 2, _ => rfl
  | 3, _ => rfl
  | 4, _ => rfl
  | 5, _ => rfl
  | 6, _ => rfl
  | 7, _ => rfl
  | 8, _ => rfl
  | 9, _ => rfl
  | 10, _ => rfl
  | 11, _ => rfl
  | (n + 12), h => absurd h (by omega)
theorem kn_f5 : ∀ j, j < 7 → defaultValue (fn_t5 j) = vp_V [.null, .null, .int 0, .int 0, .int 0, .int 0, .int 0] j := fun j hj => match j, hj with
  | 0, _ => rfl
  | 1, _ => rfl
  | 2, _ => rfl
  | 3, _ => rfl
  | 4, _ => rfl
  | 5, _ => rfl
  | 6, _ => rfl
  | (n + 7), h => absurd h (by omega)
theorem kn_f6 : ∀ j, j < 3 → defaultValue (fn_t6 j) = vp_V [.null, .null, .null] j := fun j hj => match j, hj with
  | 0, _ => rfl
  | 1, _ => rfl
  | 2, _ => rfl
  | (n + 3), h => absurd h (by omega)
theorem kn_f7 : ∀ j, j < 42 → defaultValue (fn_t7 j) = vp_V [.int 0, .null, .null, .null, .null, .null, .null, .null, .null, .null, .int 0, .null, .null, .null, .null, .null, .int 0, .int 0, .int 0, .int 0, .null, .null, .null, .null, .null, .null, .null, .int 0, .int 0, .int 0, .int 0, .int 0, .int 0, .int 0, .int 0, .int 0, .int 0, .int 0, .int 0, .null, .int 0, .null] j := fun j hj => match j, hj with
  | 0, _ => rfl
  | 1, _ => rfl
  | 2, _ => rfl
  | 3, _ => rfl
  | 4, _ => rfl
  | 5, _ => rfl
  | 6, _ => rfl
  | 7, _ => rfl
  | 8, _ => rfl
  | 9, _ => rfl
  | 10, _ => rfl
  | 11, _ => rfl
  | 12, _ => rfl
  | 13, _ => rfl
  | 14, _ => rfl
  | 15, _ => rfl
  | 16, _ => rfl
  | 17, _ => rfl
  | 18, _ => rfl
  | 19, _ => rfl
  | 20, _ => rfl
  | 21, _ => rfl
  | 22, _ => rfl
  | 23, _ => rfl
  | 24, _ => rfl
  | 25, _ => rfl
  | 26, _ => rfl
  | 27, _ => rfl
  | 28, _ => rfl
  | 29, _ => rfl
  | 30, _ => rfl
  | 31, _ => rfl
  | 32, _ => rfl
  | 33, _ => rfl
  | 34, _ => rfl
  | 35, _ => rfl
  | 36, _ => rfl
  | 37, _ => rfl
  | 38, _ => rfl
  | 39, _ => rfl
  | 40, _ => rfl
  | 41, _ => rfl
  | (n + 42), h => absurd h (by omega)
theorem kn_f8 : ∀ j, j < 4 → defaultValue (fn_t8 j) = vp_V [.null, .int 0, .int 0, .int 0] j := fun j hj => match j, hj with
  | 0, _ => rfl
  | 1, _ => rfl
  | 2, _ => rfl
  | 3, _ => rfl
  | (n + 4), h => absurd h (by omega)
theorem kl_0 : (.methodLink "FieldNet$Frame" 1 (⟨"java/lang/Object", "<init>", "()V"⟩ : MethodName) : Jvm.Cond) ∈ fn_tT := fn_gd (fn_tm1 (k := 40) rfl) rfl
theorem kl_1 : (.instanceMethod (⟨"java/lang/Object", "<init>", "()V"⟩ : MethodName) : Jvm.Cond) ∈ fn_tT := fn_gd (fn_tm1 (k := 26) rfl) rfl
theorem kl_2 : (.code (⟨"java/lang/Object", "<init>", "()V"⟩ : MethodName) ⟨#[0xb1]⟩ 1 none : Jvm.Cond) ∈ fn_tT := fn_gd (fn_tm1 (k := 27) rfl) rfl
theorem kl_3 : (.methodLink "FieldNet$Client" 3 (⟨"java/lang/Object", "<init>", "()V"⟩ : MethodName) : Jvm.Cond) ∈ fn_tT := fn_gd (fn_tm1 (k := 110) rfl) rfl
theorem kl_4 : (.arrayClass .int : Jvm.Cond) ∈ fn_tT := fn_gd (fn_tm1 (k := 156) rfl) rfl
theorem kl_5 : (.fieldLink "FieldNet$Client" 11 "FieldNet$Client" "letters" "[I" : Jvm.Cond) ∈ fn_tT := fn_gd (fn_tm1 (k := 127) rfl) rfl
theorem kl_6 : (.methodLink "FieldNet$Member" 3 (⟨"java/lang/Object", "<init>", "()V"⟩ : MethodName) : Jvm.Cond) ∈ fn_tT := fn_gd (fn_tm1 (k := 163) rfl) rfl
theorem kl_7 : (.fieldLink "FieldNet$Member" 9 "FieldNet$Member" "expected" "I" : Jvm.Cond) ∈ fn_tT := fn_gd (fn_tm1 (k := 164) rfl) rfl
theorem kl_8 : (.fieldLink "FieldNet$Member" 15 "FieldNet$Member" "heardAt" "I" : Jvm.Cond) ∈ fn_tT := fn_gd (fn_tm1 (k := 169) rfl) rfl
theorem kl_9 : (.fieldLink "FieldNet$Member" 18 "FieldNet$Member" "writeObjects" "[I" : Jvm.Cond) ∈ fn_tT := fn_gd (fn_tm1 (k := 171) rfl) rfl
theorem kl_10 : (.fieldLink "FieldNet$Member" 22 "FieldNet$Member" "writeValues" "[I" : Jvm.Cond) ∈ fn_tT := fn_gd (fn_tm1 (k := 173) rfl) rfl
theorem kl_11 : (.methodLink "FieldNet$Wire" 1 (⟨"java/lang/Object", "<init>", "()V"⟩ : MethodName) : Jvm.Cond) ∈ fn_tT := fn_gd (fn_tm1 (k := 33) rfl) rfl
theorem kl_12 : (.classLink "FieldNet$Wire" 9 "FieldNet$Frame" : Jvm.Cond) ∈ fn_tT := fn_gd (fn_tm1 (k := 34) rfl) rfl
theorem kl_13 : (.fieldLink "FieldNet$Wire" 11 "FieldNet$Wire" "frames" "[LFieldNet$Frame;" : Jvm.Cond) ∈ fn_tT := fn_gd (fn_tm1 (k := 72) rfl) rfl
theorem kl_14 : (.instantiable "FieldNet$Frame" 5 : Jvm.Cond) ∈ fn_tT := fn_gd (fn_tm1 (k := 36) rfl) rfl
theorem kl_15 : (.initialized "FieldNet$Frame" : Jvm.Cond) ∈ fn_tT := fn_gd (fn_tm1 (k := 3) rfl) rfl
theorem kl_16 : (.methodLinkNest "FieldNet$Wire" 15 (⟨"FieldNet$Frame", "<init>", "()V"⟩ : MethodName) "FieldNet" : Jvm.Cond) ∈ fn_nT := fn_ns (fn_tm1 (k := 37) rfl) rfl
theorem kl_17 : (.code (⟨"FieldNet$Frame", "<init>", "()V"⟩ : MethodName) prog_3_method_1_code 1 none : Jvm.Cond) ∈ fn_tT := fn_gd (fn_tm1 (k := 39) rfl) rfl
theorem kl_18 : (.instanceMethod (⟨"FieldNet$Frame", "<init>", "()V"⟩ : MethodName) : Jvm.Cond) ∈ fn_tT := fn_gd (fn_tm1 (k := 38) rfl) rfl
theorem kl_19 : (.fieldLink "FieldNet$Wire" 16 "FieldNet$Wire" "spare" "LFieldNet$Frame;" : Jvm.Cond) ∈ fn_tT := fn_gd (fn_tm1 (k := 73) rfl) rfl
theorem kl_20 : (.methodLink "FieldNet$Master" 3 (⟨"java/lang/Object", "<init>", "()V"⟩ : MethodName) : Jvm.Cond) ∈ fn_tT := fn_gd (fn_tm1 (k := 104) rfl) rfl
theorem kl_21 : (.classLink "FieldNet$Master" 9 "FieldNet$Client" : Jvm.Cond) ∈ fn_tT := fn_gd (fn_tm1 (k := 105) rfl) rfl
theorem kl_22 : (.instantiable "FieldNet$Client" 13 : Jvm.Cond) ∈ fn_tT := fn_gd (fn_tm1 (k := 106) rfl) rfl
theorem kl_23 : (.initialized "FieldNet$Client" : Jvm.Cond) ∈ fn_tT := fn_gd (fn_tm1 (k := 5) rfl) rfl
theorem kl_24 : (.methodLinkNest "FieldNet$Master" 11 (⟨"FieldNet$Client", "<init>", "()V"⟩ : MethodName) "FieldNet" : Jvm.Cond) ∈ fn_nT := fn_ns (fn_tm1 (k := 107) rfl) rfl
theorem kl_25 : (.code (⟨"FieldNet$Client", "<init>", "()V"⟩ : MethodName) prog_2_method_1_code 1 none : Jvm.Cond) ∈ fn_tT := fn_gd (fn_tm1 (k := 109) rfl) rfl
theorem kl_26 : (.instanceMethod (⟨"FieldNet$Client", "<init>", "()V"⟩ : MethodName) : Jvm.Cond) ∈ fn_tT := fn_gd (fn_tm1 (k := 108) rfl) rfl
theorem kl_27 : (.fieldLink "FieldNet$Master" 12 "FieldNet$Master" "client" "LFieldNet$Client;" : Jvm.Cond) ∈ fn_tT := fn_gd (fn_tm1 (k := 195) rfl) rfl
theorem kl_28 : (.classLink "FieldNet$Master" 18 "FieldNet$Member" : Jvm.Cond) ∈ fn_tT := fn_gd (fn_tm1 (k := 157) rfl) rfl
theorem kl_29 : (.fieldLink "FieldNet$Master" 20 "FieldNet$Master" "members" "[LFieldNet$Member;" : Jvm.Cond) ∈ fn_tT := fn_gd (fn_tm1 (k := 197) rfl) rfl
theorem kl_30 : (.instantiable "FieldNet$Member" 8 : Jvm.Cond) ∈ fn_tT := fn_gd (fn_tm1 (k := 159) rfl) rfl
theorem kl_31 : (.initialized "FieldNet$Member" : Jvm.Cond) ∈ fn_tT := fn_gd (fn_tm1 (k := 6) rfl) rfl
theorem kl_32 : (.methodLinkNest "FieldNet$Master" 24 (⟨"FieldNet$Member", "<init>", "()V"⟩ : MethodName) "FieldNet" : Jvm.Cond) ∈ fn_nT := fn_ns (fn_tm1 (k := 160) rfl) rfl
theorem kl_33 : (.code (⟨"FieldNet$Member", "<init>", "()V"⟩ : MethodName) prog_5_method_1_code 1 none : Jvm.Cond) ∈ fn_tT := fn_gd (fn_tm1 (k := 162) rfl) rfl
theorem kl_34 : (.instanceMethod (⟨"FieldNet$Member", "<init>", "()V"⟩ : MethodName) : Jvm.Cond) ∈ fn_tT := fn_gd (fn_tm1 (k := 161) rfl) rfl
theorem kl_35 : (.fieldLink "FieldNet$Master" 25 "FieldNet$Master" "reports" "[I" : Jvm.Cond) ∈ fn_tT := fn_gd (fn_tm1 (k := 199) rfl) rfl
theorem kl_36 : (.methodLink "FieldNetModel" 1 (⟨"java/lang/Object", "<init>", "()V"⟩ : MethodName) : Jvm.Cond) ∈ fn_tT := fn_gd (fn_tm4 (k := 143) rfl) rfl
theorem kl_37 : (.fieldLink "FieldNetModel" 7 "FieldNetModel" "states" "[I" : Jvm.Cond) ∈ fn_tT := fn_gd (fn_tm4 (k := 145) rfl) rfl
theorem kl_38 : (.fieldLink "FieldNetModel" 13 "FieldNetModel" "objects" "[I" : Jvm.Cond) ∈ fn_tT := fn_gd (fn_tm4 (k := 146) rfl) rfl
theorem kl_39 : (.fieldLink "FieldNetModel" 16 "FieldNetModel" "sentAt" "[I" : Jvm.Cond) ∈ fn_tT := fn_gd (fn_tm4 (k := 147) rfl) rfl
theorem kl_40 : (.arrayClass .boolean : Jvm.Cond) ∈ fn_tT := fn_gd (fn_tm5 (k := 31) rfl) rfl
theorem kl_41 : (.fieldLink "FieldNetModel" 19 "FieldNetModel" "held" "[Z" : Jvm.Cond) ∈ fn_tT := fn_gd (fn_tm4 (k := 148) rfl) rfl
theorem kl_42 : (.fieldLink "FieldNetModel" 23 "FieldNetModel" "syncs" "[I" : Jvm.Cond) ∈ fn_tT := fn_gd (fn_tm4 (k := 149) rfl) rfl
theorem kl_43 : (.fieldLink "FieldNetModel" 26 "FieldNetModel" "heardAt" "[I" : Jvm.Cond) ∈ fn_tT := fn_gd (fn_tm4 (k := 150) rfl) rfl
theorem kl_44 : (.fieldLink "FieldNetModel" 29 "FieldNetModel" "reading" "[I" : Jvm.Cond) ∈ fn_tT := fn_gd (fn_tm4 (k := 151) rfl) rfl
theorem kl_45 : (.fieldLink "FieldNetModel" 32 "FieldNetModel" "toggles" "[I" : Jvm.Cond) ∈ fn_tT := fn_gd (fn_tm4 (k := 152) rfl) rfl
theorem kl_46 : (.fieldLink "FieldNetModel" 35 "FieldNetModel" "beatAt" "[I" : Jvm.Cond) ∈ fn_tT := fn_gd (fn_tm4 (k := 153) rfl) rfl
theorem kl_47 : (.fieldLink "FieldNetModel" 38 "FieldNetModel" "ids" "[I" : Jvm.Cond) ∈ fn_tT := fn_gd (fn_tm4 (k := 155) rfl) rfl
theorem kl_48 : (.fieldLink "FieldNetModel" 41 "FieldNetModel" "as" "[I" : Jvm.Cond) ∈ fn_tT := fn_gd (fn_tm4 (k := 156) rfl) rfl
theorem kl_49 : (.fieldLink "FieldNetModel" 44 "FieldNetModel" "bs" "[I" : Jvm.Cond) ∈ fn_tT := fn_gd (fn_tm4 (k := 157) rfl) rfl
theorem kl_50 : (.fieldLink "FieldNetModel" 47 "FieldNetModel" "cs" "[I" : Jvm.Cond) ∈ fn_tT := fn_gd (fn_tm4 (k := 158) rfl) rfl
theorem kl_51 : (.fieldLink "FieldNetModel" 50 "FieldNetModel" "from" "[I" : Jvm.Cond) ∈ fn_tT := fn_gd (fn_tm4 (k := 159) rfl) rfl
theorem kl_52 : (.fieldLink "FieldNetModel" 53 "FieldNetModel" "expected" "[I" : Jvm.Cond) ∈ fn_tT := fn_gd (fn_tm4 (k := 164) rfl) rfl
theorem kl_53 : (.fieldLink "FieldNetModel" 56 "FieldNetModel" "time" "[I" : Jvm.Cond) ∈ fn_tT := fn_gd (fn_tm4 (k := 165) rfl) rfl
theorem kl_54 : (.fieldLink "FieldNetModel" 59 "FieldNetModel" "listed" "[I" : Jvm.Cond) ∈ fn_tT := fn_gd (fn_tm4 (k := 166) rfl) rfl
theorem kl_55 : (.fieldLink "FieldNetModel" 62 "FieldNetModel" "listObject" "[I" : Jvm.Cond) ∈ fn_tT := fn_gd (fn_tm4 (k := 167) rfl) rfl
theorem kl_56 : (.fieldLink "FieldNetModel" 65 "FieldNetModel" "listValue" "[I" : Jvm.Cond) ∈ fn_tT := fn_gd (fn_tm4 (k := 168) rfl) rfl
theorem kl_57 : (.fieldLink "FieldNetModel" 68 "FieldNetModel" "phases" "[I" : Jvm.Cond) ∈ fn_tT := fn_gd (fn_tm4 (k := 169) rfl) rfl
theorem kl_58 : (.fieldLink "FieldNetModel" 71 "FieldNetModel" "heard" "[I" : Jvm.Cond) ∈ fn_tT := fn_gd (fn_tm4 (k := 170) rfl) rfl
theorem kl_59 : (.fieldLink "FieldNetModel" 74 "FieldNetModel" "got" "[I" : Jvm.Cond) ∈ fn_tT := fn_gd (fn_tm4 (k := 183) rfl) rfl
theorem kl_60 : (.fieldLink "FieldNetModel" 77 "FieldNetModel" "report" "[I" : Jvm.Cond) ∈ fn_tT := fn_gd (fn_tm4 (k := 185) rfl) rfl
theorem kd_Frame_0 : decode prog_3_method_1_code 0 = .ok (.aload_n 0, 1) := by decide +kernel
theorem kd_Frame_1 : decode prog_3_method_1_code 1 = .ok (.invokespecial 1, 3) := by decide +kernel
theorem kd_Frame_4 : decode prog_3_method_1_code 4 = .ok (.return_, 1) := by decide +kernel
set_option maxHeartbeats 8000000 in
set_option maxRecDepth 100000 in
theorem kc_Frame (l : Launch) (D : va_G) (dA : Nat → ClassId) (h0 : Nat) (sz : Nat) : Met l (⟨"FieldNet$Frame", "<init>", "()V"⟩ : MethodName) (.code (⟨"FieldNet$Frame", "<init>", "()V"⟩ : MethodName) prog_3_method_1_code 1 none :: fn_tT) ({ frames := 1, cells := 0, slots := 0, locals := 12 }) (va_Pc [.ref h0] (kn_Pre D dA sz [(h0, .inr (1, [.int 0, .int 0, .int 0, .int 0, .int 0]))])) (va_Qv (fun _ : (Nat → Nat) => True) (fun a t => va_P D fn_cl [(h0, .inr (1, [.int 0, .int 0, .int 0, .int 0, .int 0]))] t.heap ∧ va_D (va_A [(h0, .inr (1, [.int 0, .int 0, .int 0, .int 0, .int 0]))] sz) [(h0, .inr (1, [.int 0, .int 0, .int 0, .int 0, .int 0]))]) (va_A [(h0, .inr (1, [.int 0, .int 0, .int 0, .int 0, .int 0]))] sz)) 0 0 (va_A [(h0, .inr (1, [.int 0, .int 0, .int 0, .int 0, .int 0]))] sz) := by
  refine Met.ofW (cc := prog_3_method_1_code) (maxL := 1) (ret := none) (by decide) rfl ?_
  intro p e s m args below meth c s₁ B hml hv
  obtain ⟨rfl, hsz, hP, hK, hN, hD0, hO⟩ := hv
  have hx := B.exec
  have hb := B.bytes
  have hr := B.returns
  have hts : ∀ w ∈ fn_tT, w.before _ s = true := fun w hw => atoms_spec (ws := .code (⟨"FieldNet$Frame", "<init>", "()V"⟩ : MethodName) prog_3_method_1_code 1 none :: fn_tT) B.pre w (List.mem_cons_of_mem _ hw)
  have hown : s.vm.findClass "FieldNet$Frame" = some m.cls := findClass_of_methodNamed B.named
  have hin : meth.name = "<init>" := (name_of_methodNamed B.named B.method).1
  subst hsz
  have hD := hD0.self (sz := s.heap.size)
  generalize hAe : va_A [(h0, .inr (1, [.int 0, .int 0, .int 0, .int 0, .int 0]))] s.heap.size = A at hD ⊢
  have hA : ∀ q : Nat, s.heap.size ≤ q → A q := fun q h => by rw [← hAe]; exact Or.inr h
  have hS : va_S A s.heap s.heap [] := va_S.rf
  have hl := lv_entry ([.ref h0]) (n := 1) (Nat.le_of_ble_eq_true rfl)
  rw [lg_entry_eq]
  generalize (lg_sl ([.ref h0]) ++ List.replicate (1 - (lg_sl ([.ref h0])).length) Slot.unset).toArray = ls at hl ⊢
  have hl : lv_has ls 1 [(0, .ref h0)] := hl
  have hP : va_P D fn_cl [(h0, .inr (1, [.int 0, .int 0, .int 0, .int 0, .int 0]))] s.heap := hP
  refine lv_aload_n hx hb kd_Frame_0 rfl (lv_at hl 0 rfl) ?_
  refine W.objInit hx hb hown (hts _ kl_0) (hts _ kl_1) (hts _ kl_2) rfl (by rw [hml]; exact hl.1) rfl kd_Frame_1 (Nat.le_of_ble_eq_true rfl) (Nat.le_of_ble_eq_true rfl) ?_
  refine W.eq (g2 := F0 m 4 ls []) rfl ?_
  refine W.widen (k := 0) (n := 0) (Nat.le_of_ble_eq_true rfl) (Nat.le_of_ble_eq_true rfl) ?_
  exact W.vret hx hb hr (fun t ht hW => ⟨⟨(fun i => [].getD i 0 : Nat → Nat), rfl, trivial, by rw [ht]; exact hP, hD⟩, hS.F ht⟩) hS.2.2 kd_Frame_4
theorem kd_Client_0 : decode prog_2_method_1_code 0 = .ok (.aload_n 0, 1) := by decide +kernel
theorem kd_Client_1 : decode prog_2_method_1_code 1 = .ok (.invokespecial 3, 3) := by decide +kernel
theorem kd_Client_4 : decode prog_2_method_1_code 4 = .ok (.aload_n 0, 1) := by decide +kernel
theorem kd_Client_5 : decode prog_2_method_1_code 5 = .ok (.bipush 12, 2) := by decide +kernel
theorem kd_Client_7 : decode prog_2_method_1_code 7 = .ok (.newarray .int, 2) := by decide +kernel
theorem kd_Client_9 : decode prog_2_method_1_code 9 = .ok (.putfield 11, 3) := by decide +kernel
theorem kd_Client_12 : decode prog_2_method_1_code 12 = .ok (.return_, 1) := by decide +kernel
set_option maxHeartbeats 8000000 in
set_option maxRecDepth 100000 in
theorem kc_Client (l : Launch) (D : va_G) (dA : Nat → ClassId) (h0 : Nat) (sz : Nat) : Met l (⟨"FieldNet$Client", "<init>", "()V"⟩ : MethodName) (.code (⟨"FieldNet$Client", "<init>", "()V"⟩ : MethodName) prog_2_method_1_code 1 none :: fn_tT) ({ frames := 1, cells := 1, slots := 12, locals := 12 }) (va_Pc [.ref h0] (kn_Pre D dA sz [(h0, .inr (0, [.int 0, .int 0, .int 0, .int 0, .int 0, .int 0, .int 0, .int 0, .int 0, .int 0, .int 0, .null, .int 0]))])) (va_Qv (fun _ : (Nat → Nat) => True) (fun a t => va_P D fn_cl [(h0, .inr (0, [.int 0, .int 0, .int 0, .int 0, .int 0, .int 0, .int 0, .int 0, .int 0, .int 0, .int 0, .ref (a 0), .int 0])), ((a 0), .inl (dA 0, 12, .inl (fun _ => 0)))] t.heap ∧ va_D (va_A [(h0, .inr (0, [.int 0, .int 0, .int 0, .int 0, .int 0, .int 0, .int 0, .int 0, .int 0, .int 0, .int 0, .null, .int 0]))] sz) [(h0, .inr (0, [.int 0, .int 0, .int 0, .int 0, .int 0, .int 0, .int 0, .int 0, .int 0, .int 0, .int 0, .ref (a 0), .int 0])), ((a 0), .inl (dA 0, 12, .inl (fun _ => 0)))]) (va_A [(h0, .inr (0, [.int 0, .int 0, .int 0, .int 0, .int 0, .int 0, .int 0, .int 0, .int 0, .int 0, .int 0, .null, .int 0]))] sz)) 1 12 (va_A [(h0, .inr (0, [.int 0, .int 0, .int 0, .int 0, .int 0, .int 0, .int 0, .int 0, .int 0, .int 0, .int 0, .null, .int 0]))] sz) := by
  refine Met.ofW (cc := prog_2_method_1_code) (maxL := 1) (ret := none) (by decide) rfl ?_
  intro p e s m args below meth c s₁ B hml hv
  obtain ⟨rfl, hsz, hP, hK, hN, hD0, hO⟩ := hv
  have hx := B.exec
  have hb := B.bytes
  have hr := B.returns
  have hts : ∀ w ∈ fn_tT, w.before _ s = true := fun w hw => atoms_spec (ws := .code (⟨"FieldNet$Client", "<init>", "()V"⟩ : MethodName) prog_2_method_1_code 1 none :: fn_tT) B.pre w (List.mem_cons_of_mem _ hw)
  have hown : s.vm.findClass "FieldNet$Client" = some m.cls := findClass_of_methodNamed B.named
  have hin : meth.name = "<init>" := (name_of_methodNamed B.named B.method).1
  subst hsz
  have hD := hD0.self (sz := s.heap.size)
  generalize hAe : va_A [(h0, .inr (0, [.int 0, .int 0, .int 0, .int 0, .int 0, .int 0, .int 0, .int 0, .int 0, .int 0, .int 0, .null, .int 0]))] s.heap.size = A at hD ⊢
  have hA : ∀ q : Nat, s.heap.size ≤ q → A q := fun q h => by rw [← hAe]; exact Or.inr h
  have hS : va_S A s.heap s.heap [] := va_S.rf
  have hl := lv_entry ([.ref h0]) (n := 1) (Nat.le_of_ble_eq_true rfl)
  rw [lg_entry_eq]
  generalize (lg_sl ([.ref h0]) ++ List.replicate (1 - (lg_sl ([.ref h0])).length) Slot.unset).toArray = ls at hl ⊢
  have hl : lv_has ls 1 [(0, .ref h0)] := hl
  have hP : va_P D fn_cl [(h0, .inr (0, [.int 0, .int 0, .int 0, .int 0, .int 0, .int 0, .int 0, .int 0, .int 0, .int 0, .int 0, .null, .int 0]))] s.heap := hP
  refine lv_aload_n hx hb kd_Client_0 rfl (lv_at hl 0 rfl) ?_
  refine W.objInit hx hb hown (hts _ kl_3) (hts _ kl_1) (hts _ kl_2) rfl (by rw [hml]; exact hl.1) rfl kd_Client_1 (Nat.le_of_ble_eq_true rfl) (Nat.le_of_ble_eq_true rfl) ?_
  refine W.eq (g2 := F0 m 4 ls []) rfl ?_
  refine lv_aload_n hx hb kd_Client_4 rfl (lv_at hl 0 rfl) ?_
  refine lv_bipush (v := 12) hx hb kd_Client_5 (by decide) ?_
  refine va_newa (atype := .int) (a0 := (12, .inl (fun _ => 0))) (ty := .int) (n := 12) (N' := 12) hx hb (hts _ kl_4) rfl hK hP hD hS hA (fun cA => rfl) (by decide) (by decide) (by decide) (Nat.le_of_ble_eq_true rfl) (Nat.le_of_ble_eq_true rfl) kd_Client_7 (fun q1 cA H hK2 hP hD hS => ?_)
  obtain rfl : cA = dA 0 := kn_un hK2 6 0 rfl rfl
  have hP : va_P D fn_cl [(h0, .inr (0, [.int 0, .int 0, .int 0, .int 0, .int 0, .int 0, .int 0, .int 0, .int 0, .int 0, .int 0, .null, .int 0])), (q1, .inl (dA 0, 12, .inl (fun _ => 0)))] H := hP
  have hD : va_D A [(h0, .inr (0, [.int 0, .int 0, .int 0, .int 0, .int 0, .int 0, .int 0, .int 0, .int 0, .int 0, .int 0, .null, .int 0])), (q1, .inl (dA 0, 12, .inl (fun _ => 0)))] := hD
  refine va_putF (D := D) (ci := 0) (v := .ref q1) (ty := (.array .int)) (C := fn_C0) (T := fn_F0) (N := 13) hx hb hts fn_in0 fn_t0 fn_ty0 fn_nm0 hown hK hP hD hS 0 rfl rfl 11 (by decide) (hts _ kl_5) (fun _ h9 => h9) rfl hin rfl (by decide +kernel) rfl rfl (Nat.le_of_ble_eq_true rfl) kd_Client_9 (fun H locs hP hD hS => ?_)
  have hP : va_P D fn_cl [(h0, .inr (0, [.int 0, .int 0, .int 0, .int 0, .int 0, .int 0, .int 0, .int 0, .int 0, .int 0, .int 0, .ref q1, .int 0])), (q1, .inl (dA 0, 12, .inl (fun _ => 0)))] H := hP
  have hD : va_D A [(h0, .inr (0, [.int 0, .int 0, .int 0, .int 0, .int 0, .int 0, .int 0, .int 0, .int 0, .int 0, .int 0, .ref q1, .int 0])), (q1, .inl (dA 0, 12, .inl (fun _ => 0)))] := hD
  refine W.widen (k := 1) (n := 12) (Nat.le_of_ble_eq_true rfl) (Nat.le_of_ble_eq_true rfl) ?_
  exact W.vret hx hb hr (fun t ht hW => ⟨⟨(fun i => [q1].getD i 0 : Nat → Nat), rfl, trivial, by rw [ht]; exact hP, hD⟩, hS.F ht⟩) hS.2.2 kd_Client_12
theorem kd_Member_0 : decode prog_5_method_1_code 0 = .ok (.aload_n 0, 1) := by decide +kernel
theorem kd_Member_1 : decode prog_5_method_1_code 1 = .ok (.invokespecial 3, 3) := by decide +kernel
theorem kd_Member_4 : decode prog_5_method_1_code 4 = .ok (.aload_n 0, 1) := by decide +kernel
theorem kd_Member_5 : decode prog_5_method_1_code 5 = .ok (.iconst (-1), 1) := by decide +kernel
theorem kd_Member_6 : decode prog_5_method_1_code 6 = .ok (.putfield 9, 3) := by decide +kernel
theorem kd_Member_9 : decode prog_5_method_1_code 9 = .ok (.aload_n 0, 1) := by decide +kernel
theorem kd_Member_10 : decode prog_5_method_1_code 10 = .ok (.iconst (-1), 1) := by decide +kernel
theorem kd_Member_11 : decode prog_5_method_1_code 11 = .ok (.putfield 15, 3) := by decide +kernel
theorem kd_Member_14 : decode prog_5_method_1_code 14 = .ok (.aload_n 0, 1) := by decide +kernel
theorem kd_Member_15 : decode prog_5_method_1_code 15 = .ok (.iconst 3, 1) := by decide +kernel
theorem kd_Member_16 : decode prog_5_method_1_code 16 = .ok (.newarray .int, 2) := by decide +kernel
theorem kd_Member_18 : decode prog_5_method_1_code 18 = .ok (.putfield 18, 3) := by decide +kernel
theorem kd_Member_21 : decode prog_5_method_1_code 21 = .ok (.aload_n 0, 1) := by decide +kernel
theorem kd_Member_22 : decode prog_5_method_1_code 22 = .ok (.iconst 3, 1) := by decide +kernel
theorem kd_Member_23 : decode prog_5_method_1_code 23 = .ok (.newarray .int, 2) := by decide +kernel
theorem kd_Member_25 : decode prog_5_method_1_code 25 = .ok (.putfield 22, 3) := by decide +kernel
theorem kd_Member_28 : decode prog_5_method_1_code 28 = .ok (.return_, 1) := by decide +kernel
set_option maxHeartbeats 8000000 in
set_option maxRecDepth 100000 in
theorem kc_Member (l : Launch) (D : va_G) (dA : Nat → ClassId) (h0 : Nat) (sz : Nat) : Met l (⟨"FieldNet$Member", "<init>", "()V"⟩ : MethodName) (.code (⟨"FieldNet$Member", "<init>", "()V"⟩ : MethodName) prog_5_method_1_code 1 none :: fn_tT) ({ frames := 1, cells := 2, slots := 6, locals := 12 }) (va_Pc [.ref h0] (kn_Pre D dA sz [(h0, .inr (3, [.int 0, .int 0, .int 0, .int 0, .null, .null, .int 0, .int 0]))])) (va_Qv (fun _ : (Nat → Nat) => True) (fun a t => va_P D fn_cl [(h0, .inr (3, [.int (-1), .int 0, .int 0, .int (-1), .ref (a 0), .ref (a 1), .int 0, .int 0])), ((a 0), .inl (dA 0, 3, .inl (fun _ => 0))), ((a 1), .inl (dA 0, 3, .inl (fun _ => 0)))] t.heap ∧ va_D (va_A [(h0, .inr (3, [.int 0, .int 0, .int 0, .int 0, .null, .null, .int 0, .int 0]))] sz) [(h0, .inr (3, [.int (-1), .int 0, .int 0, .int (-1), .ref (a 0), .ref (a 1), .int 0, .int 0])), ((a 0), .inl (dA 0, 3, .inl (fun _ => 0))), ((a 1), .inl (dA 0, 3, .inl (fun _ => 0)))]) (va_A [(h0, .inr (3, [.int 0, .int 0, .int 0, .int 0, .null, .null, .int 0, .int 0]))] sz)) 2 6 (va_A [(h0, .inr (3, [.int 0, .int 0, .int 0, .int 0, .null, .null, .int 0, .int 0]))] sz) := by
  refine Met.ofW (cc := prog_5_method_1_code) (maxL := 1) (ret := none) (by decide) rfl ?_
  intro p e s m args below meth c s₁ B hml hv
  obtain ⟨rfl, hsz, hP, hK, hN, hD0, hO⟩ := hv
  have hx := B.exec
  have hb := B.bytes
  have hr := B.returns
  have hts : ∀ w ∈ fn_tT, w.before _ s = true := fun w hw => atoms_spec (ws := .code (⟨"FieldNet$Member", "<init>", "()V"⟩ : MethodName) prog_5_method_1_code 1 none :: fn_tT) B.pre w (List.mem_cons_of_mem _ hw)
  have hown : s.vm.findClass "FieldNet$Member" = some m.cls := findClass_of_methodNamed B.named
  have hin : meth.name = "<init>" := (name_of_methodNamed B.named B.method).1
  subst hsz
  have hD := hD0.self (sz := s.heap.size)
  generalize hAe : va_A [(h0, .inr (3, [.int 0, .int 0, .int 0, .int 0, .null, .null, .int 0, .int 0]))] s.heap.size = A at hD ⊢
  have hA : ∀ q : Nat, s.heap.size ≤ q → A q := fun q h => by rw [← hAe]; exact Or.inr h
  have hS : va_S A s.heap s.heap [] := va_S.rf
  have hl := lv_entry ([.ref h0]) (n := 1) (Nat.le_of_ble_eq_true rfl)
  rw [lg_entry_eq]
  generalize (lg_sl ([.ref h0]) ++ List.replicate (1 - (lg_sl ([.ref h0])).length) Slot.unset).toArray = ls at hl ⊢
  have hl : lv_has ls 1 [(0, .ref h0)] := hl
  have hP : va_P D fn_cl [(h0, .inr (3, [.int 0, .int 0, .int 0, .int 0, .null, .null, .int 0, .int 0]))] s.heap := hP
  refine lv_aload_n hx hb kd_Member_0 rfl (lv_at hl 0 rfl) ?_
  refine W.objInit hx hb hown (hts _ kl_6) (hts _ kl_1) (hts _ kl_2) rfl (by rw [hml]; exact hl.1) rfl kd_Member_1 (Nat.le_of_ble_eq_true rfl) (Nat.le_of_ble_eq_true rfl) ?_
  refine W.eq (g2 := F0 m 4 ls []) rfl ?_
  refine lv_aload_n hx hb kd_Member_4 rfl (lv_at hl 0 rfl) ?_
  refine lv_iconst (v := (-1)) hx hb kd_Member_5 (by decide) ?_
  refine va_put (D := D) (ci := 3) (v := .int (-1)) (ty := .int) (C := fn_C3) (T := fn_F3) (N := 8) hx hb hts fn_in3 fn_t3 fn_ty3 fn_nm3 hown hK hP hD hS 0 rfl rfl 0 (by decide) (hts _ kl_7) (fun _ h9 => h9) rfl (by decide +kernel) rfl rfl (Nat.le_of_ble_eq_true rfl) kd_Member_6 (fun H locs hP hD hS => ?_)
  have hP : va_P D fn_cl [(h0, .inr (3, [.int (-1), .int 0, .int 0, .int 0, .null, .null, .int 0, .int 0]))] H := hP
  have hD : va_D A [(h0, .inr (3, [.int (-1), .int 0, .int 0, .int 0, .null, .null, .int 0, .int 0]))] := hD
  refine lv_aload_n hx hb kd_Member_9 rfl (lv_at hl 0 rfl) ?_
  refine lv_iconst (v := (-1)) hx hb kd_Member_10 (by decide) ?_
  refine va_put (D := D) (ci := 3) (v := .int (-1)) (ty := .int) (C := fn_C3) (T := fn_F3) (N := 8) hx hb hts fn_in3 fn_t3 fn_ty3 fn_nm3 hown hK hP hD hS 0 rfl rfl 3 (by decide) (hts _ kl_8) (fun _ h9 => h9) rfl (by decide +kernel) rfl rfl (Nat.le_of_ble_eq_true rfl) kd_Member_11 (fun H locs hP hD hS => ?_)
  have hP : va_P D fn_cl [(h0, .inr (3, [.int (-1), .int 0, .int 0, .int (-1), .null, .null, .int 0, .int 0]))] H := hP
  have hD : va_D A [(h0, .inr (3, [.int (-1), .int 0, .int 0, .int (-1), .null, .null, .int 0, .int 0]))] := hD
  refine lv_aload_n hx hb kd_Member_14 rfl (lv_at hl 0 rfl) ?_
  refine lv_iconst (v := 3) hx hb kd_Member_15 (by decide) ?_
  refine va_newa (atype := .int) (a0 := (3, .inl (fun _ => 0))) (ty := .int) (n := 3) (N' := 3) hx hb (hts _ kl_4) rfl hK hP hD hS hA (fun cA => rfl) (by decide) (by decide) (by decide) (Nat.le_of_ble_eq_true rfl) (Nat.le_of_ble_eq_true rfl) kd_Member_16 (fun q1 cA H hK2 hP hD hS => ?_)
  obtain rfl : cA = dA 0 := kn_un hK2 6 0 rfl rfl
  have hP : va_P D fn_cl [(h0, .inr (3, [.int (-1), .int 0, .int 0, .int (-1), .null, .null, .int 0, .int 0])), (q1, .inl (dA 0, 3, .inl (fun _ => 0)))] H := hP
  have hD : va_D A [(h0, .inr (3, [.int (-1), .int 0, .int 0, .int (-1), .null, .null, .int 0, .int 0])), (q1, .inl (dA 0, 3, .inl (fun _ => 0)))] := hD
  refine va_putF (D := D) (ci := 3) (v := .ref q1) (ty := (.array .int)) (C := fn_C3) (T := fn_F3) (N := 8) hx hb hts fn_in3 fn_t3 fn_ty3 fn_nm3 hown hK hP hD hS 0 rfl rfl 4 (by decide) (hts _ kl_9) (fun _ h9 => h9) rfl hin rfl (by decide +kernel) rfl rfl (Nat.le_of_ble_eq_true rfl) kd_Member_18 (fun H locs hP hD hS => ?_)
  have hP : va_P D fn_cl [(h0, .inr (3, [.int (-1), .int 0, .int 0, .int (-1), .ref q1, .null, .int 0, .int 0])), (q1, .inl (dA 0, 3, .inl (fun _ => 0)))] H := hP
  have hD : va_D A [(h0, .inr (3, [.int (-1), .int 0, .int 0, .int (-1), .ref q1, .null, .int 0, .int 0])), (q1, .inl (dA 0, 3, .inl (fun _ => 0)))] := hD
  refine lv_aload_n hx hb kd_Member_21 rfl (lv_at hl 0 rfl) ?_
  refine lv_iconst (v := 3) hx hb kd_Member_22 (by decide) ?_
  refine va_newa (atype := .int) (a0 := (3, .inl (fun _ => 0))) (ty := .int) (n := 3) (N' := 3) hx hb (hts _ kl_4) rfl hK hP hD hS hA (fun cA => rfl) (by decide) (by decide) (by decide) (Nat.le_of_ble_eq_true rfl) (Nat.le_of_ble_eq_true rfl) kd_Member_23 (fun q2 cA H hK2 hP hD hS => ?_)
  obtain rfl : cA = dA 0 := kn_un hK2 6 0 rfl rfl
  have hP : va_P D fn_cl [(h0, .inr (3, [.int (-1), .int 0, .int 0, .int (-1), .ref q1, .null, .int 0, .int 0])), (q1, .inl (dA 0, 3, .inl (fun _ => 0))), (q2, .inl (dA 0, 3, .inl (fun _ => 0)))] H := hP
  have hD : va_D A [(h0, .inr (3, [.int (-1), .int 0, .int 0, .int (-1), .ref q1, .null, .int 0, .int 0])), (q1, .inl (dA 0, 3, .inl (fun _ => 0))), (q2, .inl (dA 0, 3, .inl (fun _ => 0)))] := hD
  refine va_putF (D := D) (ci := 3) (v := .ref q2) (ty := (.array .int)) (C := fn_C3) (T := fn_F3) (N := 8) hx hb hts fn_in3 fn_t3 fn_ty3 fn_nm3 hown hK hP hD hS 0 rfl rfl 5 (by decide) (hts _ kl_10) (fun _ h9 => h9) rfl hin rfl (by decide +kernel) rfl rfl (Nat.le_of_ble_eq_true rfl) kd_Member_25 (fun H locs hP hD hS => ?_)
  have hP : va_P D fn_cl [(h0, .inr (3, [.int (-1), .int 0, .int 0, .int (-1), .ref q1, .ref q2, .int 0, .int 0])), (q1, .inl (dA 0, 3, .inl (fun _ => 0))), (q2, .inl (dA 0, 3, .inl (fun _ => 0)))] H := hP
  have hD : va_D A [(h0, .inr (3, [.int (-1), .int 0, .int 0, .int (-1), .ref q1, .ref q2, .int 0, .int 0])), (q1, .inl (dA 0, 3, .inl (fun _ => 0))), (q2, .inl (dA 0, 3, .inl (fun _ => 0)))] := hD
  refine W.widen (k := 2) (n := 6) (Nat.le_of_ble_eq_true rfl) (Nat.le_of_ble_eq_true rfl) ?_
  exact W.vret hx hb hr (fun t ht hW => ⟨⟨(fun i => [q1, q2].getD i 0 : Nat → Nat), rfl, trivial, by rw [ht]; exact hP, hD⟩, hS.F ht⟩) hS.2.2 kd_Member_28
