/-! ===== constructors of a builder and of a node ===== -/
theorem kn_preZ {D : va_G} {dA : Nat → ClassId} {A : Nat → Prop} {ws : va_W} {s U : State} {H : Heap} (hP : va_P D fn_cl ws H) (hD : va_D A ws) (hK : va_K D fn_cl (fn_ty dA) s) (hN : ∀ w ∈ fn_nT, va_Nw w s) (hU : U.heap = H) (hW : s.WarmedH U.vm) (hZ : va_Z "java/lang/String" "COMPACT_STRINGS" "Z" (.int 1) (va_A ws H.size) s H) : kn_PreZ D dA H.size ws U :=
  ⟨by rw [hU], by rw [hU]; exact hP, va_K.moved hW.alike hK, fun w hw => fn_nw (List.mem_filter.mp hw).2 hW (hN w hw), hD.weaken (fun _ _ _ _ => trivial), by rw [hU]; exact va_Z.moved hW.alike hZ⟩
theorem fn_RO.narrow {ad : Nat → Nat} {A B : Nat → Prop} {U : State} {H : Heap} (h : fn_RO ad A U H) (hAB : ∀ q, B q → A q) : fn_RO ad B U H := by
  obtain ⟨h1, h2, h3, h4, h5, h6, ⟨h7, h8, h9, h10⟩, h11⟩ := h
  exact ⟨h1.narrow hAB, h2.narrow hAB, h3.narrow hAB, h4.narrow hAB, h5.narrow hAB, h6.narrow hAB, ⟨h7.narrow hAB, h8.narrow hAB, h9.narrow hAB, h10.narrow hAB⟩, h11⟩
def kn_PreN (D : va_G) (dA : Nat → ClassId) (ad : Nat → Nat) (sz : Nat) (ws : va_W) (U : State) : Prop := kn_Pre D dA sz ws U ∧ fn_RO ad (va_A ws sz) U U.heap
theorem kn_blindN {D : va_G} {dA : Nat → ClassId} {ad : Nat → Nat} {sz : Nat} {ws : va_W} {as : List Value} : FrameBlind (va_Pc as (kn_PreN D dA ad sz ws)) := by
  intro a U g mk ⟨h1, h2, h3⟩
  exact ⟨h1, (kn_blind (as := as) a U g mk ⟨h1, h2⟩).2, fn_RO.same (u := U) rfl h3⟩
def kn_a2 (ad : Nat → Nat) (L : List Nat) : Nat → Nat := fun q => if q < 13 then L.getD q 0 else ad q
/-- a node's memory ahead of its first identity -/
def kn_x0 (k : Nat) : fn_M := fun q j => if q = 0 then (if j = 0 then nI k else if j = 5 then -1 else if j = 8 then -1 else 0) else 0
/-- and behind it -/
def kn_nm (k : Nat) (y : fn_M) : Prop := (∀ q, q ≠ 4 → q ≠ 8 → q ≠ 12 → y q = kn_x0 k q) ∧ y 4 = (fn_w (kn_x0 k) 4 0 (nI (1000 + k))) 4 ∧ y 8 1 = 0 ∧ y 8 3 = nI (7 + fr_dg (1000 + k)) ∧ ∀ j, j < 7 + fr_dg (1000 + k) → y 12 j = nI (fr_nm k (1000 + k) j)
section KNB
variable {p : Program} {l : Launch} {e : Env} {R : Room} {s : State} {m : MethodId} {args : Array Value} {below : List Frame} {meth : Method} {c : Code} {Q : State → Prop} {H : Heap} {locs : List Loc} {ls : Array Slot} {rest : List Value} {cells slots : Nat}
variable {D : va_G} {dA : Nat → ClassId} {ad : Nat → Nat} {G : Nat} {pc : Nat}
/-- behind a call of a method of the machine, anywhere -/
theorem kn_back {A0 : Nat → Prop} {H0 : Heap} {r1 : fn_R} {a : Array Value} {st0 : List Value} (hr : va_Run p l e R s m args below meth c H locs cells slots 0 0 (F0 m pc ls st0) rest (fn_Q D dA ad G r1 a) (fn_A ad G)) (hS : va_S A0 H0 H locs) (hA : ∀ q, fn_A ad G q → A0 q)
    (kk : ∀ (H1 : Heap) (locs1 : List Loc), va_P D fn_cl (fn_W ad dA G r1.1) H1 → (∀ q : Nat, q < H.size → ¬ fn_A ad G q → H1[q]? = H[q]?) → va_S A0 H0 H1 locs1 → W p l e R s m args below meth c H1 locs1 (cells + 0) (slots + 0) Q (F0 m (pc + 3) ls ((r1.2.map (fn_cv ad)).toList ++ rest))) : W p l e R s m args below meth c H locs cells slots Q (F0 m pc ls st0) := by
  intro T hT X
  obtain ⟨v, st₀, t, T', L, h0, X', hL, e1, e2, ⟨⟨hv, hp⟩, hz, hk⟩, stp⟩ := hr T hT X
  cases hv
  rw [h0] at hz hk
  obtain ⟨t2, a1, b1⟩ := kk T'.heap (locs ++ L) (by rw [e1]; exact hp) (fun q h1 h2 => by rw [e1]; exact hk q h1 h2)
    ⟨Nat.le_trans hS.1 (by rw [e1]; exact hz), fun q h1 h2 => by rw [e1, hk q (Nat.lt_of_lt_of_le h1 hS.1) (fun z => h2 (hA q z))]; exact hS.2.1 q h1 h2, fun q hq => by
      rcases List.mem_append.mp hq with h | h
      · exact hS.2.2 q h
      · exact hA _ (hL q h)⟩ T' rfl X'
  exact ⟨t2, stp t2 a1, b1⟩
end KNB
theorem kn_mem27 : (6, 51, 1, 27) ∈ fn_mlL := by decide +kernel
theorem kn_lt27 : 27 < fn_NM := by decide +kernel

theorem kl_61 : (.methodLink "java/lang/AbstractStringBuilder" 3 (⟨"java/lang/Object", "<init>", "()V"⟩ : MethodName) : Jvm.Cond) ∈ fn_tT := fn_gd (fn_tm1 (k := 229) rfl) rfl
theorem kl_62 : (.fieldLink "java/lang/AbstractStringBuilder" 18 "java/lang/String" "COMPACT_STRINGS" "Z" : Jvm.Cond) ∈ fn_tT := fn_gd (fn_tm1 (k := 230) rfl) rfl
theorem kl_63 : (.arrayClass .byte : Jvm.Cond) ∈ fn_tT := fn_gd (fn_tm2 (k := 12) rfl) rfl
theorem kl_64 : (.fieldLink "java/lang/AbstractStringBuilder" 15 "java/lang/AbstractStringBuilder" "value" "[B" : Jvm.Cond) ∈ fn_tT := fn_gd (fn_tm1 (k := 239) rfl) rfl
theorem kl_65 : (.fieldLink "java/lang/AbstractStringBuilder" 22 "java/lang/AbstractStringBuilder" "coder" "B" : Jvm.Cond) ∈ fn_tT := fn_gd (fn_tm2 (k := 0) rfl) rfl
theorem kl_66 : (.methodLink "java/lang/StringBuilder" 1 (⟨"java/lang/AbstractStringBuilder", "<init>", "(I)V"⟩ : MethodName) : Jvm.Cond) ∈ fn_tT := fn_gd (fn_tm1 (k := 226) rfl) rfl
theorem kl_67 : (.code (⟨"java/lang/AbstractStringBuilder", "<init>", "(I)V"⟩ : MethodName) prog_10_method_2_code 2 none : Jvm.Cond) ∈ fn_tT := fn_gd (fn_tm1 (k := 228) rfl) rfl
theorem kl_68 : (.initialized "java/lang/AbstractStringBuilder" : Jvm.Cond) ∈ fn_tT := fn_gd (fn_tm1 (k := 8) rfl) rfl
theorem kl_69 : (.instanceMethod (⟨"java/lang/AbstractStringBuilder", "<init>", "(I)V"⟩ : MethodName) : Jvm.Cond) ∈ fn_tT := fn_gd (fn_tm1 (k := 227) rfl) rfl
theorem kl_70 : (.methodLink "FieldNet$Node" 3 (⟨"java/lang/Object", "<init>", "()V"⟩ : MethodName) : Jvm.Cond) ∈ fn_tT := fn_gd (fn_tm1 (k := 220) rfl) rfl
theorem kl_71 : (.fieldLink "FieldNet$Node" 9 "FieldNet$Node" "number" "I" : Jvm.Cond) ∈ fn_tT := fn_gd (fn_tm2 (k := 205) rfl) rfl
theorem kl_72 : (.fieldLink "FieldNet$Node" 15 "FieldNet$Node" "objects" "[I" : Jvm.Cond) ∈ fn_tT := fn_gd (fn_tm2 (k := 206) rfl) rfl
theorem kl_73 : (.classLink "FieldNet$Node" 19 "java/lang/StringBuilder" : Jvm.Cond) ∈ fn_tT := fn_gd (fn_tm1 (k := 221) rfl) rfl
theorem kl_74 : (.instantiable "java/lang/StringBuilder" 4 : Jvm.Cond) ∈ fn_tT := fn_gd (fn_tm1 (k := 222) rfl) rfl
theorem kl_75 : (.initialized "java/lang/StringBuilder" : Jvm.Cond) ∈ fn_tT := fn_gd (fn_tm1 (k := 9) rfl) rfl
theorem kl_76 : (.methodLink "FieldNet$Node" 21 (⟨"java/lang/StringBuilder", "<init>", "()V"⟩ : MethodName) : Jvm.Cond) ∈ fn_tT := fn_gd (fn_tm1 (k := 223) rfl) rfl
theorem kl_77 : (.code (⟨"java/lang/StringBuilder", "<init>", "()V"⟩ : MethodName) prog_15_method_1_code 1 none : Jvm.Cond) ∈ fn_tT := fn_gd (fn_tm1 (k := 225) rfl) rfl
theorem kl_78 : (.instanceMethod (⟨"java/lang/StringBuilder", "<init>", "()V"⟩ : MethodName) : Jvm.Cond) ∈ fn_tT := fn_gd (fn_tm1 (k := 224) rfl) rfl
theorem kl_79 : (.fieldLink "FieldNet$Node" 22 "FieldNet$Node" "name" "Ljava/lang/StringBuilder;" : Jvm.Cond) ∈ fn_tT := fn_gd (fn_tm2 (k := 207) rfl) rfl
theorem kl_80 : (.fieldLink "FieldNet$Node" 26 "FieldNet$Node" "state" "I" : Jvm.Cond) ∈ fn_tT := fn_gd (fn_tm2 (k := 208) rfl) rfl
theorem kl_81 : (.fieldLink "FieldNet$Node" 29 "FieldNet$Node" "latestSample" "I" : Jvm.Cond) ∈ fn_tT := fn_gd (fn_tm2 (k := 211) rfl) rfl
theorem kl_82 : (.fieldLink "FieldNet$Node" 32 "FieldNet$Node" "heardAt" "I" : Jvm.Cond) ∈ fn_tT := fn_gd (fn_tm2 (k := 214) rfl) rfl
theorem kl_83 : (.methodLink "FieldNet$Node" 35 (⟨"FieldNet$Node", "takeIdentity", "(I)V"⟩ : MethodName) : Jvm.Cond) ∈ fn_tT := fn_gd (fn_tm2 (k := 13) rfl) rfl
theorem kd_ASB_0 : decode prog_10_method_2_code 0 = .ok (.aload_n 0, 1) := by decide +kernel
theorem kd_ASB_1 : decode prog_10_method_2_code 1 = .ok (.invokespecial 3, 3) := by decide +kernel
theorem kd_ASB_4 : decode prog_10_method_2_code 4 = .ok (.getstatic 18, 3) := by decide +kernel
theorem kd_ASB_7 : decode prog_10_method_2_code 7 = .ok (.ifCond .eq 18, 3) := by decide +kernel
theorem kd_ASB_10 : decode prog_10_method_2_code 10 = .ok (.aload_n 0, 1) := by decide +kernel
theorem kd_ASB_11 : decode prog_10_method_2_code 11 = .ok (.iload_n 1, 1) := by decide +kernel
theorem kd_ASB_12 : decode prog_10_method_2_code 12 = .ok (.newarray .byte, 2) := by decide +kernel
theorem kd_ASB_14 : decode prog_10_method_2_code 14 = .ok (.putfield 15, 3) := by decide +kernel
theorem kd_ASB_17 : decode prog_10_method_2_code 17 = .ok (.aload_n 0, 1) := by decide +kernel
theorem kd_ASB_18 : decode prog_10_method_2_code 18 = .ok (.iconst 0, 1) := by decide +kernel
theorem kd_ASB_19 : decode prog_10_method_2_code 19 = .ok (.putfield 22, 3) := by decide +kernel
theorem kd_ASB_22 : decode prog_10_method_2_code 22 = .ok (.goto 16, 3) := by decide +kernel
theorem kd_ASB_38 : decode prog_10_method_2_code 38 = .ok (.return_, 1) := by decide +kernel
set_option maxHeartbeats 8000000 in
set_option maxRecDepth 100000 in
theorem kc_ASB (l : Launch) (D : va_G) (dA : Nat → ClassId) (h0 : Nat) (sz : Nat) : Met l (⟨"java/lang/AbstractStringBuilder", "<init>", "(I)V"⟩ : MethodName) (.code (⟨"java/lang/AbstractStringBuilder", "<init>", "(I)V"⟩ : MethodName) prog_10_method_2_code 2 none :: fn_tT) ({ frames := 1, cells := 1, slots := 16, locals := 12 }) (va_Pc [.ref h0, .int 16] (kn_PreZ D dA sz [(h0, .inr (8, [.null, .int 0, .int 0, .int 0]))])) (va_Qv (fun _ : (Nat → Nat) => True) (fun a t => va_P D fn_cl [(h0, .inr (8, [.ref (a 0), .int 0, .int 0, .int 0])), ((a 0), .inl (dA 2, 16, .inl (fun _ => 0)))] t.heap ∧ va_D (va_A [(h0, .inr (8, [.null, .int 0, .int 0, .int 0]))] sz) [(h0, .inr (8, [.ref (a 0), .int 0, .int 0, .int 0])), ((a 0), .inl (dA 2, 16, .inl (fun _ => 0)))]) (va_A [(h0, .inr (8, [.null, .int 0, .int 0, .int 0]))] sz)) 1 16 (va_A [(h0, .inr (8, [.null, .int 0, .int 0, .int 0]))] sz) := by
  refine Met.ofW (cc := prog_10_method_2_code) (maxL := 2) (ret := none) (by decide) rfl ?_
  intro p e s m args below meth c s₁ B hml hv
  obtain ⟨rfl, hsz, hP, hK, hN, hD0, hZ0⟩ := hv
  have hx := B.exec
  have hb := B.bytes
  have hr := B.returns
  have hts : ∀ w ∈ fn_tT, w.before _ s = true := fun w hw => atoms_spec (ws := .code (⟨"java/lang/AbstractStringBuilder", "<init>", "(I)V"⟩ : MethodName) prog_10_method_2_code 2 none :: fn_tT) B.pre w (List.mem_cons_of_mem _ hw)
  have hown : s.vm.findClass "java/lang/AbstractStringBuilder" = some m.cls := findClass_of_methodNamed B.named
  have hin : meth.name = "<init>" := (name_of_methodNamed B.named B.method).1
  subst hsz
  have hD := hD0.self (sz := s.heap.size)
  generalize hAe : va_A [(h0, .inr (8, [.null, .int 0, .int 0, .int 0]))] s.heap.size = A at hD ⊢
  have hA : ∀ q : Nat, s.heap.size ≤ q → A q := fun q h => by rw [← hAe]; exact Or.inr h
  have hZ := hZ0.narrow (B := A) (fun q h => by rw [← hAe] at h; exact h)
  have hS : va_S A s.heap s.heap [] := va_S.rf
  have hl := lv_entry ([.ref h0, .int 16]) (n := 2) (Nat.le_of_ble_eq_true rfl)
  rw [lg_entry_eq]
  generalize (lg_sl ([.ref h0, .int 16]) ++ List.replicate (2 - (lg_sl ([.ref h0, .int 16])).length) Slot.unset).toArray = ls at hl ⊢
  have hl : lv_has ls 2 [(0, .ref h0), (1, .int 16)] := hl
  have hP : va_P D fn_cl [(h0, .inr (8, [.null, .int 0, .int 0, .int 0]))] s.heap := hP
  refine lv_aload_n hx hb kd_ASB_0 rfl (lv_at hl 0 rfl) ?_
  refine W.objInit hx hb hown (hts _ kl_61) (hts _ kl_1) (hts _ kl_2) rfl (by rw [hml]; exact hl.1) rfl kd_ASB_1 (Nat.le_of_ble_eq_true rfl) (Nat.le_of_ble_eq_true rfl) ?_
  refine W.eq (g2 := F0 m 4 ls []) rfl ?_
  refine va_gets (v := .int 1) hx hb hZ hS hown (hts _ kl_62) (fun _ h9 => h9) kd_ASB_4 ?_
  refine lv_if_eq (tgt := 25) hx hb kd_ASB_7 (by decide) (fun h => absurd h (by decide)) (fun _ => ?_)
  refine lv_aload_n hx hb kd_ASB_10 rfl (lv_at hl 0 rfl) ?_
  refine lv_iload_n hx hb kd_ASB_11 rfl (lv_at hl 1 rfl) ?_
  refine va_newa (atype := .byte) (a0 := (16, .inl (fun _ => 0))) (ty := .byte) (n := 16) (N' := 16) hx hb (hts _ kl_63) rfl hK hP hD hS hA (fun cA => rfl) (by decide) (by decide) (by decide) (Nat.le_of_ble_eq_true rfl) (Nat.le_of_ble_eq_true rfl) kd_ASB_12 (fun q1 cA H hK2 hP hD hS => ?_)
  obtain rfl : cA = dA 2 := kn_un hK2 6 2 rfl rfl
  have hP : va_P D fn_cl [(h0, .inr (8, [.null, .int 0, .int 0, .int 0])), (q1, .inl (dA 2, 16, .inl (fun _ => 0)))] H := hP
  have hD : va_D A [(h0, .inr (8, [.null, .int 0, .int 0, .int 0])), (q1, .inl (dA 2, 16, .inl (fun _ => 0)))] := hD
  refine va_put (D := D) (ci := 8) (v := .ref q1) (ty := (.array .byte)) (C := fn_C8) (T := fn_F8) (N := 4) hx hb hts fn_in8 fn_t8 fn_ty8 fn_nm8 hown hK hP hD hS 0 rfl rfl 0 (by decide) (hts _ kl_64) (fun _ h9 => h9) rfl (by decide +kernel) rfl rfl (Nat.le_of_ble_eq_true rfl) kd_ASB_14 (fun H locs hP hD hS => ?_)
  have hP : va_P D fn_cl [(h0, .inr (8, [.ref q1, .int 0, .int 0, .int 0])), (q1, .inl (dA 2, 16, .inl (fun _ => 0)))] H := hP
  have hD : va_D A [(h0, .inr (8, [.ref q1, .int 0, .int 0, .int 0])), (q1, .inl (dA 2, 16, .inl (fun _ => 0)))] := hD
  refine lv_aload_n hx hb kd_ASB_17 rfl (lv_at hl 0 rfl) ?_
  refine lv_iconst (v := 0) hx hb kd_ASB_18 (by decide) ?_
  refine va_put (D := D) (ci := 8) (v := .int 0) (ty := .byte) (C := fn_C8) (T := fn_F8) (N := 4) hx hb hts fn_in8 fn_t8 fn_ty8 fn_nm8 hown hK hP hD hS 0 rfl rfl 1 (by decide) (hts _ kl_65) (fun _ h9 => h9) rfl (by decide +kernel) rfl rfl (Nat.le_of_ble_eq_true rfl) kd_ASB_19 (fun H locs hP hD hS => ?_)
  have hP : va_P D fn_cl [(h0, .inr (8, [.ref q1, .int 0, .int 0, .int 0])), (q1, .inl (dA 2, 16, .inl (fun _ => 0)))] H := hP
  have hD : va_D A [(h0, .inr (8, [.ref q1, .int 0, .int 0, .int 0])), (q1, .inl (dA 2, 16, .inl (fun _ => 0)))] := hD
  refine lv_goto (tgt := 38) hx hb kd_ASB_22 (by decide) ?_
  refine W.widen (k := 1) (n := 16) (Nat.le_of_ble_eq_true rfl) (Nat.le_of_ble_eq_true rfl) ?_
  exact W.vret hx hb hr (fun t ht hW => ⟨⟨(fun i => [q1].getD i 0 : Nat → Nat), rfl, trivial, by rw [ht]; exact hP, hD⟩, hS.F ht⟩) hS.2.2 kd_ASB_38
theorem kd_SB_0 : decode prog_15_method_1_code 0 = .ok (.aload_n 0, 1) := by decide +kernel
theorem kd_SB_1 : decode prog_15_method_1_code 1 = .ok (.bipush 16, 2) := by decide +kernel
theorem kd_SB_3 : decode prog_15_method_1_code 3 = .ok (.invokespecial 1, 3) := by decide +kernel
theorem kd_SB_6 : decode prog_15_method_1_code 6 = .ok (.return_, 1) := by decide +kernel
set_option maxHeartbeats 8000000 in
set_option maxRecDepth 100000 in
theorem kc_SB (l : Launch) (D : va_G) (dA : Nat → ClassId) (h0 : Nat) (sz : Nat) : Met l (⟨"java/lang/StringBuilder", "<init>", "()V"⟩ : MethodName) (.code (⟨"java/lang/StringBuilder", "<init>", "()V"⟩ : MethodName) prog_15_method_1_code 1 none :: fn_tT) ({ frames := 2, cells := 1, slots := 16, locals := 33 }) (va_Pc [.ref h0] (kn_PreZ D dA sz [(h0, .inr (8, [.null, .int 0, .int 0, .int 0]))])) (va_Qv (fun _ : (Nat → Nat) => True) (fun a t => va_P D fn_cl [(h0, .inr (8, [.ref (a 0), .int 0, .int 0, .int 0])), ((a 0), .inl (dA 2, 16, .inl (fun _ => 0)))] t.heap ∧ va_D (va_A [(h0, .inr (8, [.null, .int 0, .int 0, .int 0]))] sz) [(h0, .inr (8, [.ref (a 0), .int 0, .int 0, .int 0])), ((a 0), .inl (dA 2, 16, .inl (fun _ => 0)))]) (va_A [(h0, .inr (8, [.null, .int 0, .int 0, .int 0]))] sz)) 1 16 (va_A [(h0, .inr (8, [.null, .int 0, .int 0, .int 0]))] sz) := by
  refine Met.ofW (cc := prog_15_method_1_code) (maxL := 1) (ret := none) (by decide) rfl ?_
  intro p e s m args below meth c s₁ B hml hv
  obtain ⟨rfl, hsz, hP, hK, hN, hD0, hZ0⟩ := hv
  have hx := B.exec
  have hb := B.bytes
  have hr := B.returns
  have hts : ∀ w ∈ fn_tT, w.before _ s = true := fun w hw => atoms_spec (ws := .code (⟨"java/lang/StringBuilder", "<init>", "()V"⟩ : MethodName) prog_15_method_1_code 1 none :: fn_tT) B.pre w (List.mem_cons_of_mem _ hw)
  have hown : s.vm.findClass "java/lang/StringBuilder" = some m.cls := findClass_of_methodNamed B.named
  have hin : meth.name = "<init>" := (name_of_methodNamed B.named B.method).1
  subst hsz
  have hD := hD0.self (sz := s.heap.size)
  generalize hAe : va_A [(h0, .inr (8, [.null, .int 0, .int 0, .int 0]))] s.heap.size = A at hD ⊢
  have hA : ∀ q : Nat, s.heap.size ≤ q → A q := fun q h => by rw [← hAe]; exact Or.inr h
  have hZ := hZ0.narrow (B := A) (fun q h => by rw [← hAe] at h; exact h)
  have hS : va_S A s.heap s.heap [] := va_S.rf
  have hl := lv_entry ([.ref h0]) (n := 1) (Nat.le_of_ble_eq_true rfl)
  rw [lg_entry_eq]
  generalize (lg_sl ([.ref h0]) ++ List.replicate (1 - (lg_sl ([.ref h0])).length) Slot.unset).toArray = ls at hl ⊢
  have hl : lv_has ls 1 [(0, .ref h0)] := hl
  have hP : va_P D fn_cl [(h0, .inr (8, [.null, .int 0, .int 0, .int 0]))] s.heap := hP
  refine lv_aload_n hx hb kd_SB_0 rfl (lv_at hl 0 rfl) ?_
  refine lv_bipush (v := 16) hx hb kd_SB_1 (by decide) ?_
  have hPc := hP.sub (ws' := [(h0, .inr (8, [.null, .int 0, .int 0, .int 0]))]) [0] rfl
  have hDc := hD.sub (ws' := [(h0, .inr (8, [.null, .int 0, .int 0, .int 0]))]) [0] (by decide) rfl
  have hFc := va_free (wc := [(h0, .inr (8, [.null, .int 0, .int 0, .int 0]))]) hD hS hA [0] rfl
  refine va_callv (va_runI (As := [.int 16]) (rest := []) ⟨hx, hb, hml, hown, hts⟩ (kc_ASB l D dA h0 s.heap.size) (cwI 1 hts (fn_GI kl_67) rfl rfl rfl (hts _ kl_68) (hts _ kl_66) (hts _ kl_69) rfl (by decide +kernel) ⟨(Nat.le_of_ble_eq_true rfl), (Nat.le_of_ble_eq_true rfl)⟩) ⟨kn_blindZ, fun U hU hW => ⟨rfl, kn_preZ hPc hDc hK hN hU hW ((hZ.kept hS.2.1).narrow hFc)⟩⟩ rfl rfl hl.1 rfl (lv_room (Nat.le_of_ble_eq_true rfl)) kd_SB_3 ⟨(Nat.le_of_ble_eq_true rfl), (Nat.le_of_ble_eq_true rfl)⟩) hS (fun q _ h => hFc q h) hFc (fun u1 t H1 locs ht hvm h5 hB hz1 hk1 hS => ?_)
  obtain ⟨hP1, hD1⟩ := hB
  rw [ht] at hP1
  obtain ⟨hP, hD⟩ := va_join (wr := []) (w1 := [(h0, .inr (8, [.ref (u1 0), .int 0, .int 0, .int 0])), ((u1 0), .inl (dA 2, 16, .inl (fun _ => 0)))]) hP hD [0] [] rfl rfl (by decide) (by decide) hk1 hFc hP1 hD1
  generalize H1 = H at hP hS ⊢
  have hP : va_P D fn_cl [(h0, .inr (8, [.ref (u1 0), .int 0, .int 0, .int 0])), ((u1 0), .inl (dA 2, 16, .inl (fun _ => 0)))] H := hP
  have hD : va_D A [(h0, .inr (8, [.ref (u1 0), .int 0, .int 0, .int 0])), ((u1 0), .inl (dA 2, 16, .inl (fun _ => 0)))] := hD
  refine W.widen (k := 1) (n := 16) (Nat.le_of_ble_eq_true rfl) (Nat.le_of_ble_eq_true rfl) ?_
  exact W.vret hx hb hr (fun t ht hW => ⟨⟨(fun i => [(u1 0)].getD i 0 : Nat → Nat), rfl, trivial, by rw [ht]; exact hP, hD⟩, hS.F ht⟩) hS.2.2 kd_SB_6
theorem kd_Node_0 : decode prog_6_method_1_code 0 = .ok (.aload_n 0, 1) := by decide +kernel
theorem kd_Node_1 : decode prog_6_method_1_code 1 = .ok (.invokespecial 3, 3) := by decide +kernel
theorem kd_Node_4 : decode prog_6_method_1_code 4 = .ok (.aload_n 0, 1) := by decide +kernel
theorem kd_Node_5 : decode prog_6_method_1_code 5 = .ok (.iload_n 1, 1) := by decide +kernel
theorem kd_Node_6 : decode prog_6_method_1_code 6 = .ok (.putfield 9, 3) := by decide +kernel
theorem kd_Node_9 : decode prog_6_method_1_code 9 = .ok (.aload_n 0, 1) := by decide +kernel
theorem kd_Node_10 : decode prog_6_method_1_code 10 = .ok (.bipush 16, 2) := by decide +kernel
theorem kd_Node_12 : decode prog_6_method_1_code 12 = .ok (.newarray .int, 2) := by decide +kernel
theorem kd_Node_14 : decode prog_6_method_1_code 14 = .ok (.putfield 15, 3) := by decide +kernel
theorem kd_Node_17 : decode prog_6_method_1_code 17 = .ok (.aload_n 0, 1) := by decide +kernel
theorem kd_Node_18 : decode prog_6_method_1_code 18 = .ok (.new 19, 3) := by decide +kernel
theorem kd_Node_21 : decode prog_6_method_1_code 21 = .ok (.dup, 1) := by decide +kernel
theorem kd_Node_22 : decode prog_6_method_1_code 22 = .ok (.invokespecial 21, 3) := by decide +kernel
theorem kd_Node_25 : decode prog_6_method_1_code 25 = .ok (.putfield 22, 3) := by decide +kernel
theorem kd_Node_28 : decode prog_6_method_1_code 28 = .ok (.aload_n 0, 1) := by decide +kernel
theorem kd_Node_29 : decode prog_6_method_1_code 29 = .ok (.iconst 0, 1) := by decide +kernel
theorem kd_Node_30 : decode prog_6_method_1_code 30 = .ok (.putfield 26, 3) := by decide +kernel
theorem kd_Node_33 : decode prog_6_method_1_code 33 = .ok (.aload_n 0, 1) := by decide +kernel
theorem kd_Node_34 : decode prog_6_method_1_code 34 = .ok (.iconst (-1), 1) := by decide +kernel
theorem kd_Node_35 : decode prog_6_method_1_code 35 = .ok (.putfield 29, 3) := by decide +kernel
theorem kd_Node_38 : decode prog_6_method_1_code 38 = .ok (.aload_n 0, 1) := by decide +kernel
theorem kd_Node_39 : decode prog_6_method_1_code 39 = .ok (.iconst (-1), 1) := by decide +kernel
theorem kd_Node_40 : decode prog_6_method_1_code 40 = .ok (.putfield 32, 3) := by decide +kernel
theorem kd_Node_43 : decode prog_6_method_1_code 43 = .ok (.aload_n 0, 1) := by decide +kernel
theorem kd_Node_44 : decode prog_6_method_1_code 44 = .ok (.sipush 1000, 3) := by decide +kernel
theorem kd_Node_47 : decode prog_6_method_1_code 47 = .ok (.iload_n 1, 1) := by decide +kernel
theorem kd_Node_48 : decode prog_6_method_1_code 48 = .ok (.iadd, 1) := by decide +kernel
theorem kd_Node_49 : decode prog_6_method_1_code 49 = .ok (.invokevirtual 35, 3) := by decide +kernel
theorem kd_Node_52 : decode prog_6_method_1_code 52 = .ok (.return_, 1) := by decide +kernel
set_option maxHeartbeats 8000000 in
set_option maxRecDepth 100000 in
theorem kc_Node (l : Launch) (D : va_G) (dA : Nat → ClassId) (ad : Nat → Nat) (h0 f1 f2 f3 f4 f5 f6 f7 f8 f9 : Nat) {k : Nat} (k1 : 1 ≤ k) (k2 : k ≤ 4) (sz : Nat) : Met l (⟨"FieldNet$Node", "<init>", "(I)V"⟩ : MethodName) (.code (⟨"FieldNet$Node", "<init>", "(I)V"⟩ : MethodName) prog_6_method_1_code 2 none :: fn_tT) ({ frames := 7, cells := 3, slots := 36, locals := 201 }) (va_Pc [.ref h0, .int (nI k)] (kn_PreN D dA ad sz [(h0, .inr (4, [.int 0, .null, .null, .int 0, .int 0, .int 0, .int 0, .int 0, .int 0, .int 0, .int 0, .int 0])), (f1, .inr (1, [.int 0, .int 0, .int 0, .int 0, .int 0])), (f2, .inr (1, [.int 0, .int 0, .int 0, .int 0, .int 0])), (f3, .inr (1, [.int 0, .int 0, .int 0, .int 0, .int 0])), (f4, .inr (1, [.int 0, .int 0, .int 0, .int 0, .int 0])), (f5, .inr (1, [.int 0, .int 0, .int 0, .int 0, .int 0])), (f6, .inr (1, [.int 0, .int 0, .int 0, .int 0, .int 0])), (f7, .inr (1, [.int 0, .int 0, .int 0, .int 0, .int 0])), (f8, .inr (1, [.int 0, .int 0, .int 0, .int 0, .int 0])), (f9, .inr (1, [.int 0, .int 0, .int 0, .int 0, .int 0]))])) (va_Qv (fun u : (Nat → Nat) × fn_M => kn_nm k u.2) (fun u t => va_P D fn_cl (fn_W (kn_a2 ad [h0, f1, f2, f3, (u.1 0), f4, f5, f6, (u.1 1), f7, f8, f9, (u.1 2)]) dA 2 u.2) t.heap ∧ va_D (va_A [(h0, .inr (4, [.int 0, .null, .null, .int 0, .int 0, .int 0, .int 0, .int 0, .int 0, .int 0, .int 0, .int 0])), (f1, .inr (1, [.int 0, .int 0, .int 0, .int 0, .int 0])), (f2, .inr (1, [.int 0, .int 0, .int 0, .int 0, .int 0])), (f3, .inr (1, [.int 0, .int 0, .int 0, .int 0, .int 0])), (f4, .inr (1, [.int 0, .int 0, .int 0, .int 0, .int 0])), (f5, .inr (1, [.int 0, .int 0, .int 0, .int 0, .int 0])), (f6, .inr (1, [.int 0, .int 0, .int 0, .int 0, .int 0])), (f7, .inr (1, [.int 0, .int 0, .int 0, .int 0, .int 0])), (f8, .inr (1, [.int 0, .int 0, .int 0, .int 0, .int 0])), (f9, .inr (1, [.int 0, .int 0, .int 0, .int 0, .int 0]))] sz) (fn_W (kn_a2 ad [h0, f1, f2, f3, (u.1 0), f4, f5, f6, (u.1 1), f7, f8, f9, (u.1 2)]) dA 2 u.2)) (va_A [(h0, .inr (4, [.int 0, .null, .null, .int 0, .int 0, .int 0, .int 0, .int 0, .int 0, .int 0, .int 0, .int 0])), (f1, .inr (1, [.int 0, .int 0, .int 0, .int 0, .int 0])), (f2, .inr (1, [.int 0, .int 0, .int 0, .int 0, .int 0])), (f3, .inr (1, [.int 0, .int 0, .int 0, .int 0, .int 0])), (f4, .inr (1, [.int 0, .int 0, .int 0, .int 0, .int 0])), (f5, .inr (1, [.int 0, .int 0, .int 0, .int 0, .int 0])), (f6, .inr (1, [.int 0, .int 0, .int 0, .int 0, .int 0])), (f7, .inr (1, [.int 0, .int 0, .int 0, .int 0, .int 0])), (f8, .inr (1, [.int 0, .int 0, .int 0, .int 0, .int 0])), (f9, .inr (1, [.int 0, .int 0, .int 0, .int 0, .int 0]))] sz)) 3 36 (va_A [(h0, .inr (4, [.int 0, .null, .null, .int 0, .int 0, .int 0, .int 0, .int 0, .int 0, .int 0, .int 0, .int 0])), (f1, .inr (1, [.int 0, .int 0, .int 0, .int 0, .int 0])), (f2, .inr (1, [.int 0, .int 0, .int 0, .int 0, .int 0])), (f3, .inr (1, [.int 0, .int 0, .int 0, .int 0, .int 0])), (f4, .inr (1, [.int 0, .int 0, .int 0, .int 0, .int 0])), (f5, .inr (1, [.int 0, .int 0, .int 0, .int 0, .int 0])), (f6, .inr (1, [.int 0, .int 0, .int 0, .int 0, .int 0])), (f7, .inr (1, [.int 0, .int 0, .int 0, .int 0, .int 0])), (f8, .inr (1, [.int 0, .int 0, .int 0, .int 0, .int 0])), (f9, .inr (1, [.int 0, .int 0, .int 0, .int 0, .int 0]))] sz) := by
  refine Met.ofW (cc := prog_6_method_1_code) (maxL := 2) (ret := none) (by decide) rfl ?_
  intro p e s m args below meth c s₁ B hml hv
  obtain ⟨rfl, ⟨hsz, hP, hK, hN, hD0, hO⟩, hRO⟩ := hv
  have hx := B.exec
  have hb := B.bytes
  have hr := B.returns
  have hts : ∀ w ∈ fn_tT, w.before _ s = true := fun w hw => atoms_spec (ws := .code (⟨"FieldNet$Node", "<init>", "(I)V"⟩ : MethodName) prog_6_method_1_code 2 none :: fn_tT) B.pre w (List.mem_cons_of_mem _ hw)
  have hown : s.vm.findClass "FieldNet$Node" = some m.cls := findClass_of_methodNamed B.named
  have hin : meth.name = "<init>" := (name_of_methodNamed B.named B.method).1
  subst hsz
  have hD := hD0.self (sz := s.heap.size)
  generalize hAe : va_A [(h0, .inr (4, [.int 0, .null, .null, .int 0, .int 0, .int 0, .int 0, .int 0, .int 0, .int 0, .int 0, .int 0])), (f1, .inr (1, [.int 0, .int 0, .int 0, .int 0, .int 0])), (f2, .inr (1, [.int 0, .int 0, .int 0, .int 0, .int 0])), (f3, .inr (1, [.int 0, .int 0, .int 0, .int 0, .int 0])), (f4, .inr (1, [.int 0, .int 0, .int 0, .int 0, .int 0])), (f5, .inr (1, [.int 0, .int 0, .int 0, .int 0, .int 0])), (f6, .inr (1, [.int 0, .int 0, .int 0, .int 0, .int 0])), (f7, .inr (1, [.int 0, .int 0, .int 0, .int 0, .int 0])), (f8, .inr (1, [.int 0, .int 0, .int 0, .int 0, .int 0])), (f9, .inr (1, [.int 0, .int 0, .int 0, .int 0, .int 0]))] s.heap.size = A at hD hRO ⊢
  have hA : ∀ q : Nat, s.heap.size ≤ q → A q := fun q h => by rw [← hAe]; exact Or.inr h
  have hZ := hRO.1
  have hS : va_S A s.heap s.heap [] := va_S.rf
  have hl := lv_entry ([.ref h0, .int (nI k)]) (n := 2) (Nat.le_of_ble_eq_true rfl)
  rw [lg_entry_eq]
  generalize (lg_sl ([.ref h0, .int (nI k)]) ++ List.replicate (2 - (lg_sl ([.ref h0, .int (nI k)])).length) Slot.unset).toArray = ls at hl ⊢
  have hl : lv_has ls 2 [(0, .ref h0), (1, .int (nI k))] := hl
  have hP : va_P D fn_cl [(h0, .inr (4, [.int 0, .null, .null, .int 0, .int 0, .int 0, .int 0, .int 0, .int 0, .int 0, .int 0, .int 0])), (f1, .inr (1, [.int 0, .int 0, .int 0, .int 0, .int 0])), (f2, .inr (1, [.int 0, .int 0, .int 0, .int 0, .int 0])), (f3, .inr (1, [.int 0, .int 0, .int 0, .int 0, .int 0])), (f4, .inr (1, [.int 0, .int 0, .int 0, .int 0, .int 0])), (f5, .inr (1, [.int 0, .int 0, .int 0, .int 0, .int 0])), (f6, .inr (1, [.int 0, .int 0, .int 0, .int 0, .int 0])), (f7, .inr (1, [.int 0, .int 0, .int 0, .int 0, .int 0])), (f8, .inr (1, [.int 0, .int 0, .int 0, .int 0, .int 0])), (f9, .inr (1, [.int 0, .int 0, .int 0, .int 0, .int 0]))] s.heap := hP
  refine lv_aload_n hx hb kd_Node_0 rfl (lv_at hl 0 rfl) ?_
  refine W.objInit hx hb hown (hts _ kl_70) (hts _ kl_1) (hts _ kl_2) rfl (by rw [hml]; exact hl.1) rfl kd_Node_1 (Nat.le_of_ble_eq_true rfl) (Nat.le_of_ble_eq_true rfl) ?_
  refine W.eq (g2 := F0 m 4 ls []) rfl ?_
  refine lv_aload_n hx hb kd_Node_4 rfl (lv_at hl 0 rfl) ?_
  refine lv_iload_n hx hb kd_Node_5 rfl (lv_at hl 1 rfl) ?_
  refine va_putF (D := D) (ci := 4) (v := .int (nI k)) (ty := .int) (C := fn_C4) (T := fn_F4) (N := 12) hx hb hts fn_in4 fn_t4 fn_ty4 fn_nm4 hown hK hP hD hS 0 rfl rfl 0 (by decide) (hts _ kl_71) (fun _ h9 => h9) rfl hin rfl (by decide +kernel) rfl rfl (Nat.le_of_ble_eq_true rfl) kd_Node_6 (fun H locs hP hD hS => ?_)
  have hP : va_P D fn_cl [(h0, .inr (4, [.int (nI k), .null, .null, .int 0, .int 0, .int 0, .int 0, .int 0, .int 0, .int 0, .int 0, .int 0])), (f1, .inr (1, [.int 0, .int 0, .int 0, .int 0, .int 0])), (f2, .inr (1, [.int 0, .int 0, .int 0, .int 0, .int 0])), (f3, .inr (1, [.int 0, .int 0, .int 0, .int 0, .int 0])), (f4, .inr (1, [.int 0, .int 0, .int 0, .int 0, .int 0])), (f5, .inr (1, [.int 0, .int 0, .int 0, .int 0, .int 0])), (f6, .inr (1, [.int 0, .int 0, .int 0, .int 0, .int 0])), (f7, .inr (1, [.int 0, .int 0, .int 0, .int 0, .int 0])), (f8, .inr (1, [.int 0, .int 0, .int 0, .int 0, .int 0])), (f9, .inr (1, [.int 0, .int 0, .int 0, .int 0, .int 0]))] H := hP
  have hD : va_D A [(h0, .inr (4, [.int (nI k), .null, .null, .int 0, .int 0, .int 0, .int 0, .int 0, .int 0, .int 0, .int 0, .int 0])), (f1, .inr (1, [.int 0, .int 0, .int 0, .int 0, .int 0])), (f2, .inr (1, [.int 0, .int 0, .int 0, .int 0, .int 0])), (f3, .inr (1, [.int 0, .int 0, .int 0, .int 0, .int 0])), (f4, .inr (1, [.int 0, .int 0, .int 0, .int 0, .int 0])), (f5, .inr (1, [.int 0, .int 0, .int 0, .int 0, .int 0])), (f6, .inr (1, [.int 0, .int 0, .int 0, .int 0, .int 0])), (f7, .inr (1, [.int 0, .int 0, .int 0, .int 0, .int 0])), (f8, .inr (1, [.int 0, .int 0, .int 0, .int 0, .int 0])), (f9, .inr (1, [.int 0, .int 0, .int 0, .int 0, .int 0]))] := hD
  refine lv_aload_n hx hb kd_Node_9 rfl (lv_at hl 0 rfl) ?_
  refine lv_bipush (v := 16) hx hb kd_Node_10 (by decide) ?_
  refine va_newa (atype := .int) (a0 := (16, .inl (fun _ => 0))) (ty := .int) (n := 16) (N' := 16) hx hb (hts _ kl_4) rfl hK hP hD hS hA (fun cA => rfl) (by decide) (by decide) (by decide) (Nat.le_of_ble_eq_true rfl) (Nat.le_of_ble_eq_true rfl) kd_Node_12 (fun q1 cA H hK2 hP hD hS => ?_)
  obtain rfl : cA = dA 0 := kn_un hK2 6 0 rfl rfl
  have hP : va_P D fn_cl [(h0, .inr (4, [.int (nI k), .null, .null, .int 0, .int 0, .int 0, .int 0, .int 0, .int 0, .int 0, .int 0, .int 0])), (f1, .inr (1, [.int 0, .int 0, .int 0, .int 0, .int 0])), (f2, .inr (1, [.int 0, .int 0, .int 0, .int 0, .int 0])), (f3, .inr (1, [.int 0, .int 0, .int 0, .int 0, .int 0])), (f4, .inr (1, [.int 0, .int 0, .int 0, .int 0, .int 0])), (f5, .inr (1, [.int 0, .int 0, .int 0, .int 0, .int 0])), (f6, .inr (1, [.int 0, .int 0, .int 0, .int 0, .int 0])), (f7, .inr (1, [.int 0, .int 0, .int 0, .int 0, .int 0])), (f8, .inr (1, [.int 0, .int 0, .int 0, .int 0, .int 0])), (f9, .inr (1, [.int 0, .int 0, .int 0, .int 0, .int 0])), (q1, .inl (dA 0, 16, .inl (fun _ => 0)))] H := hP
  have hD : va_D A [(h0, .inr (4, [.int (nI k), .null, .null, .int 0, .int 0, .int 0, .int 0, .int 0, .int 0, .int 0, .int 0, .int 0])), (f1, .inr (1, [.int 0, .int 0, .int 0, .int 0, .int 0])), (f2, .inr (1, [.int 0, .int 0, .int 0, .int 0, .int 0])), (f3, .inr (1, [.int 0, .int 0, .int 0, .int 0, .int 0])), (f4, .inr (1, [.int 0, .int 0, .int 0, .int 0, .int 0])), (f5, .inr (1, [.int 0, .int 0, .int 0, .int 0, .int 0])), (f6, .inr (1, [.int 0, .int 0, .int 0, .int 0, .int 0])), (f7, .inr (1, [.int 0, .int 0, .int 0, .int 0, .int 0])), (f8, .inr (1, [.int 0, .int 0, .int 0, .int 0, .int 0])), (f9, .inr (1, [.int 0, .int 0, .int 0, .int 0, .int 0])), (q1, .inl (dA 0, 16, .inl (fun _ => 0)))] := hD
  refine va_putF (D := D) (ci := 4) (v := .ref q1) (ty := (.array .int)) (C := fn_C4) (T := fn_F4) (N := 12) hx hb hts fn_in4 fn_t4 fn_ty4 fn_nm4 hown hK hP hD hS 0 rfl rfl 1 (by decide) (hts _ kl_72) (fun _ h9 => h9) rfl hin rfl (by decide +kernel) rfl rfl (Nat.le_of_ble_eq_true rfl) kd_Node_14 (fun H locs hP hD hS => ?_)
  have hP : va_P D fn_cl [(h0, .inr (4, [.int (nI k), .ref q1, .null, .int 0, .int 0, .int 0, .int 0, .int 0, .int 0, .int 0, .int 0, .int 0])), (f1, .inr (1, [.int 0, .int 0, .int 0, .int 0, .int 0])), (f2, .inr (1, [.int 0, .int 0, .int 0, .int 0, .int 0])), (f3, .inr (1, [.int 0, .int 0, .int 0, .int 0, .int 0])), (f4, .inr (1, [.int 0, .int 0, .int 0, .int 0, .int 0])), (f5, .inr (1, [.int 0, .int 0, .int 0, .int 0, .int 0])), (f6, .inr (1, [.int 0, .int 0, .int 0, .int 0, .int 0])), (f7, .inr (1, [.int 0, .int 0, .int 0, .int 0, .int 0])), (f8, .inr (1, [.int 0, .int 0, .int 0, .int 0, .int 0])), (f9, .inr (1, [.int 0, .int 0, .int 0, .int 0, .int 0])), (q1, .inl (dA 0, 16, .inl (fun _ => 0)))] H := hP
  have hD : va_D A [(h0, .inr (4, [.int (nI k), .ref q1, .null, .int 0, .int 0, .int 0, .int 0, .int 0, .int 0, .int 0, .int 0, .int 0])), (f1, .inr (1, [.int 0, .int 0, .int 0, .int 0, .int 0])), (f2, .inr (1, [.int 0, .int 0, .int 0, .int 0, .int 0])), (f3, .inr (1, [.int 0, .int 0, .int 0, .int 0, .int 0])), (f4, .inr (1, [.int 0, .int 0, .int 0, .int 0, .int 0])), (f5, .inr (1, [.int 0, .int 0, .int 0, .int 0, .int 0])), (f6, .inr (1, [.int 0, .int 0, .int 0, .int 0, .int 0])), (f7, .inr (1, [.int 0, .int 0, .int 0, .int 0, .int 0])), (f8, .inr (1, [.int 0, .int 0, .int 0, .int 0, .int 0])), (f9, .inr (1, [.int 0, .int 0, .int 0, .int 0, .int 0])), (q1, .inl (dA 0, 16, .inl (fun _ => 0)))] := hD
  refine lv_aload_n hx hb kd_Node_17 rfl (lv_at hl 0 rfl) ?_
  refine va_new (ci := 8) (fs := [.null, .int 0, .int 0, .int 0]) (C := fn_C8) (T := fn_F8) (N := 4) hx hb hts fn_in8 fn_t8 fn_ty8 hown (hts _ kl_73) (hts _ kl_74) (hts _ kl_75) hK hP hD hS hA rfl kn_f8 (Nat.le_of_ble_eq_true rfl) (Nat.le_of_ble_eq_true rfl) kd_Node_18 (fun q2 H hP hD hS => ?_)
  have hP : va_P D fn_cl [(h0, .inr (4, [.int (nI k), .ref q1, .null, .int 0, .int 0, .int 0, .int 0, .int 0, .int 0, .int 0, .int 0, .int 0])), (f1, .inr (1, [.int 0, .int 0, .int 0, .int 0, .int 0])), (f2, .inr (1, [.int 0, .int 0, .int 0, .int 0, .int 0])), (f3, .inr (1, [.int 0, .int 0, .int 0, .int 0, .int 0])), (f4, .inr (1, [.int 0, .int 0, .int 0, .int 0, .int 0])), (f5, .inr (1, [.int 0, .int 0, .int 0, .int 0, .int 0])), (f6, .inr (1, [.int 0, .int 0, .int 0, .int 0, .int 0])), (f7, .inr (1, [.int 0, .int 0, .int 0, .int 0, .int 0])), (f8, .inr (1, [.int 0, .int 0, .int 0, .int 0, .int 0])), (f9, .inr (1, [.int 0, .int 0, .int 0, .int 0, .int 0])), (q1, .inl (dA 0, 16, .inl (fun _ => 0))), (q2, .inr (8, [.null, .int 0, .int 0, .int 0]))] H := hP
  have hD : va_D A [(h0, .inr (4, [.int (nI k), .ref q1, .null, .int 0, .int 0, .int 0, .int 0, .int 0, .int 0, .int 0, .int 0, .int 0])), (f1, .inr (1, [.int 0, .int 0, .int 0, .int 0, .int 0])), (f2, .inr (1, [.int 0, .int 0, .int 0, .int 0, .int 0])), (f3, .inr (1, [.int 0, .int 0, .int 0, .int 0, .int 0])), (f4, .inr (1, [.int 0, .int 0, .int 0, .int 0, .int 0])), (f5, .inr (1, [.int 0, .int 0, .int 0, .int 0, .int 0])), (f6, .inr (1, [.int 0, .int 0, .int 0, .int 0, .int 0])), (f7, .inr (1, [.int 0, .int 0, .int 0, .int 0, .int 0])), (f8, .inr (1, [.int 0, .int 0, .int 0, .int 0, .int 0])), (f9, .inr (1, [.int 0, .int 0, .int 0, .int 0, .int 0])), (q1, .inl (dA 0, 16, .inl (fun _ => 0))), (q2, .inr (8, [.null, .int 0, .int 0, .int 0]))] := hD
  refine lv_dup hx hb kd_Node_21 rfl ?_
  have hPc := hP.sub (ws' := [(q2, .inr (8, [.null, .int 0, .int 0, .int 0]))]) [11] rfl
  have hDc := hD.sub (ws' := [(q2, .inr (8, [.null, .int 0, .int 0, .int 0]))]) [11] (by decide) rfl
  have hFc := va_free (wc := [(q2, .inr (8, [.null, .int 0, .int 0, .int 0]))]) hD hS hA [11] rfl
  refine va_callv (va_runI (As := []) (rest := [.ref q2, .ref h0]) ⟨hx, hb, hml, hown, hts⟩ (kc_SB l D dA q2 H.size) (cwI 0 hts (fn_GI kl_77) rfl rfl rfl (hts _ kl_75) (hts _ kl_76) (hts _ kl_78) rfl (by decide +kernel) ⟨(Nat.le_of_ble_eq_true rfl), (Nat.le_of_ble_eq_true rfl)⟩) ⟨kn_blindZ, fun U hU hW => ⟨rfl, kn_preZ hPc hDc hK hN hU hW ((hZ.kept hS.2.1).narrow hFc)⟩⟩ rfl rfl hl.1 rfl (lv_room (Nat.le_of_ble_eq_true rfl)) kd_Node_22 ⟨(Nat.le_of_ble_eq_true rfl), (Nat.le_of_ble_eq_true rfl)⟩) hS (fun q _ h => hFc q h) hFc (fun u3 t H1 locs ht hvm h5 hB hz1 hk1 hS => ?_)
  obtain ⟨hP1, hD1⟩ := hB
  rw [ht] at hP1
  obtain ⟨hP, hD⟩ := va_join (wr := [(h0, .inr (4, [.int (nI k), .ref q1, .null, .int 0, .int 0, .int 0, .int 0, .int 0, .int 0, .int 0, .int 0, .int 0])), (f1, .inr (1, [.int 0, .int 0, .int 0, .int 0, .int 0])), (f2, .inr (1, [.int 0, .int 0, .int 0, .int 0, .int 0])), (f3, .inr (1, [.int 0, .int 0, .int 0, .int 0, .int 0])), (f4, .inr (1, [.int 0, .int 0, .int 0, .int 0, .int 0])), (f5, .inr (1, [.int 0, .int 0, .int 0, .int 0, .int 0])), (f6, .inr (1, [.int 0, .int 0, .int 0, .int 0, .int 0])), (f7, .inr (1, [.int 0, .int 0, .int 0, .int 0, .int 0])), (f8, .inr (1, [.int 0, .int 0, .int 0, .int 0, .int 0])), (f9, .inr (1, [.int 0, .int 0, .int 0, .int 0, .int 0])), (q1, .inl (dA 0, 16, .inl (fun _ => 0)))]) (w1 := [(q2, .inr (8, [.ref (u3 0), .int 0, .int 0, .int 0])), ((u3 0), .inl (dA 2, 16, .inl (fun _ => 0)))]) hP hD [11] [0, 1, 2, 3, 4, 5, 6, 7, 8, 9, 10] rfl rfl (by decide) (by decide) hk1 hFc hP1 hD1
  generalize H1 = H at hP hS ⊢
  have hP : va_P D fn_cl [(h0, .inr (4, [.int (nI k), .ref q1, .null, .int 0, .int 0, .int 0, .int 0, .int 0, .int 0, .int 0, .int 0, .int 0])), (f1, .inr (1, [.int 0, .int 0, .int 0, .int 0, .int 0])), (f2, .inr (1, [.int 0, .int 0, .int 0, .int 0, .int 0])), (f3, .inr (1, [.int 0, .int 0, .int 0, .int 0, .int 0])), (f4, .inr (1, [.int 0, .int 0, .int 0, .int 0, .int 0])), (f5, .inr (1, [.int 0, .int 0, .int 0, .int 0, .int 0])), (f6, .inr (1, [.int 0, .int 0, .int 0, .int 0, .int 0])), (f7, .inr (1, [.int 0, .int 0, .int 0, .int 0, .int 0])), (f8, .inr (1, [.int 0, .int 0, .int 0, .int 0, .int 0])), (f9, .inr (1, [.int 0, .int 0, .int 0, .int 0, .int 0])), (q1, .inl (dA 0, 16, .inl (fun _ => 0))), (q2, .inr (8, [.ref (u3 0), .int 0, .int 0, .int 0])), ((u3 0), .inl (dA 2, 16, .inl (fun _ => 0)))] H := hP
  have hD : va_D A [(h0, .inr (4, [.int (nI k), .ref q1, .null, .int 0, .int 0, .int 0, .int 0, .int 0, .int 0, .int 0, .int 0, .int 0])), (f1, .inr (1, [.int 0, .int 0, .int 0, .int 0, .int 0])), (f2, .inr (1, [.int 0, .int 0, .int 0, .int 0, .int 0])), (f3, .inr (1, [.int 0, .int 0, .int 0, .int 0, .int 0])), (f4, .inr (1, [.int 0, .int 0, .int 0, .int 0, .int 0])), (f5, .inr (1, [.int 0, .int 0, .int 0, .int 0, .int 0])), (f6, .inr (1, [.int 0, .int 0, .int 0, .int 0, .int 0])), (f7, .inr (1, [.int 0, .int 0, .int 0, .int 0, .int 0])), (f8, .inr (1, [.int 0, .int 0, .int 0, .int 0, .int 0])), (f9, .inr (1, [.int 0, .int 0, .int 0, .int 0, .int 0])), (q1, .inl (dA 0, 16, .inl (fun _ => 0))), (q2, .inr (8, [.ref (u3 0), .int 0, .int 0, .int 0])), ((u3 0), .inl (dA 2, 16, .inl (fun _ => 0)))] := hD
  refine va_putF (D := D) (ci := 4) (v := .ref q2) (ty := (.object "java/lang/StringBuilder")) (C := fn_C4) (T := fn_F4) (N := 12) hx hb hts fn_in4 fn_t4 fn_ty4 fn_nm4 hown hK hP hD hS 0 rfl rfl 2 (by decide) (hts _ kl_79) (fun _ h9 => h9) rfl hin rfl (by decide +kernel) rfl rfl (Nat.le_of_ble_eq_true rfl) kd_Node_25 (fun H locs hP hD hS => ?_)
  have hP : va_P D fn_cl [(h0, .inr (4, [.int (nI k), .ref q1, .ref q2, .int 0, .int 0, .int 0, .int 0, .int 0, .int 0, .int 0, .int 0, .int 0])), (f1, .inr (1, [.int 0, .int 0, .int 0, .int 0, .int 0])), (f2, .inr (1, [.int 0, .int 0, .int 0, .int 0, .int 0])), (f3, .inr (1, [.int 0, .int 0, .int 0, .int 0, .int 0])), (f4, .inr (1, [.int 0, .int 0, .int 0, .int 0, .int 0])), (f5, .inr (1, [.int 0, .int 0, .int 0, .int 0, .int 0])), (f6, .inr (1, [.int 0, .int 0, .int 0, .int 0, .int 0])), (f7, .inr (1, [.int 0, .int 0, .int 0, .int 0, .int 0])), (f8, .inr (1, [.int 0, .int 0, .int 0, .int 0, .int 0])), (f9, .inr (1, [.int 0, .int 0, .int 0, .int 0, .int 0])), (q1, .inl (dA 0, 16, .inl (fun _ => 0))), (q2, .inr (8, [.ref (u3 0), .int 0, .int 0, .int 0])), ((u3 0), .inl (dA 2, 16, .inl (fun _ => 0)))] H := hP
  have hD : va_D A [(h0, .inr (4, [.int (nI k), .ref q1, .ref q2, .int 0, .int 0, .int 0, .int 0, .int 0, .int 0, .int 0, .int 0, .int 0])), (f1, .inr (1, [.int 0, .int 0, .int 0, .int 0, .int 0])), (f2, .inr (1, [.int 0, .int 0, .int 0, .int 0, .int 0])), (f3, .inr (1, [.int 0, .int 0, .int 0, .int 0, .int 0])), (f4, .inr (1, [.int 0, .int 0, .int 0, .int 0, .int 0])), (f5, .inr (1, [.int 0, .int 0, .int 0, .int 0, .int 0])), (f6, .inr (1, [.int 0, .int 0, .int 0, .int 0, .int 0])), (f7, .inr (1, [.int 0, .int 0, .int 0, .int 0, .int 0])), (f8, .inr (1, [.int 0, .int 0, .int 0, .int 0, .int 0])), (f9, .inr (1, [.int 0, .int 0, .int 0, .int 0, .int 0])), (q1, .inl (dA 0, 16, .inl (fun _ => 0))), (q2, .inr (8, [.ref (u3 0), .int 0, .int 0, .int 0])), ((u3 0), .inl (dA 2, 16, .inl (fun _ => 0)))] := hD
  refine lv_aload_n hx hb kd_Node_28 rfl (lv_at hl 0 rfl) ?_
  refine lv_iconst (v := 0) hx hb kd_Node_29 (by decide) ?_
  refine va_put (D := D) (ci := 4) (v := .int 0) (ty := .int) (C := fn_C4) (T := fn_F4) (N := 12) hx hb hts fn_in4 fn_t4 fn_ty4 fn_nm4 hown hK hP hD hS 0 rfl rfl 3 (by decide) (hts _ kl_80) (fun _ h9 => h9) rfl (by decide +kernel) rfl rfl (Nat.le_of_ble_eq_true rfl) kd_Node_30 (fun H locs hP hD hS => ?_)
  have hP : va_P D fn_cl [(h0, .inr (4, [.int (nI k), .ref q1, .ref q2, .int 0, .int 0, .int 0, .int 0, .int 0, .int 0, .int 0, .int 0, .int 0])), (f1, .inr (1, [.int 0, .int 0, .int 0, .int 0, .int 0])), (f2, .inr (1, [.int 0, .int 0, .int 0, .int 0, .int 0])), (f3, .inr (1, [.int 0, .int 0, .int 0, .int 0, .int 0])), (f4, .inr (1, [.int 0, .int 0, .int 0, .int 0, .int 0])), (f5, .inr (1, [.int 0, .int 0, .int 0, .int 0, .int 0])), (f6, .inr (1, [.int 0, .int 0, .int 0, .int 0, .int 0])), (f7, .inr (1, [.int 0, .int 0, .int 0, .int 0, .int 0])), (f8, .inr (1, [.int 0, .int 0, .int 0, .int 0, .int 0])), (f9, .inr (1, [.int 0, .int 0, .int 0, .int 0, .int 0])), (q1, .inl (dA 0, 16, .inl (fun _ => 0))), (q2, .inr (8, [.ref (u3 0), .int 0, .int 0, .int 0])), ((u3 0), .inl (dA 2, 16, .inl (fun _ => 0)))] H := hP
  have hD : va_D A [(h0, .inr (4, [.int (nI k), .ref q1, .ref q2, .int 0, .int 0, .int 0, .int 0, .int 0, .int 0, .int 0, .int 0, .int 0])), (f1, .inr (1, [.int 0, .int 0, .int 0, .int 0, .int 0])), (f2, .inr (1, [.int 0, .int 0, .int 0, .int 0, .int 0])), (f3, .inr (1, [.int 0, .int 0, .int 0, .int 0, .int 0])), (f4, .inr (1, [.int 0, .int 0, .int 0, .int 0, .int 0])), (f5, .inr (1, [.int 0, .int 0, .int 0, .int 0, .int 0])), (f6, .inr (1, [.int 0, .int 0, .int 0, .int 0, .int 0])), (f7, .inr (1, [.int 0, .int 0, .int 0, .int 0, .int 0])), (f8, .inr (1, [.int 0, .int 0, .int 0, .int 0, .int 0])), (f9, .inr (1, [.int 0, .int 0, .int 0, .int 0, .int 0])), (q1, .inl (dA 0, 16, .inl (fun _ => 0))), (q2, .inr (8, [.ref (u3 0), .int 0, .int 0, .int 0])), ((u3 0), .inl (dA 2, 16, .inl (fun _ => 0)))] := hD
  refine lv_aload_n hx hb kd_Node_33 rfl (lv_at hl 0 rfl) ?_
  refine lv_iconst (v := (-1)) hx hb kd_Node_34 (by decide) ?_
  refine va_put (D := D) (ci := 4) (v := .int (-1)) (ty := .int) (C := fn_C4) (T := fn_F4) (N := 12) hx hb hts fn_in4 fn_t4 fn_ty4 fn_nm4 hown hK hP hD hS 0 rfl rfl 5 (by decide) (hts _ kl_81) (fun _ h9 => h9) rfl (by decide +kernel) rfl rfl (Nat.le_of_ble_eq_true rfl) kd_Node_35 (fun H locs hP hD hS => ?_)
  have hP : va_P D fn_cl [(h0, .inr (4, [.int (nI k), .ref q1, .ref q2, .int 0, .int 0, .int (-1), .int 0, .int 0, .int 0, .int 0, .int 0, .int 0])), (f1, .inr (1, [.int 0, .int 0, .int 0, .int 0, .int 0])), (f2, .inr (1, [.int 0, .int 0, .int 0, .int 0, .int 0])), (f3, .inr (1, [.int 0, .int 0, .int 0, .int 0, .int 0])), (f4, .inr (1, [.int 0, .int 0, .int 0, .int 0, .int 0])), (f5, .inr (1, [.int 0, .int 0, .int 0, .int 0, .int 0])), (f6, .inr (1, [.int 0, .int 0, .int 0, .int 0, .int 0])), (f7, .inr (1, [.int 0, .int 0, .int 0, .int 0, .int 0])), (f8, .inr (1, [.int 0, .int 0, .int 0, .int 0, .int 0])), (f9, .inr (1, [.int 0, .int 0, .int 0, .int 0, .int 0])), (q1, .inl (dA 0, 16, .inl (fun _ => 0))), (q2, .inr (8, [.ref (u3 0), .int 0, .int 0, .int 0])), ((u3 0), .inl (dA 2, 16, .inl (fun _ => 0)))] H := hP
  have hD : va_D A [(h0, .inr (4, [.int (nI k), .ref q1, .ref q2, .int 0, .int 0, .int (-1), .int 0, .int 0, .int 0, .int 0, .int 0, .int 0])), (f1, .inr (1, [.int 0, .int 0, .int 0, .int 0, .int 0])), (f2, .inr (1, [.int 0, .int 0, .int 0, .int 0, .int 0])), (f3, .inr (1, [.int 0, .int 0, .int 0, .int 0, .int 0])), (f4, .inr (1, [.int 0, .int 0, .int 0, .int 0, .int 0])), (f5, .inr (1, [.int 0, .int 0, .int 0, .int 0, .int 0])), (f6, .inr (1, [.int 0, .int 0, .int 0, .int 0, .int 0])), (f7, .inr (1, [.int 0, .int 0, .int 0, .int 0, .int 0])), (f8, .inr (1, [.int 0, .int 0, .int 0, .int 0, .int 0])), (f9, .inr (1, [.int 0, .int 0, .int 0, .int 0, .int 0])), (q1, .inl (dA 0, 16, .inl (fun _ => 0))), (q2, .inr (8, [.ref (u3 0), .int 0, .int 0, .int 0])), ((u3 0), .inl (dA 2, 16, .inl (fun _ => 0)))] := hD
  refine lv_aload_n hx hb kd_Node_38 rfl (lv_at hl 0 rfl) ?_
  refine lv_iconst (v := (-1)) hx hb kd_Node_39 (by decide) ?_
  refine va_put (D := D) (ci := 4) (v := .int (-1)) (ty := .int) (C := fn_C4) (T := fn_F4) (N := 12) hx hb hts fn_in4 fn_t4 fn_ty4 fn_nm4 hown hK hP hD hS 0 rfl rfl 8 (by decide) (hts _ kl_82) (fun _ h9 => h9) rfl (by decide +kernel) rfl rfl (Nat.le_of_ble_eq_true rfl) kd_Node_40 (fun H locs hP hD hS => ?_)
  have hP : va_P D fn_cl [(h0, .inr (4, [.int (nI k), .ref q1, .ref q2, .int 0, .int 0, .int (-1), .int 0, .int 0, .int (-1), .int 0, .int 0, .int 0])), (f1, .inr (1, [.int 0, .int 0, .int 0, .int 0, .int 0])), (f2, .inr (1, [.int 0, .int 0, .int 0, .int 0, .int 0])), (f3, .inr (1, [.int 0, .int 0, .int 0, .int 0, .int 0])), (f4, .inr (1, [.int 0, .int 0, .int 0, .int 0, .int 0])), (f5, .inr (1, [.int 0, .int 0, .int 0, .int 0, .int 0])), (f6, .inr (1, [.int 0, .int 0, .int 0, .int 0, .int 0])), (f7, .inr (1, [.int 0, .int 0, .int 0, .int 0, .int 0])), (f8, .inr (1, [.int 0, .int 0, .int 0, .int 0, .int 0])), (f9, .inr (1, [.int 0, .int 0, .int 0, .int 0, .int 0])), (q1, .inl (dA 0, 16, .inl (fun _ => 0))), (q2, .inr (8, [.ref (u3 0), .int 0, .int 0, .int 0])), ((u3 0), .inl (dA 2, 16, .inl (fun _ => 0)))] H := hP
  have hD : va_D A [(h0, .inr (4, [.int (nI k), .ref q1, .ref q2, .int 0, .int 0, .int (-1), .int 0, .int 0, .int (-1), .int 0, .int 0, .int 0])), (f1, .inr (1, [.int 0, .int 0, .int 0, .int 0, .int 0])), (f2, .inr (1, [.int 0, .int 0, .int 0, .int 0, .int 0])), (f3, .inr (1, [.int 0, .int 0, .int 0, .int 0, .int 0])), (f4, .inr (1, [.int 0, .int 0, .int 0, .int 0, .int 0])), (f5, .inr (1, [.int 0, .int 0, .int 0, .int 0, .int 0])), (f6, .inr (1, [.int 0, .int 0, .int 0, .int 0, .int 0])), (f7, .inr (1, [.int 0, .int 0, .int 0, .int 0, .int 0])), (f8, .inr (1, [.int 0, .int 0, .int 0, .int 0, .int 0])), (f9, .inr (1, [.int 0, .int 0, .int 0, .int 0, .int 0])), (q1, .inl (dA 0, 16, .inl (fun _ => 0))), (q2, .inr (8, [.ref (u3 0), .int 0, .int 0, .int 0])), ((u3 0), .inl (dA 2, 16, .inl (fun _ => 0)))] := hD
  refine lv_aload_n hx hb kd_Node_43 rfl (lv_at hl 0 rfl) ?_
  refine lv_sipush (v := 1000) hx hb kd_Node_44 (by decide) ?_
  refine lv_iload_n hx hb kd_Node_47 rfl (lv_at hl 1 rfl) ?_
  refine lv_iadd hx hb kd_Node_48 ?_
  have hPc := hP.sub (ws' := fn_W (kn_a2 ad [h0, f1, f2, f3, q1, f4, f5, f6, q2, f7, f8, f9, (u3 0)]) dA 2 (kn_x0 k)) [0, 1, 2, 3, 10, 4, 5, 6, 11, 7, 8, 9, 12] rfl
  have hDc := hD.sub (ws' := fn_W (kn_a2 ad [h0, f1, f2, f3, q1, f4, f5, f6, q2, f7, f8, f9, (u3 0)]) dA 2 (kn_x0 k)) [0, 1, 2, 3, 10, 4, 5, 6, 11, 7, 8, 9, 12] (by decide) rfl
  have had : fn_ad (kn_a2 ad [h0, f1, f2, f3, q1, f4, f5, f6, q2, f7, f8, f9, (u3 0)]) 2 := fun i j hi hj e => hDc.1 i j _ _ (fn_W_at hi) (fn_W_at hj) e
  have hF2 : ∀ q, fn_A (kn_a2 ad [h0, f1, f2, f3, q1, f4, f5, f6, q2, f7, f8, f9, (u3 0)]) 2 q → A q := fun q ⟨i, hi, e⟩ => by rw [e]; exact hDc.2 i _ (fn_W_at hi)
  obtain ⟨y, y1, y2, y3, y4, y5, y6⟩ := fj_take k1 k2 0 0 (kn_x0 k) (v := 1000 + k) (L := 0) (by omega) (by decide) rfl rfl nI_0.symm
  have hM := fn_sound (l := l) (D := D) (dA := dA) had 2000 6 27 [.ref 0, .int (nI (1000 + k))] (kn_x0 k) (y, none) y1
  obtain ⟨hcode, hini, -, hl2, hl3⟩ := fn_mlok _ kn_mem27
  have hG : GoodIn fn_tT (fn_cw 27 :: fn_tT) := fn_GI hcode
  have hd := fn_mkd kn_lt27
  have e1000 : (1000 : Int32) + nI k = nI (1000 + k) := by rw [show (1000 : Int32) = nI 1000 from rfl, nI_add]
  rw [e1000]
  refine kn_back (va_runV (ws := fn_cw 27 :: fn_tT) (rm := fn_rm 6) (b := h0) (As := [.int (nI (1000 + k))]) (rest := []) ⟨hx, hb, hml, hown, hts⟩ hM ⟨callB_of 1 hts hG rfl rfl rfl (hts _ hini) (hts _ kl_83) hd ⟨(Nat.le_of_ble_eq_true rfl), (Nat.le_of_ble_eq_true rfl)⟩, hts _ hl2, hts _ hl3⟩ ⟨fn_P_blind, va_recv (q0 := 0) hK hP (ci := 4) rfl rfl, fun U hU hW => ⟨rfl, by rw [hU]; exact hPc, va_K.moved hW.alike hK, fun w hw => fn_nw (List.mem_filter.mp hw).2 hW (hN w hw), (hRO.next hS hU hW).narrow hF2⟩⟩ rfl rfl hl.1 rfl (lv_room (Nat.le_of_ble_eq_true rfl)) kd_Node_49 ⟨(Nat.le_of_ble_eq_true rfl), (Nat.le_of_ble_eq_true rfl)⟩) hS hF2 (fun H locs hP1 hk1 hS => ?_)
  have hD1 : va_D A (fn_W (kn_a2 ad [h0, f1, f2, f3, q1, f4, f5, f6, q2, f7, f8, f9, (u3 0)]) dA 2 y) := (fn_D had).weaken (fun _ _ _ h => hF2 _ h)
  refine W.widen (k := 3) (n := 36) (Nat.le_of_ble_eq_true rfl) (Nat.le_of_ble_eq_true rfl) ?_
  exact W.vret hx hb hr (fun t ht hW => ⟨⟨((fun i => [q1, q2, (u3 0)].getD i 0 : Nat → Nat), y), rfl, ⟨y2, y3, y4, y5, y6⟩, by rw [ht]; exact hP1, hD1⟩, hS.F ht⟩) hS.2.2 kd_Node_52
