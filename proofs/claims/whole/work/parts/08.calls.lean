/-! ===== calls ===== -/
def fn_rm (d : Nat) : Room := { frames := d, cells := 0, slots := 0, locals := 30 * d }
def fn_cw (mi : Nat) : Jvm.Cond := .code (fn_rec mi).1 (fn_rec mi).2.1 (fn_rec mi).2.2.1 (fn_rec mi).2.2.2
/-- the contract of a run of method mi -/
def fn_MT (l : Launch) (D : va_G) (dA : Nat → ClassId) (ad : Nat → Nat) (G d mi : Nat) (as : List Value) (x : fn_M) (r : fn_R) : Prop :=
  Met l (fn_rec mi).1 (fn_cw mi :: fn_tT) (fn_rm d) (va_Pc (as.map (fn_cv ad)) (fn_P D dA ad G x)) (fn_Q D dA ad G r) 0 0 (fn_A ad G)
/-- what is asked of every method: its name, how many parameters, few locals -/
def fn_mk (mi : Nat) : Bool := (fn_rec mi).1.cls != "java/lang/invoke/MethodHandle" && (fn_rec mi).1.cls != "java/lang/invoke/VarHandle" && ((parseMethodDescriptor (fn_rec mi).1.desc).map (fun d => d.parameters.length) == some (fn_np mi)) && Nat.ble (fn_rec mi).2.2.1 11 && (fn_rec mi).1.name != "<init>" && plainFor (fn_rec mi).1
theorem fn_mks : ∀ mi, mi < fn_NM → fn_mk mi = true := by decide +kernel
theorem fn_mkd {mi : Nat} (h : mi < fn_NM) : (fn_rec mi).1.cls ≠ "java/lang/invoke/MethodHandle" ∧ (fn_rec mi).1.cls ≠ "java/lang/invoke/VarHandle" ∧ (parseMethodDescriptor (fn_rec mi).1.desc).map (fun d => d.parameters.length) = some (fn_np mi) := by
  have := fn_mks mi h
  unfold fn_mk at this
  simp only [Bool.and_eq_true, bne_iff_ne, beq_iff_eq] at this
  exact ⟨this.1.1.1.1.1, this.1.1.1.1.2, this.1.1.1.2⟩
theorem fn_mkl {mi : Nat} (h : mi < fn_NM) : (fn_rec mi).2.2.1 ≤ 11 := by
  have := fn_mks mi h
  unfold fn_mk at this
  simp only [Bool.and_eq_true, bne_iff_ne, beq_iff_eq] at this
  exact Nat.le_of_ble_eq_true this.1.1.2
theorem fn_mkn {mi : Nat} (h : mi < fn_NM) : (fn_rec mi).1.name ≠ "<init>" := by
  have := fn_mks mi h
  unfold fn_mk at this
  simp only [Bool.and_eq_true, bne_iff_ne, beq_iff_eq] at this
  exact this.1.2
theorem fn_mkp {mi : Nat} (h : mi < fn_NM) : plainFor (fn_rec mi).1 = true := by
  have := fn_mks mi h
  unfold fn_mk at this
  simp only [Bool.and_eq_true, bne_iff_ne, beq_iff_eq] at this
  exact this.2
theorem fn_selp {s : State} {args : Array Value} {y : MethodName} {C0 : String} {cC : ClassId} (hc : s.vm.findClass C0 = some cC) (hsame : (Jvm.Cond.sameMethod y.cls y.cls y.name y.desc).before args s = true) (hpriv : (Jvm.Cond.privateMethod y).before args s = true) (hinst : (Jvm.Cond.instanceMethod y).before args s = true) : (Jvm.Cond.selects C0 y y).before args s = true := by
  obtain ⟨mk, methM, hnamed, hmethM, -, -⟩ := Cond.instanceMethod_spec hinst
  obtain ⟨cn, ck, r1, hcn, hck, hni, hf, hn1⟩ := Cond.sameMethod_found hsame
  have hn1' : s.methodNamed? y = some r1 := hn1
  cases hnamed.symm.trans hn1'
  have hsel : selectMethod {} s.vm cC mk = .method mk := selectMethod_private hmethM (Cond.privateMethod_at hpriv mk methM hnamed hmethM)
  have hcls : mk.cls = cn := Option.some.inj ((findClass_of_methodNamed hnamed).symm.trans hcn)
  simp only [Cond.before, Cond.holds, Cond.value, hc, hf, hnamed, hsel, hcls, hck]
  simp; exact hni
section FC
variable {p : Program} {l : Launch} {e : Env} {R : Room} {s : State} {m : MethodId} {args : Array Value} {below : List Frame} {meth : Method} {c : Code} {Q : State → Prop} {H : Heap} {locs : List Loc} {ls : Array Slot} {rest : List Value}
variable {D : va_G} {dA : Nat → ClassId} {ad : Nat → Nat} {G : Nat} {cc : ByteArray} {nL oc : Nat} {rt : Option FieldType} {x : fn_M} {pc : Nat} {I : fn_I} {lo : fn_L} {st : List Value} {k : fn_K} {r : fn_R}
/-- behind a call: the callee's world, and the answer on the stack -/
theorem fs_back {r1 : fn_R} {a : Array Value} {st0 : List Value} (hr : va_Run p l e R s m args below meth c H locs 0 0 0 0 (F0 m pc ls st0) rest (fn_Q D dA ad G r1 a) (fn_A ad G)) (hS : va_S (fn_A ad G) s.heap H locs)
    (kk : ∀ (H1 : Heap) (locs1 : List Loc), va_P D fn_cl (fn_W ad dA G r1.1) H1 → va_S (fn_A ad G) s.heap H1 locs1 → W p l e R s m args below meth c H1 locs1 0 0 Q (F0 m (pc + 3) ls ((r1.2.map (fn_cv ad)).toList ++ rest))) : W p l e R s m args below meth c H locs 0 0 Q (F0 m pc ls st0) := by
  intro T hT X
  obtain ⟨v, st₀, t, T', L, h0, X', hL, e1, e2, ⟨⟨hv, hp⟩, hz, hk⟩, stp⟩ := hr T hT X
  cases hv
  rw [h0] at hz hk
  obtain ⟨t2, a1, b1⟩ := kk T'.heap (locs ++ L) (by rw [e1]; exact hp)
    ⟨Nat.le_trans hS.1 (by rw [e1]; exact hz), fun q h1 h2 => by rw [e1, hk q (Nat.lt_of_lt_of_le h1 hS.1) h2]; exact hS.2.1 q h1 h2, fun q hq => by
      rcases List.mem_append.mp hq with h | h
      · exact hS.2.2 q h
      · exact hL q h⟩ T' rfl X'
  exact ⟨t2, stp t2 a1, b1⟩
theorem fn_sh_cv (h : fn_sh st = true) : ((st.map (fn_cv ad)).map fun v => v.category).sum ≤ 8 := by
  have e5 : (st.map (fn_cv ad)).map (fun v => v.category) = st.map (fun v => v.category) := by
    rw [List.map_map]
    exact List.map_congr_left fun v _ => fn_cv_cat ad v
  rw [e5]
  exact Nat.le_of_ble_eq_true h
/-- the receiver's cell: an object of the world, or the literal -/
theorem fs_recv {ci q : Nat} (C : fn_Cx D dA ad G p s m args meth c cc nL oc rt) (hP : va_P D fn_cl (fn_W ad dA G x) H) (hS : va_S (fn_A ad G) s.heap H locs) (hq : fn_lc G q = ci + 1) {q0 : vw_C} (hc : fn_cl[ci]? = some q0) : ∃ cell : Cell, H[ad q]? = some cell ∧ cell.vm.isStatics = false ∧ s.vm.findClass q0.1 = some cell.cls := by
  obtain ⟨-, -, -, -, -, -, -, -, hK, -⟩ := C
  have hq' : q < fn_NC G := fn_lc_lt (by omega)
  exact va_recv hK hP hc (by rw [fn_W_at hq', fn_ce_obj hq])
theorem fs_recvL (C : fn_Cx D dA ad G p s m args meth c cc nL oc rt) (hS : va_S (fn_A ad G) s.heap H locs) : ∃ cell : Cell, H[ad 1002]? = some cell ∧ cell.vm.isStatics = false ∧ s.vm.findClass "java/lang/String" = some cell.cls := by
  obtain ⟨-, -, -, -, -, -, -, -, -, -, hR⟩ := C
  obtain ⟨cell, h1, h2, h3, -⟩ := hR.2.2.2.2.2.2.1.1.kept hS.2.1
  exact ⟨cell, h1, h2, h3⟩
/-- the kind of a method's receiver by its name: as the tables have it -/
def fn_rk (kind mi : Nat) : Bool := match kind with
  | 0 | 1 => (if fn_ci mi = 98 then (fn_rec mi).1.cls == "java/lang/String" else (fn_cl[fn_ci mi]?).any (fun q => q.1 == (fn_rec mi).1.cls)) && fn_ci mi != 99
  | 2 | 3 => fn_ci mi == 99
  | _ => fn_ci mi == 8
def fn_mlk (q : Nat × Nat × Nat × Nat) : Bool := Nat.blt q.2.2.2 fn_NM && fn_rk q.2.2.1 q.2.2.2 && Nat.ble q.2.2.1 5
theorem fn_mlks : ∀ q ∈ fn_mlL, fn_mlk q = true := by decide +kernel
/-- how many arguments, the receiver among them -/
def fn_na (mi : Nat) : Nat := if fn_ci mi = 99 then fn_np mi else fn_np mi + 1
theorem fs_run {d idx kind mi : Nat} {as : List Value} {r1 : fn_R} (C : fn_Cx D dA ad G p s m args meth c cc nL oc rt) (hR : R = fn_rm (d + 1)) (hm : (oc, idx, kind, mi) ∈ fn_mlL) (hM : fn_MT l D dA ad G d mi as x r1) (hP : va_P D fn_cl (fn_W ad dA G x) H) (hS : va_S (fn_A ad G) s.heap H locs) (hls : ls.size = nL)
    (hrc : fn_rc G (fn_ci mi) as = true) (hlen : as.length = fn_na mi) (hsh : fn_sh st = true)
    (hdg : decode cc pc = .ok (if kind = 2 ∨ kind = 3 then .invokestatic idx else if kind = 5 then .invokespecial idx else .invokevirtual idx, 3)) :
    va_Run p l e R s m args below meth c H locs 0 0 0 0 (F0 m pc ls ((as.map (fn_cv ad)).reverse ++ st.map (fn_cv ad))) (st.map (fn_cv ad)) (fn_Q D dA ad G r1 (as.map (fn_cv ad)).toArray) (fn_A ad G) := by
  have C' := C
  obtain ⟨hx, hb, hml, -, -, hown, hts, hN, hK, had, hRO⟩ := C
  subst hR
  obtain ⟨hcode, hini, hrest⟩ := fn_mlok _ hm
  have hck := fn_mlks _ hm
  unfold fn_mlk at hck
  simp only [Bool.and_eq_true] at hck
  obtain ⟨⟨hlt, hrk⟩, hk6⟩ := hck
  replace hlt : mi < fn_NM := Nat.le_of_ble_eq_true hlt
  replace hk6 : kind ≤ 5 := Nat.le_of_ble_eq_true hk6
  simp only at hcode hini hrest hrk
  have hG : GoodIn fn_tT (fn_cw mi :: fn_tT) := fn_GI hcode
  have hd := fn_mkd hlt
  have hmL := fn_mkl hlt
  have hRm : (fn_rm d).frames + 1 ≤ (fn_rm (d + 1)).frames ∧ 8 + ((fn_rec mi).2.2.1 + 11) + (fn_rm d).locals ≤ (fn_rm (d + 1)).locals := by
    refine ⟨Nat.le_refl _, ?_⟩
    show 8 + ((fn_rec mi).2.2.1 + 11) + 30 * d ≤ 30 * (d + 1)
    omega
  have S : CallFix p m c cc nL s args fn_tT (fn_on oc) := ⟨hx, hb, hml, hown, hts⟩
  have hPre : ∀ U : State, U.heap = H → s.WarmedH U.vm → va_Pc (as.map (fn_cv ad)) (fn_P D dA ad G x) (as.map (fn_cv ad)).toArray U := fun U hU hW => ⟨rfl, fn_P_next hP hK hN hRO hS hU hW⟩
  have hcat := fn_sh_cv (ad := ad) hsh
  have hlen1 : ∀ sig, parseMethodDescriptor (fn_rec mi).1.desc = some sig → fn_np mi = sig.parameters.length := fun sig h => by
    have h2 := hd.2.2
    rw [h] at h2
    exact (Option.some.inj h2).symm
  have hmem : fn_cw mi ∈ fn_cw mi :: fn_tT := List.mem_cons_self
  -- the receiver
  have rcv : ∀ C0 : String, fn_ci mi ≠ 99 → (fn_ci mi = 98 → C0 = "java/lang/String") → (fn_ci mi ≠ 98 → ∃ q0, fn_cl[fn_ci mi]? = some q0 ∧ q0.1 = C0) → ∃ (q : Nat) (As : List Value), as = .ref q :: As ∧ As.length = fn_np mi ∧ ∃ cell : Cell, H[ad q]? = some cell ∧ cell.vm.isStatics = false ∧ s.vm.findClass C0 = some cell.cls := by
    intro C0 h99 h98 hcl
    unfold fn_rc at hrc
    rw [if_neg h99] at hrc
    unfold fn_na at hlen
    rw [if_neg h99] at hlen
    split at hrc
    · rename_i q As
      refine ⟨q, As, rfl, by simpa using hlen, ?_⟩
      by_cases h : fn_ci mi = 98
      · rw [if_pos h] at hrc
        have hq : q = 1002 := by simpa using hrc
        subst hq
        rw [h98 h]
        exact fs_recvL C' hS
      · rw [if_neg h] at hrc
        have hq : fn_lc G q = fn_ci mi + 1 := by simpa using hrc
        obtain ⟨q0, hc0, hC0⟩ := hcl h
        rw [← hC0]
        exact fs_recv C' hP hS hq hc0
    · cases hrc
  have stk : ∀ (q : Nat) (As : List Value), as = .ref q :: As → (as.map (fn_cv ad)).reverse ++ st.map (fn_cv ad) = (As.map (fn_cv ad)).reverse ++ .ref (ad q) :: st.map (fn_cv ad) := by
    intro q As h
    subst h
    simp [fn_cv]
  rcases (by omega : kind = 0 ∨ kind = 1 ∨ kind = 2 ∨ kind = 3 ∨ kind = 4 ∨ kind = 5) with rfl | rfl | rfl | rfl | rfl | rfl
  · simp only [fn_rk, Bool.and_eq_true, bne_iff_ne] at hrk
    obtain ⟨hl1, hl2, hl3⟩ := hrest
    obtain ⟨q, As, ha, hl, hcell⟩ := rcv (fn_rec mi).1.cls hrk.2 (fun h => by have := hrk.1; rw [if_pos h] at this; simpa using this) (fun h => by
      have := hrk.1
      rw [if_neg h] at this
      cases hq : fn_cl[fn_ci mi]? with
      | none => rw [hq] at this; simp at this
      | some q0 => rw [hq] at this; exact ⟨q0, rfl, by simpa using this⟩)
    have hst := stk q As ha
    subst ha
    exact va_runV (ws := fn_cw mi :: fn_tT) (rm := fn_rm d) (b := ad q) (As := As.map (fn_cv ad)) S hM ⟨callB_of (fn_np mi) hts hG rfl rfl rfl (hts _ hini) (hts _ hl1) hd hRm, hts _ hl2, hts _ hl3⟩ ⟨fn_P_blind, hcell, hPre⟩ rfl (by simpa using hl) hls hst (by simpa [JFrame.monitorRoom] using hcat) hdg ⟨Nat.zero_le _, Nat.zero_le _⟩
  · simp only [fn_rk, Bool.and_eq_true, bne_iff_ne] at hrk
    obtain ⟨⟨host, hl1⟩, hl2, hl3⟩ := hrest
    obtain ⟨q, As, ha, hl, hcell⟩ := rcv (fn_rec mi).1.cls hrk.2 (fun h => by have := hrk.1; rw [if_pos h] at this; simpa using this) (fun h => by
      have := hrk.1
      rw [if_neg h] at this
      cases hq : fn_cl[fn_ci mi]? with
      | none => rw [hq] at this; simp at this
      | some q0 => rw [hq] at this; exact ⟨q0, rfl, by simpa using this⟩)
    have hst := stk q As ha
    subst ha
    exact va_runVN (ws := fn_cw mi :: fn_tT) (rm := fn_rm d) (b := ad q) (As := As.map (fn_cv ad)) S hM ⟨va_cnB (fn_np mi) hts hG rfl rfl rfl (hN _ hl1) (hts _ hini) hd hRm, hts _ hl2, hts _ hl3⟩ ⟨fn_P_blind, hcell, hPre⟩ rfl (by simpa using hl) hls hst (by simpa [JFrame.monitorRoom] using hcat) hdg ⟨Nat.zero_le _, Nat.zero_le _⟩
  · obtain ⟨hl1, hl2⟩ := hrest
    simp only [fn_rk, beq_iff_eq] at hrk
    unfold fn_na at hlen
    rw [if_pos hrk] at hlen
    exact va_runS (ws := fn_cw mi :: fn_tT) (rm := fn_rm d) (As := as.map (fn_cv ad)) S hM ⟨callB_of (fn_np mi) hts hG rfl rfl rfl (hts _ hini) (hts _ hl1) hd hRm, hts _ hl2⟩ ⟨fn_P_blind, hPre⟩ rfl (by simpa using hlen) hls rfl (by simpa [JFrame.monitorRoom] using hcat) hdg ⟨Nat.zero_le _, Nat.zero_le _⟩
  · obtain ⟨⟨host, hl1⟩, hl2⟩ := hrest
    simp only [fn_rk, beq_iff_eq] at hrk
    unfold fn_na at hlen
    rw [if_pos hrk] at hlen
    exact va_runSN (ws := fn_cw mi :: fn_tT) (rm := fn_rm d) (As := as.map (fn_cv ad)) S hM ⟨va_cnB (fn_np mi) hts hG rfl rfl rfl (hN _ hl1) (hts _ hini) hd hRm, hts _ hl2, trivial⟩ ⟨fn_P_blind, hPre⟩ rfl (by simpa using hlen) hls rfl (by simpa [JFrame.monitorRoom] using hcat) hdg ⟨Nat.zero_le _, Nat.zero_le _⟩
  · obtain ⟨hl1, hl2, hl3, hl4⟩ := hrest
    simp only [fn_rk, beq_iff_eq] at hrk
    obtain ⟨q, As, ha, hl, hcell⟩ := rcv "java/lang/StringBuilder" (by omega) (fun h => by omega) (fun h => ⟨_, by rw [hrk]; rfl, rfl⟩)
    have hst := stk q As ha
    subst ha
    exact va_runU (x := (fn_rec mi).1) (owner := (fn_rec mi).1.cls) (ws := fn_cw mi :: fn_tT) (rm := fn_rm d) (b := ad q) (As := As.map (fn_cv ad)) S hM ⟨⟨rfl, rfl, hRm.1, hRm.2, pay_in hts hG, hmem⟩, hts _ hcode, hts _ hini, ⟨hd.1, hd.2.1⟩, hlen1, hts _ hl1, hts _ hl2, va_Decl.of (hts _ hl3) (hts _ hcode), hts _ hl4, hts _ hl3⟩ ⟨fn_P_blind, hcell, hPre⟩ rfl (by simpa using hl) hls hst (by simpa [JFrame.monitorRoom] using hcat) hdg ⟨Nat.zero_le _, Nat.zero_le _⟩
  · obtain ⟨hl1, hl2, hl3, hl4⟩ := hrest
    simp only [fn_rk, beq_iff_eq] at hrk
    obtain ⟨q, As, ha, hl, hcell⟩ := rcv "java/lang/StringBuilder" (by omega) (fun h => by omega) (fun h => ⟨_, by rw [hrk]; rfl, rfl⟩)
    have hst := stk q As ha
    subst ha
    have hat : ClassAt s "java/lang/StringBuilder" (D.1 8) := by
      have h9 := hK.1 8 (fn_C8, fn_F8, _) rfl
      exact ⟨h9.2.1, h9.2.2⟩
    exact va_runSU (ws := fn_cw mi :: fn_tT) (rm := fn_rm d) (b := ad q) (As := As.map (fn_cv ad)) hat S hM ⟨⟨rfl, rfl, hRm.1, hRm.2, pay_in hts hG, hmem⟩, hts _ hl1, hts _ hl2, hts _ hl3, hts _ hl4, hts _ hini, hts _ hcode, fn_mkn hlt, hlen1⟩ ⟨fn_P_blind, hcell, hPre⟩ rfl (by simpa using hl) hls hst (by simpa [JFrame.monitorRoom] using hcat) hdg ⟨Nat.zero_le _, Nat.zero_le _⟩
def fn_kc (b : ByteArray) (oc pc : Nat) (I : fn_I) : Bool := decide (I.2.2.2.1 = pc + 3 ∧ I.2.2.1 = fn_na I.2.1) && (match decode b pc with
  | .ok (.invokevirtual idx, 3) => fn_mlL.any (fun q => q.1 == oc && q.2.1 == idx && q.2.2.2 == I.2.1 && (q.2.2.1 == 0 || q.2.2.1 == 1 || q.2.2.1 == 4))
  | .ok (.invokestatic idx, 3) => fn_mlL.any (fun q => q.1 == oc && q.2.1 == idx && q.2.2.2 == I.2.1 && (q.2.2.1 == 2 || q.2.2.1 == 3))
  | .ok (.invokespecial idx, 3) => fn_mlL.any (fun q => q.1 == oc && q.2.1 == idx && q.2.2.2 == I.2.1 && q.2.2.1 == 5)
  | _ => false)
theorem fn_kc_of (h : fn_kc cc oc pc I = true) : I.2.2.2.1 = pc + 3 ∧ I.2.2.1 = fn_na I.2.1 ∧ ∃ idx kind, (oc, idx, kind, I.2.1) ∈ fn_mlL ∧ decode cc pc = .ok (if kind = 2 ∨ kind = 3 then .invokestatic idx else if kind = 5 then .invokespecial idx else .invokevirtual idx, 3) := by
  unfold fn_kc at h
  rw [Bool.and_eq_true] at h
  obtain ⟨h1, h2⟩ := h
  obtain ⟨e1, e2⟩ := of_decide_eq_true h1
  refine ⟨e1, e2, ?_⟩
  split at h2
  · rename_i idx hd
    obtain ⟨⟨a, b, kd, mi⟩, hq, hz⟩ := List.any_eq_true.mp h2
    simp only [Bool.and_eq_true, beq_iff_eq, Bool.or_eq_true] at hz
    obtain ⟨⟨⟨rfl, rfl⟩, rfl⟩, hz⟩ := hz
    refine ⟨b, kd, hq, ?_⟩
    rw [if_neg (by omega), if_neg (by omega)]
    exact hd
  · rename_i idx hd
    obtain ⟨⟨a, b, kd, mi⟩, hq, hz⟩ := List.any_eq_true.mp h2
    simp only [Bool.and_eq_true, beq_iff_eq, Bool.or_eq_true] at hz
    obtain ⟨⟨⟨rfl, rfl⟩, rfl⟩, hz⟩ := hz
    refine ⟨b, kd, hq, ?_⟩
    rw [if_pos hz]
    exact hd
  · rename_i idx hd
    obtain ⟨⟨a, b, kd, mi⟩, hq, hz⟩ := List.any_eq_true.mp h2
    simp only [Bool.and_eq_true, beq_iff_eq, Bool.or_eq_true] at hz
    obtain ⟨⟨⟨rfl, rfl⟩, rfl⟩, hz⟩ := hz
    refine ⟨b, kd, hq, ?_⟩
    rw [if_neg (by omega), if_pos hz]
    exact hd
  · cases h2
/-- a call, whatever it gives back -/
theorem fs_call {d : Nat} {cf : Nat → List Value → fn_M → Option fn_R} {r1 : fn_R} (C : fn_Cx D dA ad G p s m args meth c cc nL oc rt) (hR : R = fn_rm (d + 1)) (hcf : ∀ mi as x r, cf mi as x = some r → fn_MT l D dA ad G d mi as x r) (hck : fn_kc cc oc pc I = true) (hca : fn_ca G I st = true) (h1 : cf I.2.1 (st.take I.2.2.1).reverse x = some r1)
    (kk : fn_Go D dA ad G p l e R s m args below meth c nL Q I.2.2.2.1 lo (r1.2.toList ++ st.drop I.2.2.1) r1.1) : fn_Go D dA ad G p l e R s m args below meth c nL Q pc lo st x := by
  intro H locs ls hl hP hS
  obtain ⟨e1, e2, idx, kind, hm, hd⟩ := fn_kc_of hck
  unfold fn_ca at hca
  simp only [Bool.and_eq_true] at hca
  obtain ⟨⟨ha1, ha2⟩, ha3⟩ := hca
  replace ha1 := Nat.le_of_ble_eq_true ha1
  have hlen : ((st.take I.2.2.1).reverse).length = fn_na I.2.1 := by
    rw [List.length_reverse, List.length_take, ← e2]
    omega
  have hrun := fs_run (e := e) (below := below) (locs := locs) C hR hm (hcf _ _ _ _ h1) hP hS hl.1 ha3 hlen ha2 hd
  have hst : st.map (fn_cv ad) = (((st.take I.2.2.1).reverse).map (fn_cv ad)).reverse ++ (st.drop I.2.2.1).map (fn_cv ad) := by
    rw [List.map_reverse, List.reverse_reverse, ← List.map_append, List.take_append_drop]
  rw [hst]
  refine fs_back hrun hS (fun H1 locs1 hP1 hS1 => ?_)
  have := kk H1 locs1 ls hl hP1 hS1
  rw [e1, List.map_append] at this
  have hmo : (r1.2.toList).map (fn_cv ad) = (r1.2.map (fn_cv ad)).toList := by cases r1.2 <;> rfl
  rw [hmo] at this
  exact this
theorem fs_o23 {d : Nat} {cf : Nat → List Value → fn_M → Option fn_R} (C : fn_Cx D dA ad G p s m args meth c cc nL oc rt) (hR : R = fn_rm (d + 1)) (hcf : ∀ mi as x r, cf mi as x = some r → fn_MT l D dA ad G d mi as x r) (hck : fn_kc cc oc pc I = true) (hk : ∀ pc lo st x, k pc lo st x = some r → fn_Go D dA ad G p l e R s m args below meth c nL Q pc lo st x) (h : fn_o23 G cf I lo st x k = some r) : fn_Go D dA ad G p l e R s m args below meth c nL Q pc lo st x := by
  unfold fn_o23 at h
  obtain ⟨h1, h2⟩ := fn_ite h
  by_cases hca : fn_ca G I st = true
  · replace h := h1 hca
    unfold fn_bv at h
    split at h
    · rename_i y hy
      exact fs_call C hR hcf hck hca hy (hk _ _ _ _ h)
    · cases h
  · cases h2 hca
theorem fs_o24 {d : Nat} {cf : Nat → List Value → fn_M → Option fn_R} (C : fn_Cx D dA ad G p s m args meth c cc nL oc rt) (hR : R = fn_rm (d + 1)) (hcf : ∀ mi as x r, cf mi as x = some r → fn_MT l D dA ad G d mi as x r) (hck : fn_kc cc oc pc I = true) (hk : ∀ pc lo st x, k pc lo st x = some r → fn_Go D dA ad G p l e R s m args below meth c nL Q pc lo st x) (h : fn_o24 G cf I lo st x k = some r) : fn_Go D dA ad G p l e R s m args below meth c nL Q pc lo st x := by
  unfold fn_o24 at h
  obtain ⟨h1, h2⟩ := fn_ite h
  by_cases hca : fn_ca G I st = true
  · replace h := h1 hca
    unfold fn_bi at h
    split at h
    · rename_i y v hy
      exact fs_call C hR hcf hck hca hy (hk _ _ _ _ h)
    · cases h
  · cases h2 hca
theorem fs_o42 {d : Nat} {cf : Nat → List Value → fn_M → Option fn_R} (C : fn_Cx D dA ad G p s m args meth c cc nL oc rt) (hR : R = fn_rm (d + 1)) (hcf : ∀ mi as x r, cf mi as x = some r → fn_MT l D dA ad G d mi as x r) (hck : fn_kc cc oc pc I = true) (hk : ∀ pc lo st x, k pc lo st x = some r → fn_Go D dA ad G p l e R s m args below meth c nL Q pc lo st x) (h : fn_o42 G cf I lo st x k = some r) : fn_Go D dA ad G p l e R s m args below meth c nL Q pc lo st x := by
  unfold fn_o42 at h
  obtain ⟨h1, h2⟩ := fn_ite h
  by_cases hca : fn_ca G I st = true
  · replace h := h1 hca
    unfold fn_br at h
    split at h
    · rename_i y q hy
      exact fs_call C hR hcf hck hca hy (hk _ _ _ _ h)
    · rename_i y hy
      exact fs_call C hR hcf hck hca hy (hk _ _ _ _ h)
    · cases h
  · cases h2 hca
/-! ===== the whole machine ===== -/
def fn_ck (b : ByteArray) (oc nL : Nat) (rt : Option FieldType) (pc : Nat) (I : fn_I) : Bool := match I.1 with
  | 0 => fn_k0 b pc I
  | 1 => fn_k1 b pc I
  | 2 => fn_k2 b pc I
  | 3 => fn_k3 b nL pc I
  | 4 => fn_k4 b nL pc I
  | 5 => fn_k5 b nL pc I
  | 6 => fn_k6 b pc I
  | 7 => fn_k7 b pc I
  | 8 => fn_k8 b pc I
  | 9 => fn_k9 b pc I
  | 10 => fn_k10 b pc I
  | 11 => fn_k11 b pc I
  | 12 => fn_k12 b pc I
  | 13 => fn_k13 b pc I
  | 14 => fn_k14 b pc I
  | 15 => fn_k15 b pc I
  | 16 => fn_k16 b pc I
  | 17 => fn_k17 b oc pc I
  | 18 => fn_k18 b oc pc I
  | 19 => fn_k19 b pc I
  | 20 => fn_k20 b pc I
  | 21 => fn_k21 b pc I
  | 22 => fn_k22 b pc I
  | 23 => fn_kc b oc pc I
  | 24 => fn_kc b oc pc I
  | 25 => fn_k25 b rt pc I
  | 26 => fn_k26 b rt pc
  | 27 => fn_k27 b rt pc
  | 28 => fn_k28 b pc I
  | 29 => fn_k15 b pc I
  | 30 => fn_k30 b oc pc I
  | 31 => fn_k31 b pc I
  | 32 => fn_k32 b pc I
  | 33 => fn_k33 b pc I
  | 34 => fn_k34 b pc I
  | 35 => fn_k35 b pc I
  | 36 => fn_k36 b pc I
  | 37 => fn_k37 b oc pc I
  | 38 => fn_k38 b oc pc I
  | 39 => fn_k39 b oc pc I
  | 40 => fn_kc b oc pc I
  | _ => true
theorem fs_op {d : Nat} {cf : Nat → List Value → fn_M → Option fn_R} (C : fn_Cx D dA ad G p s m args meth c cc nL oc rt) (hR : R = fn_rm (d + 1)) (hcf : ∀ mi as x r, cf mi as x = some r → fn_MT l D dA ad G d mi as x r) (hck : fn_ck cc oc nL rt pc I = true)
    (hk : ∀ pc lo st x, k pc lo st x = some r → fn_Go D dA ad G p l e R s m args below meth c nL (MQ below (fn_Q D dA ad G r) args s 0 0 (fn_A ad G)) pc lo st x) (h : fn_op G cf I lo st x k = some r) : fn_Go D dA ad G p l e R s m args below meth c nL (MQ below (fn_Q D dA ad G r) args s 0 0 (fn_A ad G)) pc lo st x := by
  unfold fn_op at h
  unfold fn_ck at hck
  have hRm : 1 ≤ R.frames ∧ 8 + (nativeFrameWords "java/lang/System" "arraycopy" 5 + 11) ≤ R.locals := by
    subst hR
    refine ⟨Nat.succ_le_succ (Nat.zero_le _), ?_⟩
    show 8 + (nativeFrameWords "java/lang/System" "arraycopy" 5 + 11) ≤ 30 * (d + 1)
    have : nativeFrameWords "java/lang/System" "arraycopy" 5 = 7 := by decide +kernel
    omega
  split at h
  · rename_i hI
    rw [hI] at hck
    exact fs_o0 C hck hk h
  · rename_i hI
    rw [hI] at hck
    exact fs_o1 C hck hk h
  · rename_i hI
    rw [hI] at hck
    exact fs_o2 C hck hk h
  · rename_i hI
    rw [hI] at hck
    exact fs_o3 C hck hk h
  · rename_i hI
    rw [hI] at hck
    exact fs_o4 C hck hk h
  · rename_i hI
    rw [hI] at hck
    exact fs_o5 C hck hk h
  · rename_i hI
    rw [hI] at hck
    exact fs_o6 C hck hk h
  · rename_i hI
    rw [hI] at hck
    exact fs_o7 C hck hk h
  · rename_i hI
    rw [hI] at hck
    exact fs_o8 C hck hk h
  · rename_i hI
    rw [hI] at hck
    exact fs_o9 C hck hk h
  · rename_i hI
    rw [hI] at hck
    exact fs_o10 C hck hk h
  · rename_i hI
    rw [hI] at hck
    exact fs_o11 C hck hk h
  · rename_i hI
    rw [hI] at hck
    exact fs_o12 C hck hk h
  · rename_i hI
    rw [hI] at hck
    exact fs_o13 C hck hk h
  · rename_i hI
    rw [hI] at hck
    exact fs_o14 C hck hk h
  · rename_i hI
    rw [hI] at hck
    exact fs_o15 C hck hk h
  · rename_i hI
    rw [hI] at hck
    exact fs_o16 C hck hk h
  · rename_i hI
    rw [hI] at hck
    exact fs_o17 C hck hk h
  · rename_i hI
    rw [hI] at hck
    exact fs_o18 C hck hk h
  · rename_i hI
    rw [hI] at hck
    exact fs_o19 C hck hk h
  · rename_i hI
    rw [hI] at hck
    exact fs_o20 C hck hk h
  · rename_i hI
    rw [hI] at hck
    exact fs_o21 C hck hk h
  · rename_i hI
    rw [hI] at hck
    exact fs_o22 C hck hk h
  · rename_i hI
    rw [hI] at hck
    exact fs_o23 C hR hcf hck hk h
  · rename_i hI
    rw [hI] at hck
    exact fs_o24 C hR hcf hck hk h
  · rename_i hI
    rw [hI] at hck
    exact fs_o25 C hck h
  · rename_i hI
    rw [hI] at hck
    exact fs_o26 C hck h
  · rename_i hI
    rw [hI] at hck
    exact fs_o27 C hck h
  · rename_i hI
    rw [hI] at hck
    exact fs_o28 C hck hk h
  · rename_i hI
    rw [hI] at hck
    exact fs_o45 C hck hk h
  · rename_i hI
    rw [hI] at hck
    exact fs_o30 C hck hk h
  · rename_i hI
    rw [hI] at hck
    exact fs_o31 C hck hk h
  · rename_i hI
    rw [hI] at hck
    exact fs_o32 C hck hk h
  · rename_i hI
    rw [hI] at hck
    exact fs_o33 C hck hk h
  · rename_i hI
    rw [hI] at hck
    exact fs_o34 C hck hk h
  · rename_i hI
    rw [hI] at hck
    exact fs_o35 C hck hk h
  · rename_i hI
    rw [hI] at hck
    exact fs_o36 C hck hk h
  · rename_i hI
    rw [hI] at hck
    exact fs_o37 C hck hk h
  · rename_i hI
    rw [hI] at hck
    exact fs_o38 C hRm hck hk h
  · rename_i hI
    rw [hI] at hck
    exact fs_o39 C hck hk h
  · rename_i hI
    rw [hI] at hck
    exact fs_o42 C hR hcf hck hk h
  · cases h
theorem fs_runs {d : Nat} {cf : Nat → List Value → fn_M → Option fn_R} {dc : Nat → fn_I} (C : fn_Cx D dA ad G p s m args meth c cc nL oc rt) (hR : R = fn_rm (d + 1)) (hcf : ∀ mi as x r, cf mi as x = some r → fn_MT l D dA ad G d mi as x r) (hck : ∀ pc, fn_ck cc oc nL rt pc (dc pc) = true) : ∀ (n pc : Nat) (lo : fn_L) (st : List Value) (x : fn_M), fn_run G cf dc n pc lo st x = some r → fn_Go D dA ad G p l e R s m args below meth c nL (MQ below (fn_Q D dA ad G r) args s 0 0 (fn_A ad G)) pc lo st x
  | 0, pc, lo, st, x, h => by cases h
  | n + 1, pc, lo, st, x, h => fs_op C hR hcf (hck pc) (fun pc lo st x h => fs_runs C hR hcf hck n pc lo st x h) h
end FC
/-- a method's start: its arguments in its locals -/
def fn_lo : Nat → List Value → fn_L
  | _, [] => []
  | i, v :: r => (i, v) :: fn_lo (i + 1) r
def fn_cat1 (as : List Value) : Bool := as.all (fun v => v.category == 1)
def fn_ev (G n : Nat) : Nat → Nat → List Value → fn_M → Option fn_R
  | 0, _, _, _ => none
  | d + 1, mi, as, x => if Nat.blt mi fn_NM && Nat.ble as.length (fn_rec mi).2.2.1 && fn_cat1 as then fn_run G (fn_ev G n d) (fn_lk (fn_dL.getD mi [])) n 0 (fn_lo 0 as) [] x else none
theorem fn_lo_args {ad : Nat → Nat} : ∀ (i : Nat) (as : List Value), fn_cat1 as = true → lv_args i (as.map (fn_cv ad)) = (fn_lo i as).map (fun q => (q.1, fn_cv ad q.2))
  | _, [], _ => rfl
  | i, v :: r, h => by
    have h1 : v.category = 1 ∧ fn_cat1 r = true := by simpa [fn_cat1] using h
    show (i, fn_cv ad v) :: lv_args (if (fn_cv ad v).category = 2 then i + 2 else i + 1) (r.map (fn_cv ad)) = (i, fn_cv ad v) :: (fn_lo (i + 1) r).map _
    rw [fn_cv_cat, h1.1, if_neg (by omega), fn_lo_args (i + 1) r h1.2]
theorem fn_sl_len {ad : Nat → Nat} : ∀ (as : List Value), fn_cat1 as = true → (lg_sl (as.map (fn_cv ad))).length = as.length
  | [], _ => rfl
  | v :: r, h => by
    have h1 : v.category = 1 ∧ fn_cat1 r = true := by simpa [fn_cat1] using h
    have ih := fn_sl_len (ad := ad) r h1.2
    unfold lg_sl at ih ⊢
    rw [List.map_cons, List.flatMap_cons, List.length_append, ih, fn_cv_cat, h1.1, if_neg (by omega), List.length_singleton, List.length_cons]
    omega
/-- the contract out of a walk: also where the name isn't plain but has no row of its own -/
theorem fn_ofW {l : Launch} {y : MethodName} {ws ws' : List Jvm.Cond} {rm : Room} {Pc : Array Value → State → Prop} {Qc : Array Value → State → Outcome → State → Prop} {mc ms : Nat} {free : Addr → Prop} {cc : ByteArray} {maxL : Nat} {ret : Option FieldType}
    (hy : plainFor y = true) (hw : ws = Cond.code y cc maxL ret :: ws')
    (body : ∀ p e s m args below meth c s₁, BodyLoose p l y (headSpec ws rm) cc maxL ret e s m args below meth c s₁ → c.maxLocals = maxL → Pc args s →
      W p l e (headSpec ws rm).room s m args below meth c s.heap [] 0 0 (MQ below Qc args s mc ms free) (entryFrame m args maxL)) : Met l y ws rm Pc Qc mc ms free := by
  refine MetFree.of_bodySF (code := cc) (maxLocals := maxL) (ret := ret) hy ?_ ?_
  · intro args s m h hn
    obtain ⟨meth, c, h1, h2, h3, h4, h5, h6, -, -⟩ := Cond.code_spec hn (atoms_spec (ws := ws) h _ (by rw [hw]; exact List.mem_cons_self))
    exact ⟨meth, c, h1, h2, h3, h4, h5, h6⟩
  · intro p e s m args below meth c s₁ B hml hP _
    have hh0 : s₁.heap = s.heap := by rw [B.state]; rfl
    obtain ⟨t, a1, o, b1, b2, b3⟩ := body p e s m args below meth c s₁ B hml hP s₁ hh0 (Stand.of_body B)
    exact ⟨t, o, a1, b1, b2, ⟨b3.1, b3.2⟩⟩
/-- every method's decoded instructions are those of its bytes -/
def fn_all (mi : Nat) : Bool := (fn_dL.getD mi []).all (fun q => fn_ck (fn_rec mi).2.1 (fn_oc mi) (fn_rec mi).2.2.1 (fn_rec mi).2.2.2 q.1 q.2) && fn_on (fn_oc mi) == (fn_rec mi).1.cls
