/-! THE CLAIM OUT OF ONE WALK OF THE LAW'S BODY. Your part is whole_start (and what it stands on); all else here is the same for every law, but numbers. -/
def R_law : String := "FieldNetLaw"
def lw_P (b : Addr) (xs : List Int32) (args : Array Value) (s : State) : Prop := args = #[.ref b] ∧ s.IntsAt b xs ∧ xs.length ≤ 2560 ∧ (Jvm.Cond.and given_1 narrow_1).before args s = true
def lw_Q (_ : Array Value) (s : State) (o : Outcome) (t : State) : Prop := o = .returned (some (.int 1)) ∧ Framed s o t [] 600000 7302250
def lw_Z (below : List Frame) (a : Array Value) (s : State) : State → Prop := fun t => ∃ o, t.status = .running ∧ Ended t below o ∧ lw_Q a s o t
/-- the law's own end, with 1 on the stack, nothing written that was there before, its room as the claim has it -/
theorem lw_ret {p : Program} {l : Launch} {e : Env} {s : State} {m : MethodId} {below : List Frame} {meth : Method} {c : Code} {b : Nat} (hx : p.tables.exec = Jvm.exec) (hb : c.code = code) (hr : meth.sig.returnType = ret) (hlocks : meth.locks = false) {pc : Nat} {H : Heap} {ls : Array Slot} (hdg : decode code pc = .ok (.ireturn, 1)) : W p l e room_1 s m #[Value.ref b] below meth c H [] 600000 7302250 (lw_Z below #[Value.ref b] s) (F0 m pc ls [.int 1]) := by
  intro T hT X
  obtain ⟨fs, hret, hrun, hended, hW, hframe⟩ := X.leave (v := some (.int 1)) (hlocks := hlocks) (fun h => by rw [hr] at h; cases h)
  have hmeth' : T.vm.method? m = some meth := X.method'
  refine ⟨T.setFrames fs, ?_, .returned (some (.int 1)), hrun, hended, rfl, ⟨_, rfl⟩, hW, hframe⟩
  jvm_step X.here [X.here.top, hx, hb, hdg, hmeth', hr, ret, narrow_b1]
  (try refine ⟨rfl, ?_⟩); (try refine ⟨rfl, ?_⟩)
  first | (intro acts; rw [hret _ acts rfl rfl rfl]) | rw [hret _ _ rfl rfl rfl]
  exact Steps.refl _
/-- what holds at the law's entry: the machine, the code, the tables' words (any of lw_tbl by 'hts w (by decide +kernel)'), the script of L ints xs at the cell b, what the Statement gives of the start (any of its parts by flat_of_before) -/
def lw_At (p : Program) (s : State) (m : MethodId) (meth : Method) (c : Code) (b L : Nat) (xs : Nat → Int32) : Prop :=
  p.tables.exec = Jvm.exec ∧ c.code = code ∧ meth.sig.returnType = ret ∧ c.maxLocals = 4 ∧ s.vm.findClass R_law = some m.cls ∧ (∀ w ∈ lw_tbl, w.before #[Value.ref b] s = true) ∧ va_X b L xs s s.heap ∧ b < s.heap.size ∧ meth.locks = false ∧ (Jvm.Cond.and given_1 narrow_1).before #[Value.ref b] s = true
def kw_B (D : va_G) (dA : Nat → ClassId) (p : Program) (s : State) (m : MethodId) (c : Code) (b : Nat) : Prop := p.tables.exec = Jvm.exec ∧ c.code = code ∧ c.maxLocals = 4 ∧ s.vm.findClass "FieldNetLaw" = some m.cls ∧ (∀ w ∈ fn_tT, w.before #[Value.ref b] s = true) ∧ (∀ w ∈ fn_nT, va_Nw w s) ∧ va_K D fn_cl (fn_ty dA) s
abbrev kw_g : Jvm.Cond := Jvm.Cond.and given_1 narrow_1
theorem kw_m1 : (.eq (.static "java/lang/String" "COMPACT_STRINGS" "Z") (.int 1) : Jvm.Cond) ∈ flatC kw_g := by decide +kernel
theorem kw_m2 : (.isRef (.static "jdk/internal/util/Preconditions" "SIOOBE_FORMATTER" "Ljava/util/function/BiFunction;") : Jvm.Cond) ∈ flatC kw_g := by decide +kernel
theorem kw_oa : (.arrayOf (.static "java/lang/Integer" "DigitOnes" "[B") .byte : Jvm.Cond) ∈ flatC kw_g := by decide +kernel
theorem kw_ol : (.eq (.length (.static "java/lang/Integer" "DigitOnes" "[B")) (.int 100) : Jvm.Cond) ∈ flatC kw_g := by decide +kernel
theorem kw_oi : ∀ j, j < 100 → (flatC kw_g)[12 + j]? = some (.eq (.elem (.static "java/lang/Integer" "DigitOnes" "[B") (.int (Int32.ofNat j))) (.int (fn_ones.getD j 0))) := by decide +kernel
theorem kw_oe : ∀ j, j < 100 → (.eq (.elem (.static "java/lang/Integer" "DigitOnes" "[B") (.int (Int32.ofNat j))) (.int (fn_ones.getD j 0)) : Jvm.Cond) ∈ flatC kw_g := fun j hj => List.mem_of_getElem? (kw_oi j hj)
theorem kw_ta : (.arrayOf (.static "java/lang/Integer" "DigitTens" "[B") .byte : Jvm.Cond) ∈ flatC kw_g := by decide +kernel
theorem kw_tl : (.eq (.length (.static "java/lang/Integer" "DigitTens" "[B")) (.int 100) : Jvm.Cond) ∈ flatC kw_g := by decide +kernel
theorem kw_ti : ∀ j, j < 100 → (flatC kw_g)[115 + j]? = some (.eq (.elem (.static "java/lang/Integer" "DigitTens" "[B") (.int (Int32.ofNat j))) (.int (fn_tens.getD j 0))) := by decide +kernel
theorem kw_te : ∀ j, j < 100 → (.eq (.elem (.static "java/lang/Integer" "DigitTens" "[B") (.int (Int32.ofNat j))) (.int (fn_tens.getD j 0)) : Jvm.Cond) ∈ flatC kw_g := fun j hj => List.mem_of_getElem? (kw_ti j hj)
theorem kw_s1 : (.exactly (.string "FieldNet$Node" 42) "java/lang/String" : Jvm.Cond) ∈ flatC kw_g := by decide +kernel
theorem kw_s2 : (.eq (.field (.string "FieldNet$Node" 42) "java/lang/String" "coder" "B") (.int 0) : Jvm.Cond) ∈ flatC kw_g := by decide +kernel
theorem kw_s3 : (.arrayOf (.field (.string "FieldNet$Node" 42) "java/lang/String" "value" "[B") .byte : Jvm.Cond) ∈ flatC kw_g := by decide +kernel
theorem kw_s4 : (.eq (.length (.field (.string "FieldNet$Node" 42) "java/lang/String" "value" "[B")) (.int 5) : Jvm.Cond) ∈ flatC kw_g := by decide +kernel
theorem kw_s5 : ∀ j, j < 5 → (.eq (.elem (.field (.string "FieldNet$Node" 42) "java/lang/String" "value" "[B") (.int (Int32.ofNat j))) (.int (fn_lit.getD j 0)) : Jvm.Cond) ∈ flatC kw_g := by decide +kernel
section KWP
variable {p : Program} {s : State} {m : MethodId} {meth : Method} {c : Code} {b L : Nat} {xs : Nat → Int32}
theorem kw_base (C0 : lw_At p s m meth c b L xs) : ∃ (D : va_G) (dA : Nat → ClassId) (ad : Nat → Nat), kw_B D dA p s m c b ∧ kn_O s ∧ fn_RO ad (fun q => s.heap.size ≤ q) s s.heap := by
  obtain ⟨hx, hb, hr, hml, hown, hts, hX, hbl, hlocks, hgv⟩ := C0
  have hs := flat_of_before _ hgv
  have hA : ∀ a : Nat, a < s.heap.size → ¬ (fun q => s.heap.size ≤ q) a := fun a h1 h2 => absurd h2 (Nat.not_le.mpr h1)
  have hg : ∀ w ∈ lw_tbl.filter goodWord, w.before #[Value.ref b] s = true := fun w hw => hts w (List.mem_filter.mp hw).1
  have hsb : ∃ cC, s.vm.findClass "java/lang/StringBuilder" = some cC := by
    obtain ⟨cC, iS, h⟩ := u_known (ws := lw_tbl) (C := "java/lang/StringBuilder") (T := fn_F8) (N := 0) hts (fun w hw => by cases hw) (hts _ (fn_tm1 (k := 222) rfl))
    exact ⟨cC, h.2.1⟩
  obtain ⟨cSB, hsb⟩ := hsb
  have htT : ∀ w ∈ fn_tT, w.before #[Value.ref b] s = true := fun w hw => by
    rcases List.mem_append.mp (List.mem_filter.mp hw).1 with h | h
    · exact hts w h
    · unfold fn_xs at h
      simp only [List.mem_cons, List.not_mem_nil, or_false] at h
      rcases h with rfl | rfl | rfl
      · exact fn_selp hsb (hts _ (fn_tm5 (k := 227) rfl)) (hts _ (fn_tm2 (k := 25) rfl)) (hts _ (fn_tm2 (k := 26) rfl))
      · exact fn_selp hsb (hts _ (fn_tm5 (k := 231) rfl)) (hts _ (fn_tm2 (k := 125) rfl)) (hts _ (fn_tm2 (k := 126) rfl))
      · exact fn_selp hsb (hts _ (fn_tm5 (k := 232) rfl)) (hts _ (fn_tm2 (k := 129) rfl)) (hts _ (fn_tm2 (k := 130) rfl))
  obtain ⟨c0, i0, k0⟩ := u_known (ws := fn_tT) (C := fn_C0) (T := fn_F0) (N := 13) htT fn_in0 (hts _ (fn_tm1 (k := 106) rfl))
  obtain ⟨c1, i1, k1⟩ := u_known (ws := fn_tT) (C := fn_C1) (T := fn_F1) (N := 5) htT fn_in1 (hts _ (fn_tm1 (k := 36) rfl))
  obtain ⟨c2, i2, k2⟩ := u_known (ws := fn_tT) (C := fn_C2) (T := fn_F2) (N := 5) htT fn_in2 (hts _ (fn_tm1 (k := 100) rfl))
  obtain ⟨c3, i3, k3⟩ := u_known (ws := fn_tT) (C := fn_C3) (T := fn_F3) (N := 8) htT fn_in3 (hts _ (fn_tm1 (k := 159) rfl))
  obtain ⟨c4, i4, k4⟩ := u_known (ws := fn_tT) (C := fn_C4) (T := fn_F4) (N := 12) htT fn_in4 (hts _ (fn_tm1 (k := 216) rfl))
  obtain ⟨c5, i5, k5⟩ := u_known (ws := fn_tT) (C := fn_C5) (T := fn_F5) (N := 7) htT fn_in5 (hts _ (fn_tm1 (k := 29) rfl))
  obtain ⟨c6, i6, k6⟩ := u_known (ws := fn_tT) (C := fn_C6) (T := fn_F6) (N := 3) htT fn_in6 (hts _ (fn_tm1 (k := 21) rfl))
  obtain ⟨c7, i7, k7⟩ := u_known (ws := fn_tT) (C := fn_C7) (T := fn_F7) (N := 42) htT fn_in7 (hts _ (fn_tm4 (k := 139) rfl))
  obtain ⟨c8, i8, k8⟩ := u_known (ws := fn_tT) (C := fn_C8) (T := fn_F8) (N := 4) htT fn_in8 (hts _ (fn_tm1 (k := 222) rfl))
  obtain ⟨a0, A0, p0, a01, a02, a03⟩ := Cond.arrayClass_spec (hts (.arrayClass .int) (fn_tm1 (k := 156) rfl))
  obtain ⟨a1, A1, p1, a11, a12, a13⟩ := Cond.arrayClass_spec (hts (.arrayClass .boolean) (fn_tm5 (k := 31) rfl))
  obtain ⟨a2, A2, p2, a21, a22, a23⟩ := Cond.arrayClass_spec (hts (.arrayClass .byte) (fn_tm2 (k := 12) rfl))
  have o3 := hts (.arrayOver (.object "FieldNet$Frame")) (fn_tm1 (k := 35) rfl)
  obtain ⟨p3, a3, A3, a30, -, a32, a33, a31⟩ := Cond.arrayOver_spec o3
  have o4 := hts (.arrayOver (.object "FieldNet$Member")) (fn_tm1 (k := 158) rfl)
  obtain ⟨p4, a4, A4, a40, -, a42, a43, a41⟩ := Cond.arrayOver_spec o4
  have o5 := hts (.arrayOver (.object "FieldNet$Node")) (fn_tm1 (k := 215) rfl)
  obtain ⟨p5, a5, A5, a50, -, a52, a53, a51⟩ := Cond.arrayOver_spec o5
  have hK : va_K ((fun i => [c0, c1, c2, c3, c4, c5, c6, c7, c8].getD i c0), (fun i => [i0, i1, i2, i3, i4, i5, i6, i7, i8].getD i i0)) fn_cl (fn_ty (fun i => [a0, a1, a2, a3, a4, a5].getD i a0)) s := by
    refine ⟨fun c q hq => ?_, fun k q hq => ?_⟩
    · have hc9 : c < 9 := (List.getElem?_eq_some_iff.mp hq).1
      rcases (by omega : c = 0 ∨ c = 1 ∨ c = 2 ∨ c = 3 ∨ c = 4 ∨ c = 5 ∨ c = 6 ∨ c = 7 ∨ c = 8) with rfl | rfl | rfl | rfl | rfl | rfl | rfl | rfl | rfl
      · cases hq; exact k0
      · cases hq; exact k1
      · cases hq; exact k2
      · cases hq; exact k3
      · cases hq; exact k4
      · cases hq; exact k5
      · cases hq; exact k6
      · cases hq; exact k7
      · cases hq; exact k8
    · have hk6 : k < 6 := (List.getElem?_eq_some_iff.mp hq).1
      rcases (by omega : k = 0 ∨ k = 1 ∨ k = 2 ∨ k = 3 ∨ k = 4 ∨ k = 5) with rfl | rfl | rfl | rfl | rfl | rfl
      · cases hq; exact ⟨fun n z => ⟨(fun k h => by cases h), A0, a02, p0, a03⟩, a01⟩
      · cases hq; exact ⟨fun n z => ⟨(fun k h => by cases h), A1, a12, p1, a13⟩, a11⟩
      · cases hq; exact ⟨fun n z => ⟨(fun k h => by cases h), A2, a22, p2, a23⟩, a21⟩
      · cases hq; exact ⟨fun n z => ⟨(fun k h => by cases h), A3, a32, p3, a33⟩, A3, p3, a32, a33, a30, a31⟩
      · cases hq; exact ⟨fun n z => ⟨(fun k h => by cases h), A4, a42, p4, a43⟩, A4, p4, a42, a43, a40, a41⟩
      · cases hq; exact ⟨fun n z => ⟨(fun k h => by cases h), A5, a52, p5, a53⟩, A5, p5, a52, a53, a50, a51⟩
  have z1 : va_Z "java/lang/String" "COMPACT_STRINGS" "Z" (.int 1) (fun q => s.heap.size ≤ q) s s.heap := va_Zof (hts _ (fn_tm1 (k := 231) rfl)) (hts _ (fn_tm1 (k := 10) rfl)) (va_eqt (hs _ kw_m1)) hA
  obtain ⟨to, eo, To⟩ := va_Tof (tm := .static "java/lang/Integer" "DigitOnes" "[B") (ty := .byte) (N := 100) (f := fun j => .int (fn_ones.getD j 0)) (A := fun q => s.heap.size ≤ q) (by decide) (hs _ kw_oa) (va_eqt (hs _ kw_ol)) (fun j hj => va_eqt (hs _ (kw_oe j hj))) hA
  have Zo : va_Z "java/lang/Integer" "DigitOnes" "[B" (.ref to) (fun q => s.heap.size ≤ q) s s.heap := va_Zref (hts _ (fn_tm2 (k := 172) rfl)) (hts _ (fn_tm1 (k := 18) rfl)) eo hA
  obtain ⟨tt, et, Tt⟩ := va_Tof (tm := .static "java/lang/Integer" "DigitTens" "[B") (ty := .byte) (N := 100) (f := fun j => .int (fn_tens.getD j 0)) (A := fun q => s.heap.size ≤ q) (by decide) (hs _ kw_ta) (va_eqt (hs _ kw_tl)) (fun j hj => va_eqt (hs _ (kw_te j hj))) hA
  have Zt : va_Z "java/lang/Integer" "DigitTens" "[B" (.ref tt) (fun q => s.heap.size ≤ q) s s.heap := va_Zref (hts _ (fn_tm2 (k := 174) rfl)) (hts _ (fn_tm1 (k := 18) rfl)) et hA
  have hz : ∃ n, va_Z "jdk/internal/util/Preconditions" "SIOOBE_FORMATTER" "Ljava/util/function/BiFunction;" (fn_zv n) (fun q => s.heap.size ≤ q) s s.heap := by
    rcases va_Zqof (A := fun q => s.heap.size ≤ q) (hts _ (fn_tm2 (k := 102) rfl)) (hts _ (fn_tm1 (k := 17) rfl)) (hs _ kw_m2) hA with h | ⟨t, h⟩
    · exact ⟨0, h⟩
    · exact ⟨t + 1, h⟩
  obtain ⟨nz, hz⟩ := hz
  obtain ⟨adK, adV, ⟨hS1, -⟩, hev⟩ := vk_Sof (args := #[Value.ref b]) (s := s) (N := 1) (tm := fun _ => .string "FieldNet$Node" 42) (len := [5]) (byt := [fn_lit]) (A := fun q => s.heap.size ≤ q) (by decide) (fun i hi => hs _ kw_s1) (fun i hi => hs _ kw_s2) (fun i hi => hs _ kw_s3) (fun i hi => by
      obtain rfl : i = 0 := by omega
      exact hs _ kw_s4) (fun i hi j hj => by
      obtain rfl : i = 0 := by omega
      exact hs _ (kw_s5 j hj)) (fun i j hi hj hne => absurd (by omega) hne) hA
  have hR : vk_R "FieldNet$Node" fn_lidx "NODE " (adK 0) s := vk_R.of (hts _ (fn_tm2 (k := 77) rfl)) (hev 0 (by decide))
  refine ⟨_, _, (fun q => if q = 1000 then to else if q = 1001 then tt else if q = 1002 then adK 0 else if q = 1003 then adV 0 else if q = 1004 then nz else 0), ⟨hx, hb, hml, hown, htT, fun w hw => ?_, hK⟩, ⟨va_AO.of o3, va_AO.of o4, va_AO.of o5⟩, z1, Zo, Zt, hz, To, Tt, hS1 0 (by decide), hR⟩
  have hw2 := List.mem_filter.mp hw
  have h3 := hts w hw2.1
  revert h3
  cases w <;> first | exact fun h3 => va_Nw.of rfl h3 | (intro _; simp [fn_isN] at hw2)
end KWP
