/-! ===== calls out of the law ===== -/
section KWC
variable {p : Program} {l : Launch} {e : Env} {s : State} {m : MethodId} {below : List Frame} {meth : Method} {c : Code} {b : Nat} {H : Heap} {locs : List Loc} {ls : Array Slot} {rest : List Value} {cells slots : Nat} {Q : State → Prop} {D : va_G} {dA : Nat → ClassId} {ad : Nat → Nat} {G pc : Nat}
theorem kw_ints (as : List Int32) : (as.map Value.int).map (fn_cv ad) = as.map Value.int := by
  rw [List.map_map]
  rfl
theorem kw_call {mi d nn idx ci : Nat} {as : List Int32} {x x' : fn_M} {v : Int32} {wo : va_W} (B : kw_B D dA p s m c b) (had : fn_ad ad G) (hRO : fn_RO ad (fun q => s.heap.size ≤ q) s s.heap) (hge : ∀ q, fn_A ad G q → s.heap.size ≤ q) (hwo : ∀ (k : Nat) (q : Nat × va_E), wo[k]? = some q → ¬ fn_A ad G q.1)
    (hP : va_P D fn_cl (fn_W ad dA G x) H) (hPo : va_P D fn_cl wo H) (hS : va_S (fun q => s.heap.size ≤ q) s.heap H locs) (hls : ls.size = 4) (hev : fn_ev G nn d mi (.ref 0 :: as.map Value.int) x = some (x', some (.int v))) (hd : d ≤ 10) (hlt : mi < fn_NM) (hlc : fn_lc G 0 = ci + 1) {r0 : vw_C} (hcl : fn_cl[ci]? = some r0) (hr0 : r0.1 = (fn_rec mi).1.cls)
    (w1 : Jvm.Cond.code (fn_rec mi).1 (fn_rec mi).2.1 (fn_rec mi).2.2.1 (fn_rec mi).2.2.2 ∈ fn_tT) (w2 : Jvm.Cond.initialized (fn_rec mi).1.cls ∈ fn_tT) (w3 : Jvm.Cond.methodLink "FieldNetLaw" idx (fn_rec mi).1 ∈ fn_tT) (w4 : Jvm.Cond.instanceMethod (fn_rec mi).1 ∈ fn_tT) (w5 : Jvm.Cond.selects (fn_rec mi).1.cls (fn_rec mi).1 (fn_rec mi).1 ∈ fn_tT)
    (hn : as.length = fn_np mi) (hdg : decode code pc = .ok (.invokevirtual idx, 3)) (hrest : (rest.map fun v => v.category).sum ≤ 8)
    (kk : ∀ (H1 : Heap) (locs1 : List Loc), va_P D fn_cl (fn_W ad dA G x') H1 → va_P D fn_cl wo H1 → va_S (fun q => s.heap.size ≤ q) s.heap H1 locs1 → W p l e room_1 s m #[Value.ref b] below meth c H1 locs1 cells slots Q (F0 m (pc + 3) ls (.int v :: rest))) (hcs : cells ≤ 600000 ∧ slots ≤ 7302250) :
    W p l e room_1 s m #[Value.ref b] below meth c H locs cells slots Q (F0 m pc ls ((as.map Value.int).reverse ++ .ref (ad 0) :: rest)) := by
  obtain ⟨hx, hb, hml, hown, hts, hN, hK⟩ := B
  have hM := fn_sound (l := l) (D := D) (dA := dA) had nn d mi _ x _ hev
  have hG : GoodIn fn_tT (fn_cw mi :: fn_tT) := fn_GI w1
  have hmk := fn_mkd hlt
  have hmL := fn_mkl hlt
  have h0 : 0 < fn_NC G := fn_lc_lt (by omega)
  have hRm : (fn_rm d).frames + 1 ≤ room_1.frames ∧ 8 + ((fn_rec mi).2.2.1 + 11) + (fn_rm d).locals ≤ room_1.locals := by
    refine ⟨?_, ?_⟩
    · show d + 1 ≤ 15
      omega
    · show 8 + ((fn_rec mi).2.2.1 + 11) + 30 * d ≤ 572
      omega
  have hcell := va_recv hK hP hcl (q0 := 0) (a := ad 0) (fs := fn_fs ad x ci 0) (by rw [fn_W_at h0, fn_ce_obj hlc])
  rw [hr0] at hcell
  have hrun : va_Run p l e room_1 s m #[Value.ref b] below meth c H locs cells slots 0 0 (F0 m pc ls (((as.map Value.int).map (fn_cv ad)).reverse ++ .ref (ad 0) :: rest)) rest (fn_Q D dA ad G (x', some (.int v)) (Value.ref (ad 0) :: (as.map Value.int).map (fn_cv ad)).toArray) (fn_A ad G) := va_runV (ws := fn_cw mi :: fn_tT) (rm := fn_rm d) (b := ad 0) (As := (as.map Value.int).map (fn_cv ad)) ⟨hx, hb, hml, hown, hts⟩ hM ⟨callB_of (fn_np mi) hts hG rfl rfl rfl (hts _ w2) (hts _ w3) hmk hRm, hts _ w4, hts _ w5⟩ ⟨fn_P_blind, hcell, fun U hU hW => ⟨rfl, by rw [hU]; exact hP, va_K.moved hW.alike hK, fun w hw => fn_nw (List.mem_filter.mp hw).2 hW (hN w hw), (hRO.next hS hU hW).narrow hge⟩⟩ rfl (by simpa using hn) hls rfl (by simpa [JFrame.monitorRoom] using hrest) hdg ⟨hcs.1, hcs.2⟩
  rw [kw_ints] at hrun
  refine kn_back hrun hS hge (fun H1 locs1 hP1 hk1 hS1 => kk H1 locs1 hP1 (hPo.kept (fun k q hq => hk1 q.1 ((hPo k q hq).lt) (hwo k q hq))) hS1)
/-- the state between two steps of the script -/
def kw_St (D : va_G) (dA : Nat → ClassId) (ad0 ad1 : Nat → Nat) (s : State) (t : Nat) (H : Heap) (locs : List Loc) : Prop := ∃ x z c f, va_P D fn_cl (fn_W ad0 dA 0 x) H ∧ va_P D fn_cl (fn_W ad1 dA 1 z) H ∧ va_S (fun q => s.heap.size ≤ q) s.heap H locs ∧ fr_R t c f x z
/-- what never changes -/
def kw_F (D : va_G) (dA : Nat → ClassId) (ad0 ad1 : Nat → Nat) (p : Program) (s : State) (m : MethodId) (meth : Method) (c : Code) (b L : Nat) (xs : Nat → Int32) : Prop := kw_B D dA p s m c b ∧ meth.sig.returnType = ret ∧ meth.locks = false ∧ va_X b L xs s s.heap ∧ b < s.heap.size ∧ L ≤ 2560 ∧ fn_ad ad0 0 ∧ fn_ad ad1 1 ∧ fn_RO ad0 (fun q => s.heap.size ≤ q) s s.heap ∧ fn_RO ad1 (fun q => s.heap.size ≤ q) s s.heap ∧
  (∀ q, fn_A ad0 0 q → s.heap.size ≤ q) ∧ (∀ q, fn_A ad1 1 q → s.heap.size ≤ q) ∧ (∀ q, fn_A ad0 0 q → ¬ fn_A ad1 1 q)
/-- from place pc the law comes to its end, whatever stands in the locals but these -/
def kw_Go (l : Launch) (e : Env) (D : va_G) (dA : Nat → ClassId) (ad0 ad1 : Nat → Nat) (p : Program) (s : State) (m : MethodId) (below : List Frame) (meth : Method) (c : Code) (b : Nat) (cells slots pc i t : Nat) : Prop := ∀ (H : Heap) (locs : List Loc) (ls : Array Slot), lv_has ls 4 [(3, .int (nI i)), (2, .ref (ad1 0)), (1, .ref (ad0 0)), (0, .ref b)] → kw_St D dA ad0 ad1 s t H locs → W p l e room_1 s m #[Value.ref b] below meth c H locs cells slots (lw_Z below #[Value.ref b] s) (F0 m pc ls [])
theorem kw_in {i j L : Nat} (h : i + j < L) (hL : L ≤ 2560) : vp_in (nI (i + j)) L := by
  have := fr_ix (c := i + j) (N := L) h (by omega)
  exact this
end KWC
theorem kl_106 : (.methodLink "FieldNetLaw" 13 (⟨"FieldNet", "power", "(IZ)Z"⟩ : MethodName) : Jvm.Cond) ∈ fn_tT := fn_gd (fn_tm3 (k := 13) rfl) rfl
theorem kl_107 : (.selects "FieldNet" (⟨"FieldNet", "power", "(IZ)Z"⟩ : MethodName) (⟨"FieldNet", "power", "(IZ)Z"⟩ : MethodName) : Jvm.Cond) ∈ fn_tT := fn_gd (fn_tm3 (k := 15) rfl) rfl
theorem kl_108 : (.code (⟨"FieldNet", "power", "(IZ)Z"⟩ : MethodName) prog_1_method_2_code 3 (some .boolean) : Jvm.Cond) ∈ fn_tT := fn_gd (fn_tm3 (k := 16) rfl) rfl
theorem kl_109 : (.initialized "FieldNet" : Jvm.Cond) ∈ fn_tT := fn_gd (fn_tm1 (k := 1) rfl) rfl
theorem kl_110 : (.instanceMethod (⟨"FieldNet", "power", "(IZ)Z"⟩ : MethodName) : Jvm.Cond) ∈ fn_tT := fn_gd (fn_tm3 (k := 14) rfl) rfl
theorem kl_111 : (.methodLink "FieldNetLaw" 17 (⟨"FieldNetModel", "power", "(IZ)Z"⟩ : MethodName) : Jvm.Cond) ∈ fn_tT := fn_gd (fn_tm5 (k := 32) rfl) rfl
theorem kl_112 : (.selects "FieldNetModel" (⟨"FieldNetModel", "power", "(IZ)Z"⟩ : MethodName) (⟨"FieldNetModel", "power", "(IZ)Z"⟩ : MethodName) : Jvm.Cond) ∈ fn_tT := fn_gd (fn_tm5 (k := 34) rfl) rfl
theorem kl_113 : (.code (⟨"FieldNetModel", "power", "(IZ)Z"⟩ : MethodName) prog_9_method_34_code 4 (some .boolean) : Jvm.Cond) ∈ fn_tT := fn_gd (fn_tm5 (k := 35) rfl) rfl
theorem kl_114 : (.initialized "FieldNetModel" : Jvm.Cond) ∈ fn_tT := fn_gd (fn_tm1 (k := 19) rfl) rfl
theorem kl_115 : (.instanceMethod (⟨"FieldNetModel", "power", "(IZ)Z"⟩ : MethodName) : Jvm.Cond) ∈ fn_tT := fn_gd (fn_tm5 (k := 33) rfl) rfl
theorem kl_116 : (.methodLink "FieldNetLaw" 18 (⟨"FieldNet", "identify", "(II)Z"⟩ : MethodName) : Jvm.Cond) ∈ fn_tT := fn_gd (fn_tm3 (k := 40) rfl) rfl
theorem kl_117 : (.selects "FieldNet" (⟨"FieldNet", "identify", "(II)Z"⟩ : MethodName) (⟨"FieldNet", "identify", "(II)Z"⟩ : MethodName) : Jvm.Cond) ∈ fn_tT := fn_gd (fn_tm3 (k := 42) rfl) rfl
theorem kl_118 : (.code (⟨"FieldNet", "identify", "(II)Z"⟩ : MethodName) prog_1_method_3_code 3 (some .boolean) : Jvm.Cond) ∈ fn_tT := fn_gd (fn_tm3 (k := 43) rfl) rfl
theorem kl_119 : (.instanceMethod (⟨"FieldNet", "identify", "(II)Z"⟩ : MethodName) : Jvm.Cond) ∈ fn_tT := fn_gd (fn_tm3 (k := 41) rfl) rfl
theorem kl_120 : (.methodLink "FieldNetLaw" 22 (⟨"FieldNetModel", "identify", "(II)Z"⟩ : MethodName) : Jvm.Cond) ∈ fn_tT := fn_gd (fn_tm5 (k := 51) rfl) rfl
theorem kl_121 : (.selects "FieldNetModel" (⟨"FieldNetModel", "identify", "(II)Z"⟩ : MethodName) (⟨"FieldNetModel", "identify", "(II)Z"⟩ : MethodName) : Jvm.Cond) ∈ fn_tT := fn_gd (fn_tm5 (k := 53) rfl) rfl
theorem kl_122 : (.code (⟨"FieldNetModel", "identify", "(II)Z"⟩ : MethodName) prog_9_method_35_code 3 (some .boolean) : Jvm.Cond) ∈ fn_tT := fn_gd (fn_tm5 (k := 54) rfl) rfl
theorem kl_123 : (.instanceMethod (⟨"FieldNetModel", "identify", "(II)Z"⟩ : MethodName) : Jvm.Cond) ∈ fn_tT := fn_gd (fn_tm5 (k := 52) rfl) rfl
theorem kl_124 : (.methodLink "FieldNetLaw" 23 (⟨"FieldNet", "input", "(III)Z"⟩ : MethodName) : Jvm.Cond) ∈ fn_tT := fn_gd (fn_tm3 (k := 48) rfl) rfl
theorem kl_125 : (.selects "FieldNet" (⟨"FieldNet", "input", "(III)Z"⟩ : MethodName) (⟨"FieldNet", "input", "(III)Z"⟩ : MethodName) : Jvm.Cond) ∈ fn_tT := fn_gd (fn_tm3 (k := 50) rfl) rfl
theorem kl_126 : (.code (⟨"FieldNet", "input", "(III)Z"⟩ : MethodName) prog_1_method_4_code 4 (some .boolean) : Jvm.Cond) ∈ fn_tT := fn_gd (fn_tm3 (k := 51) rfl) rfl
theorem kl_127 : (.instanceMethod (⟨"FieldNet", "input", "(III)Z"⟩ : MethodName) : Jvm.Cond) ∈ fn_tT := fn_gd (fn_tm3 (k := 49) rfl) rfl
theorem kl_128 : (.methodLink "FieldNetLaw" 27 (⟨"FieldNetModel", "input", "(III)Z"⟩ : MethodName) : Jvm.Cond) ∈ fn_tT := fn_gd (fn_tm5 (k := 58) rfl) rfl
theorem kl_129 : (.selects "FieldNetModel" (⟨"FieldNetModel", "input", "(III)Z"⟩ : MethodName) (⟨"FieldNetModel", "input", "(III)Z"⟩ : MethodName) : Jvm.Cond) ∈ fn_tT := fn_gd (fn_tm5 (k := 60) rfl) rfl
theorem kl_130 : (.code (⟨"FieldNetModel", "input", "(III)Z"⟩ : MethodName) prog_9_method_36_code 6 (some .boolean) : Jvm.Cond) ∈ fn_tT := fn_gd (fn_tm5 (k := 61) rfl) rfl
theorem kl_131 : (.instanceMethod (⟨"FieldNetModel", "input", "(III)Z"⟩ : MethodName) : Jvm.Cond) ∈ fn_tT := fn_gd (fn_tm5 (k := 59) rfl) rfl
theorem kl_132 : (.methodLink "FieldNetLaw" 28 (⟨"FieldNet", "fail", "(II)Z"⟩ : MethodName) : Jvm.Cond) ∈ fn_tT := fn_gd (fn_tm3 (k := 87) rfl) rfl
theorem kl_133 : (.selects "FieldNet" (⟨"FieldNet", "fail", "(II)Z"⟩ : MethodName) (⟨"FieldNet", "fail", "(II)Z"⟩ : MethodName) : Jvm.Cond) ∈ fn_tT := fn_gd (fn_tm3 (k := 89) rfl) rfl
theorem kl_134 : (.code (⟨"FieldNet", "fail", "(II)Z"⟩ : MethodName) prog_1_method_5_code 3 (some .boolean) : Jvm.Cond) ∈ fn_tT := fn_gd (fn_tm3 (k := 90) rfl) rfl
theorem kl_135 : (.instanceMethod (⟨"FieldNet", "fail", "(II)Z"⟩ : MethodName) : Jvm.Cond) ∈ fn_tT := fn_gd (fn_tm3 (k := 88) rfl) rfl
theorem kl_136 : (.methodLink "FieldNetLaw" 31 (⟨"FieldNetModel", "fail", "(II)Z"⟩ : MethodName) : Jvm.Cond) ∈ fn_tT := fn_gd (fn_tm5 (k := 74) rfl) rfl
theorem kl_137 : (.selects "FieldNetModel" (⟨"FieldNetModel", "fail", "(II)Z"⟩ : MethodName) (⟨"FieldNetModel", "fail", "(II)Z"⟩ : MethodName) : Jvm.Cond) ∈ fn_tT := fn_gd (fn_tm5 (k := 76) rfl) rfl
theorem kl_138 : (.code (⟨"FieldNetModel", "fail", "(II)Z"⟩ : MethodName) prog_9_method_37_code 3 (some .boolean) : Jvm.Cond) ∈ fn_tT := fn_gd (fn_tm5 (k := 77) rfl) rfl
theorem kl_139 : (.instanceMethod (⟨"FieldNetModel", "fail", "(II)Z"⟩ : MethodName) : Jvm.Cond) ∈ fn_tT := fn_gd (fn_tm5 (k := 75) rfl) rfl
theorem kl_140 : (.methodLink "FieldNetLaw" 32 (⟨"FieldNet", "expect", "(III)Z"⟩ : MethodName) : Jvm.Cond) ∈ fn_tT := fn_gd (fn_tm3 (k := 95) rfl) rfl
theorem kl_141 : (.selects "FieldNet" (⟨"FieldNet", "expect", "(III)Z"⟩ : MethodName) (⟨"FieldNet", "expect", "(III)Z"⟩ : MethodName) : Jvm.Cond) ∈ fn_tT := fn_gd (fn_tm3 (k := 97) rfl) rfl
theorem kl_142 : (.code (⟨"FieldNet", "expect", "(III)Z"⟩ : MethodName) prog_1_method_6_code 4 (some .boolean) : Jvm.Cond) ∈ fn_tT := fn_gd (fn_tm3 (k := 98) rfl) rfl
theorem kl_143 : (.instanceMethod (⟨"FieldNet", "expect", "(III)Z"⟩ : MethodName) : Jvm.Cond) ∈ fn_tT := fn_gd (fn_tm3 (k := 96) rfl) rfl
theorem kl_144 : (.methodLink "FieldNetLaw" 35 (⟨"FieldNetModel", "expect", "(III)Z"⟩ : MethodName) : Jvm.Cond) ∈ fn_tT := fn_gd (fn_tm5 (k := 78) rfl) rfl
theorem kl_145 : (.selects "FieldNetModel" (⟨"FieldNetModel", "expect", "(III)Z"⟩ : MethodName) (⟨"FieldNetModel", "expect", "(III)Z"⟩ : MethodName) : Jvm.Cond) ∈ fn_tT := fn_gd (fn_tm5 (k := 80) rfl) rfl
theorem kl_146 : (.code (⟨"FieldNetModel", "expect", "(III)Z"⟩ : MethodName) prog_9_method_38_code 4 (some .boolean) : Jvm.Cond) ∈ fn_tT := fn_gd (fn_tm5 (k := 81) rfl) rfl
theorem kl_147 : (.instanceMethod (⟨"FieldNetModel", "expect", "(III)Z"⟩ : MethodName) : Jvm.Cond) ∈ fn_tT := fn_gd (fn_tm5 (k := 79) rfl) rfl
theorem kl_148 : (.methodLink "FieldNetLaw" 36 (⟨"FieldNet", "configure", "(III)Z"⟩ : MethodName) : Jvm.Cond) ∈ fn_tT := fn_gd (fn_tm3 (k := 103) rfl) rfl
theorem kl_149 : (.selects "FieldNet" (⟨"FieldNet", "configure", "(III)Z"⟩ : MethodName) (⟨"FieldNet", "configure", "(III)Z"⟩ : MethodName) : Jvm.Cond) ∈ fn_tT := fn_gd (fn_tm3 (k := 105) rfl) rfl
theorem kl_150 : (.code (⟨"FieldNet", "configure", "(III)Z"⟩ : MethodName) prog_1_method_7_code 4 (some .boolean) : Jvm.Cond) ∈ fn_tT := fn_gd (fn_tm3 (k := 106) rfl) rfl
theorem kl_151 : (.instanceMethod (⟨"FieldNet", "configure", "(III)Z"⟩ : MethodName) : Jvm.Cond) ∈ fn_tT := fn_gd (fn_tm3 (k := 104) rfl) rfl
theorem kl_152 : (.methodLink "FieldNetLaw" 39 (⟨"FieldNetModel", "configure", "(III)Z"⟩ : MethodName) : Jvm.Cond) ∈ fn_tT := fn_gd (fn_tm5 (k := 82) rfl) rfl
theorem kl_153 : (.selects "FieldNetModel" (⟨"FieldNetModel", "configure", "(III)Z"⟩ : MethodName) (⟨"FieldNetModel", "configure", "(III)Z"⟩ : MethodName) : Jvm.Cond) ∈ fn_tT := fn_gd (fn_tm5 (k := 84) rfl) rfl
theorem kl_154 : (.code (⟨"FieldNetModel", "configure", "(III)Z"⟩ : MethodName) prog_9_method_39_code 4 (some .boolean) : Jvm.Cond) ∈ fn_tT := fn_gd (fn_tm5 (k := 85) rfl) rfl
theorem kl_155 : (.instanceMethod (⟨"FieldNetModel", "configure", "(III)Z"⟩ : MethodName) : Jvm.Cond) ∈ fn_tT := fn_gd (fn_tm5 (k := 83) rfl) rfl
theorem kl_156 : (.methodLink "FieldNetLaw" 40 (⟨"FieldNet", "transfer", "(IIZI)Z"⟩ : MethodName) : Jvm.Cond) ∈ fn_tT := fn_gd (fn_tm3 (k := 115) rfl) rfl
theorem kl_157 : (.selects "FieldNet" (⟨"FieldNet", "transfer", "(IIZI)Z"⟩ : MethodName) (⟨"FieldNet", "transfer", "(IIZI)Z"⟩ : MethodName) : Jvm.Cond) ∈ fn_tT := fn_gd (fn_tm3 (k := 117) rfl) rfl
theorem kl_158 : (.code (⟨"FieldNet", "transfer", "(IIZI)Z"⟩ : MethodName) prog_1_method_8_code 5 (some .boolean) : Jvm.Cond) ∈ fn_tT := fn_gd (fn_tm3 (k := 118) rfl) rfl
theorem kl_159 : (.instanceMethod (⟨"FieldNet", "transfer", "(IIZI)Z"⟩ : MethodName) : Jvm.Cond) ∈ fn_tT := fn_gd (fn_tm3 (k := 116) rfl) rfl
theorem kl_160 : (.methodLink "FieldNetLaw" 44 (⟨"FieldNetModel", "transfer", "(IIZI)Z"⟩ : MethodName) : Jvm.Cond) ∈ fn_tT := fn_gd (fn_tm5 (k := 86) rfl) rfl
theorem kl_161 : (.selects "FieldNetModel" (⟨"FieldNetModel", "transfer", "(IIZI)Z"⟩ : MethodName) (⟨"FieldNetModel", "transfer", "(IIZI)Z"⟩ : MethodName) : Jvm.Cond) ∈ fn_tT := fn_gd (fn_tm5 (k := 88) rfl) rfl
theorem kl_162 : (.code (⟨"FieldNetModel", "transfer", "(IIZI)Z"⟩ : MethodName) prog_9_method_40_code 5 (some .boolean) : Jvm.Cond) ∈ fn_tT := fn_gd (fn_tm5 (k := 89) rfl) rfl
theorem kl_163 : (.instanceMethod (⟨"FieldNetModel", "transfer", "(IIZI)Z"⟩ : MethodName) : Jvm.Cond) ∈ fn_tT := fn_gd (fn_tm5 (k := 87) rfl) rfl
theorem kl_164 : (.methodLink "FieldNetLaw" 45 (⟨"FieldNet", "sync", "(I)Z"⟩ : MethodName) : Jvm.Cond) ∈ fn_tT := fn_gd (fn_tm3 (k := 136) rfl) rfl
theorem kl_165 : (.selects "FieldNet" (⟨"FieldNet", "sync", "(I)Z"⟩ : MethodName) (⟨"FieldNet", "sync", "(I)Z"⟩ : MethodName) : Jvm.Cond) ∈ fn_tT := fn_gd (fn_tm3 (k := 138) rfl) rfl
theorem kl_166 : (.code (⟨"FieldNet", "sync", "(I)Z"⟩ : MethodName) prog_1_method_9_code 2 (some .boolean) : Jvm.Cond) ∈ fn_tT := fn_gd (fn_tm3 (k := 139) rfl) rfl
theorem kl_167 : (.instanceMethod (⟨"FieldNet", "sync", "(I)Z"⟩ : MethodName) : Jvm.Cond) ∈ fn_tT := fn_gd (fn_tm3 (k := 137) rfl) rfl
theorem kl_168 : (.methodLink "FieldNetLaw" 49 (⟨"FieldNetModel", "sync", "(I)Z"⟩ : MethodName) : Jvm.Cond) ∈ fn_tT := fn_gd (fn_tm5 (k := 98) rfl) rfl
theorem kl_169 : (.selects "FieldNetModel" (⟨"FieldNetModel", "sync", "(I)Z"⟩ : MethodName) (⟨"FieldNetModel", "sync", "(I)Z"⟩ : MethodName) : Jvm.Cond) ∈ fn_tT := fn_gd (fn_tm5 (k := 100) rfl) rfl
theorem kl_170 : (.code (⟨"FieldNetModel", "sync", "(I)Z"⟩ : MethodName) prog_9_method_41_code 2 (some .boolean) : Jvm.Cond) ∈ fn_tT := fn_gd (fn_tm5 (k := 101) rfl) rfl
theorem kl_171 : (.instanceMethod (⟨"FieldNetModel", "sync", "(I)Z"⟩ : MethodName) : Jvm.Cond) ∈ fn_tT := fn_gd (fn_tm5 (k := 99) rfl) rfl
theorem kl_172 : (.methodLink "FieldNetLaw" 50 (⟨"FieldNet", "inject", "(IIII)Z"⟩ : MethodName) : Jvm.Cond) ∈ fn_tT := fn_gd (fn_tm3 (k := 140) rfl) rfl
theorem kl_173 : (.selects "FieldNet" (⟨"FieldNet", "inject", "(IIII)Z"⟩ : MethodName) (⟨"FieldNet", "inject", "(IIII)Z"⟩ : MethodName) : Jvm.Cond) ∈ fn_tT := fn_gd (fn_tm3 (k := 142) rfl) rfl
theorem kl_174 : (.code (⟨"FieldNet", "inject", "(IIII)Z"⟩ : MethodName) prog_1_method_10_code 5 (some .boolean) : Jvm.Cond) ∈ fn_tT := fn_gd (fn_tm3 (k := 143) rfl) rfl
theorem kl_175 : (.instanceMethod (⟨"FieldNet", "inject", "(IIII)Z"⟩ : MethodName) : Jvm.Cond) ∈ fn_tT := fn_gd (fn_tm3 (k := 141) rfl) rfl
theorem kl_176 : (.methodLink "FieldNetLaw" 54 (⟨"FieldNetModel", "inject", "(IIII)Z"⟩ : MethodName) : Jvm.Cond) ∈ fn_tT := fn_gd (fn_tm5 (k := 102) rfl) rfl
theorem kl_177 : (.selects "FieldNetModel" (⟨"FieldNetModel", "inject", "(IIII)Z"⟩ : MethodName) (⟨"FieldNetModel", "inject", "(IIII)Z"⟩ : MethodName) : Jvm.Cond) ∈ fn_tT := fn_gd (fn_tm5 (k := 104) rfl) rfl
theorem kl_178 : (.code (⟨"FieldNetModel", "inject", "(IIII)Z"⟩ : MethodName) prog_9_method_42_code 5 (some .boolean) : Jvm.Cond) ∈ fn_tT := fn_gd (fn_tm5 (k := 105) rfl) rfl
theorem kl_179 : (.instanceMethod (⟨"FieldNetModel", "inject", "(IIII)Z"⟩ : MethodName) : Jvm.Cond) ∈ fn_tT := fn_gd (fn_tm5 (k := 103) rfl) rfl
theorem kl_180 : (.methodLink "FieldNetLaw" 55 (⟨"FieldNet", "disturb", "(I)Z"⟩ : MethodName) : Jvm.Cond) ∈ fn_tT := fn_gd (fn_tm3 (k := 149) rfl) rfl
theorem kl_181 : (.selects "FieldNet" (⟨"FieldNet", "disturb", "(I)Z"⟩ : MethodName) (⟨"FieldNet", "disturb", "(I)Z"⟩ : MethodName) : Jvm.Cond) ∈ fn_tT := fn_gd (fn_tm3 (k := 151) rfl) rfl
theorem kl_182 : (.code (⟨"FieldNet", "disturb", "(I)Z"⟩ : MethodName) prog_1_method_11_code 2 (some .boolean) : Jvm.Cond) ∈ fn_tT := fn_gd (fn_tm3 (k := 152) rfl) rfl
theorem kl_183 : (.instanceMethod (⟨"FieldNet", "disturb", "(I)Z"⟩ : MethodName) : Jvm.Cond) ∈ fn_tT := fn_gd (fn_tm3 (k := 150) rfl) rfl
theorem kl_184 : (.methodLink "FieldNetLaw" 58 (⟨"FieldNetModel", "disturb", "(I)Z"⟩ : MethodName) : Jvm.Cond) ∈ fn_tT := fn_gd (fn_tm5 (k := 106) rfl) rfl
theorem kl_185 : (.selects "FieldNetModel" (⟨"FieldNetModel", "disturb", "(I)Z"⟩ : MethodName) (⟨"FieldNetModel", "disturb", "(I)Z"⟩ : MethodName) : Jvm.Cond) ∈ fn_tT := fn_gd (fn_tm5 (k := 108) rfl) rfl
theorem kl_186 : (.code (⟨"FieldNetModel", "disturb", "(I)Z"⟩ : MethodName) prog_9_method_43_code 2 (some .boolean) : Jvm.Cond) ∈ fn_tT := fn_gd (fn_tm5 (k := 109) rfl) rfl
theorem kl_187 : (.instanceMethod (⟨"FieldNetModel", "disturb", "(I)Z"⟩ : MethodName) : Jvm.Cond) ∈ fn_tT := fn_gd (fn_tm5 (k := 107) rfl) rfl
theorem kl_188 : (.methodLink "FieldNetLaw" 59 (⟨"FieldNet", "tick", "()I"⟩ : MethodName) : Jvm.Cond) ∈ fn_tT := fn_gd (fn_tm3 (k := 153) rfl) rfl
theorem kl_189 : (.selects "FieldNet" (⟨"FieldNet", "tick", "()I"⟩ : MethodName) (⟨"FieldNet", "tick", "()I"⟩ : MethodName) : Jvm.Cond) ∈ fn_tT := fn_gd (fn_tm3 (k := 155) rfl) rfl
theorem kl_190 : (.code (⟨"FieldNet", "tick", "()I"⟩ : MethodName) prog_1_method_12_code 4 (some .int) : Jvm.Cond) ∈ fn_tT := fn_gd (fn_tm3 (k := 156) rfl) rfl
theorem kl_191 : (.instanceMethod (⟨"FieldNet", "tick", "()I"⟩ : MethodName) : Jvm.Cond) ∈ fn_tT := fn_gd (fn_tm3 (k := 154) rfl) rfl
theorem kl_192 : (.methodLink "FieldNetLaw" 63 (⟨"FieldNetModel", "tick", "()I"⟩ : MethodName) : Jvm.Cond) ∈ fn_tT := fn_gd (fn_tm5 (k := 110) rfl) rfl
theorem kl_193 : (.selects "FieldNetModel" (⟨"FieldNetModel", "tick", "()I"⟩ : MethodName) (⟨"FieldNetModel", "tick", "()I"⟩ : MethodName) : Jvm.Cond) ∈ fn_tT := fn_gd (fn_tm5 (k := 112) rfl) rfl
theorem kl_194 : (.code (⟨"FieldNetModel", "tick", "()I"⟩ : MethodName) prog_9_method_44_code 3 (some .int) : Jvm.Cond) ∈ fn_tT := fn_gd (fn_tm5 (k := 113) rfl) rfl
theorem kl_195 : (.instanceMethod (⟨"FieldNetModel", "tick", "()I"⟩ : MethodName) : Jvm.Cond) ∈ fn_tT := fn_gd (fn_tm5 (k := 111) rfl) rfl
theorem kl_196 : (.methodLink "FieldNetLaw" 64 (⟨"FieldNet", "object", "(II)I"⟩ : MethodName) : Jvm.Cond) ∈ fn_tT := fn_gd (fn_tm4 (k := 82) rfl) rfl
theorem kl_197 : (.selects "FieldNet" (⟨"FieldNet", "object", "(II)I"⟩ : MethodName) (⟨"FieldNet", "object", "(II)I"⟩ : MethodName) : Jvm.Cond) ∈ fn_tT := fn_gd (fn_tm4 (k := 84) rfl) rfl
theorem kl_198 : (.code (⟨"FieldNet", "object", "(II)I"⟩ : MethodName) prog_1_method_13_code 3 (some .int) : Jvm.Cond) ∈ fn_tT := fn_gd (fn_tm4 (k := 85) rfl) rfl
theorem kl_199 : (.instanceMethod (⟨"FieldNet", "object", "(II)I"⟩ : MethodName) : Jvm.Cond) ∈ fn_tT := fn_gd (fn_tm4 (k := 83) rfl) rfl
theorem kl_200 : (.methodLink "FieldNetLaw" 68 (⟨"FieldNetModel", "object", "(II)I"⟩ : MethodName) : Jvm.Cond) ∈ fn_tT := fn_gd (fn_tm5 (k := 198) rfl) rfl
theorem kl_201 : (.selects "FieldNetModel" (⟨"FieldNetModel", "object", "(II)I"⟩ : MethodName) (⟨"FieldNetModel", "object", "(II)I"⟩ : MethodName) : Jvm.Cond) ∈ fn_tT := fn_gd (fn_tm5 (k := 200) rfl) rfl
theorem kl_202 : (.code (⟨"FieldNetModel", "object", "(II)I"⟩ : MethodName) prog_9_method_45_code 3 (some .int) : Jvm.Cond) ∈ fn_tT := fn_gd (fn_tm5 (k := 201) rfl) rfl
theorem kl_203 : (.instanceMethod (⟨"FieldNetModel", "object", "(II)I"⟩ : MethodName) : Jvm.Cond) ∈ fn_tT := fn_gd (fn_tm5 (k := 199) rfl) rfl
theorem kl_204 : (.methodLink "FieldNetLaw" 69 (⟨"FieldNet", "state", "(I)I"⟩ : MethodName) : Jvm.Cond) ∈ fn_tT := fn_gd (fn_tm4 (k := 87) rfl) rfl
theorem kl_205 : (.selects "FieldNet" (⟨"FieldNet", "state", "(I)I"⟩ : MethodName) (⟨"FieldNet", "state", "(I)I"⟩ : MethodName) : Jvm.Cond) ∈ fn_tT := fn_gd (fn_tm4 (k := 89) rfl) rfl
theorem kl_206 : (.code (⟨"FieldNet", "state", "(I)I"⟩ : MethodName) prog_1_method_14_code 2 (some .int) : Jvm.Cond) ∈ fn_tT := fn_gd (fn_tm4 (k := 90) rfl) rfl
theorem kl_207 : (.instanceMethod (⟨"FieldNet", "state", "(I)I"⟩ : MethodName) : Jvm.Cond) ∈ fn_tT := fn_gd (fn_tm4 (k := 88) rfl) rfl
theorem kl_208 : (.methodLink "FieldNetLaw" 73 (⟨"FieldNetModel", "state", "(I)I"⟩ : MethodName) : Jvm.Cond) ∈ fn_tT := fn_gd (fn_tm5 (k := 202) rfl) rfl
theorem kl_209 : (.selects "FieldNetModel" (⟨"FieldNetModel", "state", "(I)I"⟩ : MethodName) (⟨"FieldNetModel", "state", "(I)I"⟩ : MethodName) : Jvm.Cond) ∈ fn_tT := fn_gd (fn_tm5 (k := 204) rfl) rfl
theorem kl_210 : (.code (⟨"FieldNetModel", "state", "(I)I"⟩ : MethodName) prog_9_method_46_code 2 (some .int) : Jvm.Cond) ∈ fn_tT := fn_gd (fn_tm5 (k := 205) rfl) rfl
theorem kl_211 : (.instanceMethod (⟨"FieldNetModel", "state", "(I)I"⟩ : MethodName) : Jvm.Cond) ∈ fn_tT := fn_gd (fn_tm5 (k := 203) rfl) rfl
theorem kl_212 : (.methodLink "FieldNetLaw" 74 (⟨"FieldNet", "phase", "(I)I"⟩ : MethodName) : Jvm.Cond) ∈ fn_tT := fn_gd (fn_tm4 (k := 91) rfl) rfl
theorem kl_213 : (.selects "FieldNet" (⟨"FieldNet", "phase", "(I)I"⟩ : MethodName) (⟨"FieldNet", "phase", "(I)I"⟩ : MethodName) : Jvm.Cond) ∈ fn_tT := fn_gd (fn_tm4 (k := 93) rfl) rfl
theorem kl_214 : (.code (⟨"FieldNet", "phase", "(I)I"⟩ : MethodName) prog_1_method_15_code 2 (some .int) : Jvm.Cond) ∈ fn_tT := fn_gd (fn_tm4 (k := 94) rfl) rfl
theorem kl_215 : (.instanceMethod (⟨"FieldNet", "phase", "(I)I"⟩ : MethodName) : Jvm.Cond) ∈ fn_tT := fn_gd (fn_tm4 (k := 92) rfl) rfl
theorem kl_216 : (.methodLink "FieldNetLaw" 77 (⟨"FieldNetModel", "phase", "(I)I"⟩ : MethodName) : Jvm.Cond) ∈ fn_tT := fn_gd (fn_tm5 (k := 206) rfl) rfl
theorem kl_217 : (.selects "FieldNetModel" (⟨"FieldNetModel", "phase", "(I)I"⟩ : MethodName) (⟨"FieldNetModel", "phase", "(I)I"⟩ : MethodName) : Jvm.Cond) ∈ fn_tT := fn_gd (fn_tm5 (k := 208) rfl) rfl
theorem kl_218 : (.code (⟨"FieldNetModel", "phase", "(I)I"⟩ : MethodName) prog_9_method_47_code 2 (some .int) : Jvm.Cond) ∈ fn_tT := fn_gd (fn_tm5 (k := 209) rfl) rfl
theorem kl_219 : (.instanceMethod (⟨"FieldNetModel", "phase", "(I)I"⟩ : MethodName) : Jvm.Cond) ∈ fn_tT := fn_gd (fn_tm5 (k := 207) rfl) rfl
theorem kl_220 : (.methodLink "FieldNetLaw" 78 (⟨"FieldNet", "client", "(I)I"⟩ : MethodName) : Jvm.Cond) ∈ fn_tT := fn_gd (fn_tm4 (k := 95) rfl) rfl
theorem kl_221 : (.selects "FieldNet" (⟨"FieldNet", "client", "(I)I"⟩ : MethodName) (⟨"FieldNet", "client", "(I)I"⟩ : MethodName) : Jvm.Cond) ∈ fn_tT := fn_gd (fn_tm4 (k := 97) rfl) rfl
theorem kl_222 : (.code (⟨"FieldNet", "client", "(I)I"⟩ : MethodName) prog_1_method_16_code 2 (some .int) : Jvm.Cond) ∈ fn_tT := fn_gd (fn_tm4 (k := 98) rfl) rfl
theorem kl_223 : (.instanceMethod (⟨"FieldNet", "client", "(I)I"⟩ : MethodName) : Jvm.Cond) ∈ fn_tT := fn_gd (fn_tm4 (k := 96) rfl) rfl
theorem kl_224 : (.methodLink "FieldNetLaw" 81 (⟨"FieldNetModel", "client", "(I)I"⟩ : MethodName) : Jvm.Cond) ∈ fn_tT := fn_gd (fn_tm5 (k := 210) rfl) rfl
theorem kl_225 : (.selects "FieldNetModel" (⟨"FieldNetModel", "client", "(I)I"⟩ : MethodName) (⟨"FieldNetModel", "client", "(I)I"⟩ : MethodName) : Jvm.Cond) ∈ fn_tT := fn_gd (fn_tm5 (k := 212) rfl) rfl
theorem kl_226 : (.code (⟨"FieldNetModel", "client", "(I)I"⟩ : MethodName) prog_9_method_48_code 2 (some .int) : Jvm.Cond) ∈ fn_tT := fn_gd (fn_tm5 (k := 213) rfl) rfl
theorem kl_227 : (.instanceMethod (⟨"FieldNetModel", "client", "(I)I"⟩ : MethodName) : Jvm.Cond) ∈ fn_tT := fn_gd (fn_tm5 (k := 211) rfl) rfl
theorem kl_228 : (.methodLink "FieldNetLaw" 82 (⟨"FieldNet", "text", "(I)I"⟩ : MethodName) : Jvm.Cond) ∈ fn_tT := fn_gd (fn_tm4 (k := 103) rfl) rfl
theorem kl_229 : (.selects "FieldNet" (⟨"FieldNet", "text", "(I)I"⟩ : MethodName) (⟨"FieldNet", "text", "(I)I"⟩ : MethodName) : Jvm.Cond) ∈ fn_tT := fn_gd (fn_tm4 (k := 105) rfl) rfl
theorem kl_230 : (.code (⟨"FieldNet", "text", "(I)I"⟩ : MethodName) prog_1_method_17_code 2 (some .int) : Jvm.Cond) ∈ fn_tT := fn_gd (fn_tm4 (k := 106) rfl) rfl
theorem kl_231 : (.instanceMethod (⟨"FieldNet", "text", "(I)I"⟩ : MethodName) : Jvm.Cond) ∈ fn_tT := fn_gd (fn_tm4 (k := 104) rfl) rfl
theorem kl_232 : (.methodLink "FieldNetLaw" 85 (⟨"FieldNetModel", "text", "(I)I"⟩ : MethodName) : Jvm.Cond) ∈ fn_tT := fn_gd (fn_tm5 (k := 214) rfl) rfl
theorem kl_233 : (.selects "FieldNetModel" (⟨"FieldNetModel", "text", "(I)I"⟩ : MethodName) (⟨"FieldNetModel", "text", "(I)I"⟩ : MethodName) : Jvm.Cond) ∈ fn_tT := fn_gd (fn_tm5 (k := 216) rfl) rfl
theorem kl_234 : (.code (⟨"FieldNetModel", "text", "(I)I"⟩ : MethodName) prog_9_method_49_code 2 (some .int) : Jvm.Cond) ∈ fn_tT := fn_gd (fn_tm5 (k := 217) rfl) rfl
theorem kl_235 : (.instanceMethod (⟨"FieldNetModel", "text", "(I)I"⟩ : MethodName) : Jvm.Cond) ∈ fn_tT := fn_gd (fn_tm5 (k := 215) rfl) rfl
theorem kl_236 : (.methodLink "FieldNetLaw" 86 (⟨"FieldNet", "report", "(I)I"⟩ : MethodName) : Jvm.Cond) ∈ fn_tT := fn_gd (fn_tm4 (k := 112) rfl) rfl
theorem kl_237 : (.selects "FieldNet" (⟨"FieldNet", "report", "(I)I"⟩ : MethodName) (⟨"FieldNet", "report", "(I)I"⟩ : MethodName) : Jvm.Cond) ∈ fn_tT := fn_gd (fn_tm4 (k := 114) rfl) rfl
theorem kl_238 : (.code (⟨"FieldNet", "report", "(I)I"⟩ : MethodName) prog_1_method_18_code 2 (some .int) : Jvm.Cond) ∈ fn_tT := fn_gd (fn_tm4 (k := 115) rfl) rfl
theorem kl_239 : (.instanceMethod (⟨"FieldNet", "report", "(I)I"⟩ : MethodName) : Jvm.Cond) ∈ fn_tT := fn_gd (fn_tm4 (k := 113) rfl) rfl
theorem kl_240 : (.methodLink "FieldNetLaw" 89 (⟨"FieldNetModel", "report", "(I)I"⟩ : MethodName) : Jvm.Cond) ∈ fn_tT := fn_gd (fn_tm5 (k := 218) rfl) rfl
theorem kl_241 : (.selects "FieldNetModel" (⟨"FieldNetModel", "report", "(I)I"⟩ : MethodName) (⟨"FieldNetModel", "report", "(I)I"⟩ : MethodName) : Jvm.Cond) ∈ fn_tT := fn_gd (fn_tm5 (k := 220) rfl) rfl
theorem kl_242 : (.code (⟨"FieldNetModel", "report", "(I)I"⟩ : MethodName) prog_9_method_50_code 2 (some .int) : Jvm.Cond) ∈ fn_tT := fn_gd (fn_tm5 (k := 221) rfl) rfl
theorem kl_243 : (.instanceMethod (⟨"FieldNetModel", "report", "(I)I"⟩ : MethodName) : Jvm.Cond) ∈ fn_tT := fn_gd (fn_tm5 (k := 219) rfl) rfl
theorem kl_244 : (.methodLink "FieldNetLaw" 90 (⟨"FieldNet", "bus", "(II)I"⟩ : MethodName) : Jvm.Cond) ∈ fn_tT := fn_gd (fn_tm4 (k := 121) rfl) rfl
theorem kl_245 : (.selects "FieldNet" (⟨"FieldNet", "bus", "(II)I"⟩ : MethodName) (⟨"FieldNet", "bus", "(II)I"⟩ : MethodName) : Jvm.Cond) ∈ fn_tT := fn_gd (fn_tm4 (k := 123) rfl) rfl
theorem kl_246 : (.code (⟨"FieldNet", "bus", "(II)I"⟩ : MethodName) prog_1_method_19_code 3 (some .int) : Jvm.Cond) ∈ fn_tT := fn_gd (fn_tm4 (k := 124) rfl) rfl
theorem kl_247 : (.instanceMethod (⟨"FieldNet", "bus", "(II)I"⟩ : MethodName) : Jvm.Cond) ∈ fn_tT := fn_gd (fn_tm4 (k := 122) rfl) rfl
theorem kl_248 : (.methodLink "FieldNetLaw" 93 (⟨"FieldNetModel", "bus", "(II)I"⟩ : MethodName) : Jvm.Cond) ∈ fn_tT := fn_gd (fn_tm5 (k := 222) rfl) rfl
theorem kl_249 : (.selects "FieldNetModel" (⟨"FieldNetModel", "bus", "(II)I"⟩ : MethodName) (⟨"FieldNetModel", "bus", "(II)I"⟩ : MethodName) : Jvm.Cond) ∈ fn_tT := fn_gd (fn_tm5 (k := 224) rfl) rfl
theorem kl_250 : (.code (⟨"FieldNetModel", "bus", "(II)I"⟩ : MethodName) prog_9_method_51_code 3 (some .int) : Jvm.Cond) ∈ fn_tT := fn_gd (fn_tm5 (k := 225) rfl) rfl
theorem kl_251 : (.instanceMethod (⟨"FieldNetModel", "bus", "(II)I"⟩ : MethodName) : Jvm.Cond) ∈ fn_tT := fn_gd (fn_tm5 (k := 223) rfl) rfl
theorem ke_0 : decode code 0 = .ok (.new 7, 3) := by decide +kernel
theorem ke_3 : decode code 3 = .ok (.dup, 1) := by decide +kernel
theorem ke_4 : decode code 4 = .ok (.invokespecial 9, 3) := by decide +kernel
theorem ke_7 : decode code 7 = .ok (.astore_n 1, 1) := by decide +kernel
theorem ke_8 : decode code 8 = .ok (.new 10, 3) := by decide +kernel
theorem ke_11 : decode code 11 = .ok (.dup, 1) := by decide +kernel
theorem ke_12 : decode code 12 = .ok (.invokespecial 12, 3) := by decide +kernel
theorem ke_15 : decode code 15 = .ok (.astore_n 2, 1) := by decide +kernel
theorem ke_16 : decode code 16 = .ok (.iconst 0, 1) := by decide +kernel
theorem ke_17 : decode code 17 = .ok (.istore_n 3, 1) := by decide +kernel
theorem ke_18 : decode code 18 = .ok (.iload_n 3, 1) := by decide +kernel
theorem ke_19 : decode code 19 = .ok (.aload_n 0, 1) := by decide +kernel
theorem ke_20 : decode code 20 = .ok (.arraylength, 1) := by decide +kernel
theorem ke_21 : decode code 21 = .ok (.iconst 5, 1) := by decide +kernel
theorem ke_22 : decode code 22 = .ok (.isub, 1) := by decide +kernel
theorem ke_23 : decode code 23 = .ok (.if_icmp .gt 709, 3) := by decide +kernel
theorem ke_26 : decode code 26 = .ok (.aload_n 0, 1) := by decide +kernel
theorem ke_27 : decode code 27 = .ok (.iload_n 3, 1) := by decide +kernel
theorem ke_28 : decode code 28 = .ok (.iaload, 1) := by decide +kernel
theorem ke_29 : decode code 29 = .ok (.bipush 31, 2) := by decide +kernel
theorem ke_31 : decode code 31 = .ok (.iand, 1) := by decide +kernel
theorem ke_32 : decode code 32 = .ok (.tableswitch 694 0 17 #[88, 137, 170, 213, 246, 289, 332, 401, 424, 477, 500, 513, 546, 569, 592, 615, 638, 661], 88) := by decide +kernel
theorem ke_120 : decode code 120 = .ok (.aload_n 1, 1) := by decide +kernel
theorem ke_121 : decode code 121 = .ok (.aload_n 0, 1) := by decide +kernel
theorem ke_122 : decode code 122 = .ok (.iload_n 3, 1) := by decide +kernel
theorem ke_123 : decode code 123 = .ok (.iconst 1, 1) := by decide +kernel
theorem ke_124 : decode code 124 = .ok (.iadd, 1) := by decide +kernel
theorem ke_125 : decode code 125 = .ok (.iaload, 1) := by decide +kernel
theorem ke_126 : decode code 126 = .ok (.aload_n 0, 1) := by decide +kernel
theorem ke_127 : decode code 127 = .ok (.iload_n 3, 1) := by decide +kernel
theorem ke_128 : decode code 128 = .ok (.iconst 2, 1) := by decide +kernel
theorem ke_129 : decode code 129 = .ok (.iadd, 1) := by decide +kernel
theorem ke_130 : decode code 130 = .ok (.iaload, 1) := by decide +kernel
theorem ke_131 : decode code 131 = .ok (.ifCond .eq 7, 3) := by decide +kernel
theorem ke_134 : decode code 134 = .ok (.iconst 1, 1) := by decide +kernel
theorem ke_135 : decode code 135 = .ok (.goto 4, 3) := by decide +kernel
theorem ke_138 : decode code 138 = .ok (.iconst 0, 1) := by decide +kernel
theorem ke_139 : decode code 139 = .ok (.invokevirtual 13, 3) := by decide +kernel
theorem ke_142 : decode code 142 = .ok (.aload_n 2, 1) := by decide +kernel
theorem ke_143 : decode code 143 = .ok (.aload_n 0, 1) := by decide +kernel
theorem ke_144 : decode code 144 = .ok (.iload_n 3, 1) := by decide +kernel
theorem ke_145 : decode code 145 = .ok (.iconst 1, 1) := by decide +kernel
theorem ke_146 : decode code 146 = .ok (.iadd, 1) := by decide +kernel
theorem ke_147 : decode code 147 = .ok (.iaload, 1) := by decide +kernel
theorem ke_148 : decode code 148 = .ok (.aload_n 0, 1) := by decide +kernel
theorem ke_149 : decode code 149 = .ok (.iload_n 3, 1) := by decide +kernel
theorem ke_150 : decode code 150 = .ok (.iconst 2, 1) := by decide +kernel
theorem ke_151 : decode code 151 = .ok (.iadd, 1) := by decide +kernel
theorem ke_152 : decode code 152 = .ok (.iaload, 1) := by decide +kernel
theorem ke_153 : decode code 153 = .ok (.ifCond .eq 7, 3) := by decide +kernel
theorem ke_156 : decode code 156 = .ok (.iconst 1, 1) := by decide +kernel
theorem ke_157 : decode code 157 = .ok (.goto 4, 3) := by decide +kernel
theorem ke_160 : decode code 160 = .ok (.iconst 0, 1) := by decide +kernel
theorem ke_161 : decode code 161 = .ok (.invokevirtual 17, 3) := by decide +kernel
theorem ke_164 : decode code 164 = .ok (.if_icmp .eq 562, 3) := by decide +kernel
theorem ke_169 : decode code 169 = .ok (.aload_n 1, 1) := by decide +kernel
theorem ke_170 : decode code 170 = .ok (.aload_n 0, 1) := by decide +kernel
theorem ke_171 : decode code 171 = .ok (.iload_n 3, 1) := by decide +kernel
theorem ke_172 : decode code 172 = .ok (.iconst 1, 1) := by decide +kernel
theorem ke_173 : decode code 173 = .ok (.iadd, 1) := by decide +kernel
theorem ke_174 : decode code 174 = .ok (.iaload, 1) := by decide +kernel
theorem ke_175 : decode code 175 = .ok (.aload_n 0, 1) := by decide +kernel
theorem ke_176 : decode code 176 = .ok (.iload_n 3, 1) := by decide +kernel
theorem ke_177 : decode code 177 = .ok (.iconst 2, 1) := by decide +kernel
theorem ke_178 : decode code 178 = .ok (.iadd, 1) := by decide +kernel
theorem ke_179 : decode code 179 = .ok (.iaload, 1) := by decide +kernel
theorem ke_180 : decode code 180 = .ok (.invokevirtual 18, 3) := by decide +kernel
theorem ke_183 : decode code 183 = .ok (.aload_n 2, 1) := by decide +kernel
theorem ke_184 : decode code 184 = .ok (.aload_n 0, 1) := by decide +kernel
theorem ke_185 : decode code 185 = .ok (.iload_n 3, 1) := by decide +kernel
theorem ke_186 : decode code 186 = .ok (.iconst 1, 1) := by decide +kernel
theorem ke_187 : decode code 187 = .ok (.iadd, 1) := by decide +kernel
theorem ke_188 : decode code 188 = .ok (.iaload, 1) := by decide +kernel
theorem ke_189 : decode code 189 = .ok (.aload_n 0, 1) := by decide +kernel
theorem ke_190 : decode code 190 = .ok (.iload_n 3, 1) := by decide +kernel
theorem ke_191 : decode code 191 = .ok (.iconst 2, 1) := by decide +kernel
theorem ke_192 : decode code 192 = .ok (.iadd, 1) := by decide +kernel
theorem ke_193 : decode code 193 = .ok (.iaload, 1) := by decide +kernel
theorem ke_194 : decode code 194 = .ok (.invokevirtual 22, 3) := by decide +kernel
theorem ke_197 : decode code 197 = .ok (.if_icmp .eq 529, 3) := by decide +kernel
theorem ke_202 : decode code 202 = .ok (.aload_n 1, 1) := by decide +kernel
theorem ke_203 : decode code 203 = .ok (.aload_n 0, 1) := by decide +kernel
theorem ke_204 : decode code 204 = .ok (.iload_n 3, 1) := by decide +kernel
theorem ke_205 : decode code 205 = .ok (.iconst 1, 1) := by decide +kernel
theorem ke_206 : decode code 206 = .ok (.iadd, 1) := by decide +kernel
theorem ke_207 : decode code 207 = .ok (.iaload, 1) := by decide +kernel
theorem ke_208 : decode code 208 = .ok (.aload_n 0, 1) := by decide +kernel
theorem ke_209 : decode code 209 = .ok (.iload_n 3, 1) := by decide +kernel
theorem ke_210 : decode code 210 = .ok (.iconst 2, 1) := by decide +kernel
theorem ke_211 : decode code 211 = .ok (.iadd, 1) := by decide +kernel
theorem ke_212 : decode code 212 = .ok (.iaload, 1) := by decide +kernel
theorem ke_213 : decode code 213 = .ok (.aload_n 0, 1) := by decide +kernel
theorem ke_214 : decode code 214 = .ok (.iload_n 3, 1) := by decide +kernel
theorem ke_215 : decode code 215 = .ok (.iconst 3, 1) := by decide +kernel
theorem ke_216 : decode code 216 = .ok (.iadd, 1) := by decide +kernel
theorem ke_217 : decode code 217 = .ok (.iaload, 1) := by decide +kernel
theorem ke_218 : decode code 218 = .ok (.invokevirtual 23, 3) := by decide +kernel
theorem ke_221 : decode code 221 = .ok (.aload_n 2, 1) := by decide +kernel
theorem ke_222 : decode code 222 = .ok (.aload_n 0, 1) := by decide +kernel
theorem ke_223 : decode code 223 = .ok (.iload_n 3, 1) := by decide +kernel
theorem ke_224 : decode code 224 = .ok (.iconst 1, 1) := by decide +kernel
theorem ke_225 : decode code 225 = .ok (.iadd, 1) := by decide +kernel
theorem ke_226 : decode code 226 = .ok (.iaload, 1) := by decide +kernel
theorem ke_227 : decode code 227 = .ok (.aload_n 0, 1) := by decide +kernel
theorem ke_228 : decode code 228 = .ok (.iload_n 3, 1) := by decide +kernel
theorem ke_229 : decode code 229 = .ok (.iconst 2, 1) := by decide +kernel
theorem ke_230 : decode code 230 = .ok (.iadd, 1) := by decide +kernel
theorem ke_231 : decode code 231 = .ok (.iaload, 1) := by decide +kernel
theorem ke_232 : decode code 232 = .ok (.aload_n 0, 1) := by decide +kernel
theorem ke_233 : decode code 233 = .ok (.iload_n 3, 1) := by decide +kernel
theorem ke_234 : decode code 234 = .ok (.iconst 3, 1) := by decide +kernel
theorem ke_235 : decode code 235 = .ok (.iadd, 1) := by decide +kernel
theorem ke_236 : decode code 236 = .ok (.iaload, 1) := by decide +kernel
theorem ke_237 : decode code 237 = .ok (.invokevirtual 27, 3) := by decide +kernel
theorem ke_240 : decode code 240 = .ok (.if_icmp .eq 486, 3) := by decide +kernel
theorem ke_245 : decode code 245 = .ok (.aload_n 1, 1) := by decide +kernel
theorem ke_246 : decode code 246 = .ok (.aload_n 0, 1) := by decide +kernel
theorem ke_247 : decode code 247 = .ok (.iload_n 3, 1) := by decide +kernel
theorem ke_248 : decode code 248 = .ok (.iconst 1, 1) := by decide +kernel
theorem ke_249 : decode code 249 = .ok (.iadd, 1) := by decide +kernel
theorem ke_250 : decode code 250 = .ok (.iaload, 1) := by decide +kernel
theorem ke_251 : decode code 251 = .ok (.aload_n 0, 1) := by decide +kernel
theorem ke_252 : decode code 252 = .ok (.iload_n 3, 1) := by decide +kernel
theorem ke_253 : decode code 253 = .ok (.iconst 2, 1) := by decide +kernel
theorem ke_254 : decode code 254 = .ok (.iadd, 1) := by decide +kernel
theorem ke_255 : decode code 255 = .ok (.iaload, 1) := by decide +kernel
theorem ke_256 : decode code 256 = .ok (.invokevirtual 28, 3) := by decide +kernel
theorem ke_259 : decode code 259 = .ok (.aload_n 2, 1) := by decide +kernel
theorem ke_260 : decode code 260 = .ok (.aload_n 0, 1) := by decide +kernel
theorem ke_261 : decode code 261 = .ok (.iload_n 3, 1) := by decide +kernel
theorem ke_262 : decode code 262 = .ok (.iconst 1, 1) := by decide +kernel
theorem ke_263 : decode code 263 = .ok (.iadd, 1) := by decide +kernel
theorem ke_264 : decode code 264 = .ok (.iaload, 1) := by decide +kernel
theorem ke_265 : decode code 265 = .ok (.aload_n 0, 1) := by decide +kernel
theorem ke_266 : decode code 266 = .ok (.iload_n 3, 1) := by decide +kernel
theorem ke_267 : decode code 267 = .ok (.iconst 2, 1) := by decide +kernel
theorem ke_268 : decode code 268 = .ok (.iadd, 1) := by decide +kernel
theorem ke_269 : decode code 269 = .ok (.iaload, 1) := by decide +kernel
theorem ke_270 : decode code 270 = .ok (.invokevirtual 31, 3) := by decide +kernel
theorem ke_273 : decode code 273 = .ok (.if_icmp .eq 453, 3) := by decide +kernel
theorem ke_278 : decode code 278 = .ok (.aload_n 1, 1) := by decide +kernel
theorem ke_279 : decode code 279 = .ok (.aload_n 0, 1) := by decide +kernel
theorem ke_280 : decode code 280 = .ok (.iload_n 3, 1) := by decide +kernel
theorem ke_281 : decode code 281 = .ok (.iconst 1, 1) := by decide +kernel
theorem ke_282 : decode code 282 = .ok (.iadd, 1) := by decide +kernel
theorem ke_283 : decode code 283 = .ok (.iaload, 1) := by decide +kernel
theorem ke_284 : decode code 284 = .ok (.aload_n 0, 1) := by decide +kernel
theorem ke_285 : decode code 285 = .ok (.iload_n 3, 1) := by decide +kernel
theorem ke_286 : decode code 286 = .ok (.iconst 2, 1) := by decide +kernel
theorem ke_287 : decode code 287 = .ok (.iadd, 1) := by decide +kernel
theorem ke_288 : decode code 288 = .ok (.iaload, 1) := by decide +kernel
theorem ke_289 : decode code 289 = .ok (.aload_n 0, 1) := by decide +kernel
theorem ke_290 : decode code 290 = .ok (.iload_n 3, 1) := by decide +kernel
theorem ke_291 : decode code 291 = .ok (.iconst 3, 1) := by decide +kernel
theorem ke_292 : decode code 292 = .ok (.iadd, 1) := by decide +kernel
theorem ke_293 : decode code 293 = .ok (.iaload, 1) := by decide +kernel
theorem ke_294 : decode code 294 = .ok (.invokevirtual 32, 3) := by decide +kernel
theorem ke_297 : decode code 297 = .ok (.aload_n 2, 1) := by decide +kernel
theorem ke_298 : decode code 298 = .ok (.aload_n 0, 1) := by decide +kernel
theorem ke_299 : decode code 299 = .ok (.iload_n 3, 1) := by decide +kernel
theorem ke_300 : decode code 300 = .ok (.iconst 1, 1) := by decide +kernel
theorem ke_301 : decode code 301 = .ok (.iadd, 1) := by decide +kernel
theorem ke_302 : decode code 302 = .ok (.iaload, 1) := by decide +kernel
theorem ke_303 : decode code 303 = .ok (.aload_n 0, 1) := by decide +kernel
theorem ke_304 : decode code 304 = .ok (.iload_n 3, 1) := by decide +kernel
theorem ke_305 : decode code 305 = .ok (.iconst 2, 1) := by decide +kernel
theorem ke_306 : decode code 306 = .ok (.iadd, 1) := by decide +kernel
theorem ke_307 : decode code 307 = .ok (.iaload, 1) := by decide +kernel
theorem ke_308 : decode code 308 = .ok (.aload_n 0, 1) := by decide +kernel
theorem ke_309 : decode code 309 = .ok (.iload_n 3, 1) := by decide +kernel
theorem ke_310 : decode code 310 = .ok (.iconst 3, 1) := by decide +kernel
theorem ke_311 : decode code 311 = .ok (.iadd, 1) := by decide +kernel
theorem ke_312 : decode code 312 = .ok (.iaload, 1) := by decide +kernel
theorem ke_313 : decode code 313 = .ok (.invokevirtual 35, 3) := by decide +kernel
theorem ke_316 : decode code 316 = .ok (.if_icmp .eq 410, 3) := by decide +kernel
theorem ke_321 : decode code 321 = .ok (.aload_n 1, 1) := by decide +kernel
theorem ke_322 : decode code 322 = .ok (.aload_n 0, 1) := by decide +kernel
theorem ke_323 : decode code 323 = .ok (.iload_n 3, 1) := by decide +kernel
theorem ke_324 : decode code 324 = .ok (.iconst 1, 1) := by decide +kernel
theorem ke_325 : decode code 325 = .ok (.iadd, 1) := by decide +kernel
theorem ke_326 : decode code 326 = .ok (.iaload, 1) := by decide +kernel
theorem ke_327 : decode code 327 = .ok (.aload_n 0, 1) := by decide +kernel
theorem ke_328 : decode code 328 = .ok (.iload_n 3, 1) := by decide +kernel
theorem ke_329 : decode code 329 = .ok (.iconst 2, 1) := by decide +kernel
theorem ke_330 : decode code 330 = .ok (.iadd, 1) := by decide +kernel
theorem ke_331 : decode code 331 = .ok (.iaload, 1) := by decide +kernel
theorem ke_332 : decode code 332 = .ok (.aload_n 0, 1) := by decide +kernel
theorem ke_333 : decode code 333 = .ok (.iload_n 3, 1) := by decide +kernel
theorem ke_334 : decode code 334 = .ok (.iconst 3, 1) := by decide +kernel
theorem ke_335 : decode code 335 = .ok (.iadd, 1) := by decide +kernel
theorem ke_336 : decode code 336 = .ok (.iaload, 1) := by decide +kernel
theorem ke_337 : decode code 337 = .ok (.invokevirtual 36, 3) := by decide +kernel
theorem ke_340 : decode code 340 = .ok (.aload_n 2, 1) := by decide +kernel
theorem ke_341 : decode code 341 = .ok (.aload_n 0, 1) := by decide +kernel
theorem ke_342 : decode code 342 = .ok (.iload_n 3, 1) := by decide +kernel
theorem ke_343 : decode code 343 = .ok (.iconst 1, 1) := by decide +kernel
theorem ke_344 : decode code 344 = .ok (.iadd, 1) := by decide +kernel
theorem ke_345 : decode code 345 = .ok (.iaload, 1) := by decide +kernel
theorem ke_346 : decode code 346 = .ok (.aload_n 0, 1) := by decide +kernel
theorem ke_347 : decode code 347 = .ok (.iload_n 3, 1) := by decide +kernel
theorem ke_348 : decode code 348 = .ok (.iconst 2, 1) := by decide +kernel
theorem ke_349 : decode code 349 = .ok (.iadd, 1) := by decide +kernel
theorem ke_350 : decode code 350 = .ok (.iaload, 1) := by decide +kernel
theorem ke_351 : decode code 351 = .ok (.aload_n 0, 1) := by decide +kernel
theorem ke_352 : decode code 352 = .ok (.iload_n 3, 1) := by decide +kernel
theorem ke_353 : decode code 353 = .ok (.iconst 3, 1) := by decide +kernel
theorem ke_354 : decode code 354 = .ok (.iadd, 1) := by decide +kernel
theorem ke_355 : decode code 355 = .ok (.iaload, 1) := by decide +kernel
theorem ke_356 : decode code 356 = .ok (.invokevirtual 39, 3) := by decide +kernel
theorem ke_359 : decode code 359 = .ok (.if_icmp .eq 367, 3) := by decide +kernel
theorem ke_364 : decode code 364 = .ok (.aload_n 1, 1) := by decide +kernel
theorem ke_365 : decode code 365 = .ok (.aload_n 0, 1) := by decide +kernel
theorem ke_366 : decode code 366 = .ok (.iload_n 3, 1) := by decide +kernel
theorem ke_367 : decode code 367 = .ok (.iconst 1, 1) := by decide +kernel
theorem ke_368 : decode code 368 = .ok (.iadd, 1) := by decide +kernel
theorem ke_369 : decode code 369 = .ok (.iaload, 1) := by decide +kernel
theorem ke_370 : decode code 370 = .ok (.aload_n 0, 1) := by decide +kernel
theorem ke_371 : decode code 371 = .ok (.iload_n 3, 1) := by decide +kernel
theorem ke_372 : decode code 372 = .ok (.iconst 2, 1) := by decide +kernel
theorem ke_373 : decode code 373 = .ok (.iadd, 1) := by decide +kernel
theorem ke_374 : decode code 374 = .ok (.iaload, 1) := by decide +kernel
theorem ke_375 : decode code 375 = .ok (.aload_n 0, 1) := by decide +kernel
theorem ke_376 : decode code 376 = .ok (.iload_n 3, 1) := by decide +kernel
theorem ke_377 : decode code 377 = .ok (.iconst 3, 1) := by decide +kernel
theorem ke_378 : decode code 378 = .ok (.iadd, 1) := by decide +kernel
theorem ke_379 : decode code 379 = .ok (.iaload, 1) := by decide +kernel
theorem ke_380 : decode code 380 = .ok (.ifCond .eq 7, 3) := by decide +kernel
theorem ke_383 : decode code 383 = .ok (.iconst 1, 1) := by decide +kernel
theorem ke_384 : decode code 384 = .ok (.goto 4, 3) := by decide +kernel
theorem ke_387 : decode code 387 = .ok (.iconst 0, 1) := by decide +kernel
theorem ke_388 : decode code 388 = .ok (.aload_n 0, 1) := by decide +kernel
theorem ke_389 : decode code 389 = .ok (.iload_n 3, 1) := by decide +kernel
theorem ke_390 : decode code 390 = .ok (.iconst 4, 1) := by decide +kernel
theorem ke_391 : decode code 391 = .ok (.iadd, 1) := by decide +kernel
theorem ke_392 : decode code 392 = .ok (.iaload, 1) := by decide +kernel
theorem ke_393 : decode code 393 = .ok (.invokevirtual 40, 3) := by decide +kernel
theorem ke_396 : decode code 396 = .ok (.aload_n 2, 1) := by decide +kernel
theorem ke_397 : decode code 397 = .ok (.aload_n 0, 1) := by decide +kernel
theorem ke_398 : decode code 398 = .ok (.iload_n 3, 1) := by decide +kernel
theorem ke_399 : decode code 399 = .ok (.iconst 1, 1) := by decide +kernel
theorem ke_400 : decode code 400 = .ok (.iadd, 1) := by decide +kernel
theorem ke_401 : decode code 401 = .ok (.iaload, 1) := by decide +kernel
theorem ke_402 : decode code 402 = .ok (.aload_n 0, 1) := by decide +kernel
theorem ke_403 : decode code 403 = .ok (.iload_n 3, 1) := by decide +kernel
theorem ke_404 : decode code 404 = .ok (.iconst 2, 1) := by decide +kernel
theorem ke_405 : decode code 405 = .ok (.iadd, 1) := by decide +kernel
theorem ke_406 : decode code 406 = .ok (.iaload, 1) := by decide +kernel
theorem ke_407 : decode code 407 = .ok (.aload_n 0, 1) := by decide +kernel
theorem ke_408 : decode code 408 = .ok (.iload_n 3, 1) := by decide +kernel
theorem ke_409 : decode code 409 = .ok (.iconst 3, 1) := by decide +kernel
theorem ke_410 : decode code 410 = .ok (.iadd, 1) := by decide +kernel
theorem ke_411 : decode code 411 = .ok (.iaload, 1) := by decide +kernel
theorem ke_412 : decode code 412 = .ok (.ifCond .eq 7, 3) := by decide +kernel
theorem ke_415 : decode code 415 = .ok (.iconst 1, 1) := by decide +kernel
theorem ke_416 : decode code 416 = .ok (.goto 4, 3) := by decide +kernel
theorem ke_419 : decode code 419 = .ok (.iconst 0, 1) := by decide +kernel
theorem ke_420 : decode code 420 = .ok (.aload_n 0, 1) := by decide +kernel
theorem ke_421 : decode code 421 = .ok (.iload_n 3, 1) := by decide +kernel
theorem ke_422 : decode code 422 = .ok (.iconst 4, 1) := by decide +kernel
theorem ke_423 : decode code 423 = .ok (.iadd, 1) := by decide +kernel
theorem ke_424 : decode code 424 = .ok (.iaload, 1) := by decide +kernel
theorem ke_425 : decode code 425 = .ok (.invokevirtual 44, 3) := by decide +kernel
theorem ke_428 : decode code 428 = .ok (.if_icmp .eq 298, 3) := by decide +kernel
theorem ke_433 : decode code 433 = .ok (.aload_n 1, 1) := by decide +kernel
theorem ke_434 : decode code 434 = .ok (.aload_n 0, 1) := by decide +kernel
theorem ke_435 : decode code 435 = .ok (.iload_n 3, 1) := by decide +kernel
theorem ke_436 : decode code 436 = .ok (.iconst 1, 1) := by decide +kernel
theorem ke_437 : decode code 437 = .ok (.iadd, 1) := by decide +kernel
theorem ke_438 : decode code 438 = .ok (.iaload, 1) := by decide +kernel
theorem ke_439 : decode code 439 = .ok (.invokevirtual 45, 3) := by decide +kernel
theorem ke_442 : decode code 442 = .ok (.aload_n 2, 1) := by decide +kernel
theorem ke_443 : decode code 443 = .ok (.aload_n 0, 1) := by decide +kernel
theorem ke_444 : decode code 444 = .ok (.iload_n 3, 1) := by decide +kernel
theorem ke_445 : decode code 445 = .ok (.iconst 1, 1) := by decide +kernel
theorem ke_446 : decode code 446 = .ok (.iadd, 1) := by decide +kernel
theorem ke_447 : decode code 447 = .ok (.iaload, 1) := by decide +kernel
theorem ke_448 : decode code 448 = .ok (.invokevirtual 49, 3) := by decide +kernel
theorem ke_451 : decode code 451 = .ok (.if_icmp .eq 275, 3) := by decide +kernel
theorem ke_456 : decode code 456 = .ok (.aload_n 1, 1) := by decide +kernel
theorem ke_457 : decode code 457 = .ok (.aload_n 0, 1) := by decide +kernel
theorem ke_458 : decode code 458 = .ok (.iload_n 3, 1) := by decide +kernel
theorem ke_459 : decode code 459 = .ok (.iconst 1, 1) := by decide +kernel
theorem ke_460 : decode code 460 = .ok (.iadd, 1) := by decide +kernel
theorem ke_461 : decode code 461 = .ok (.iaload, 1) := by decide +kernel
theorem ke_462 : decode code 462 = .ok (.aload_n 0, 1) := by decide +kernel
theorem ke_463 : decode code 463 = .ok (.iload_n 3, 1) := by decide +kernel
theorem ke_464 : decode code 464 = .ok (.iconst 2, 1) := by decide +kernel
theorem ke_465 : decode code 465 = .ok (.iadd, 1) := by decide +kernel
theorem ke_466 : decode code 466 = .ok (.iaload, 1) := by decide +kernel
theorem ke_467 : decode code 467 = .ok (.aload_n 0, 1) := by decide +kernel
theorem ke_468 : decode code 468 = .ok (.iload_n 3, 1) := by decide +kernel
theorem ke_469 : decode code 469 = .ok (.iconst 3, 1) := by decide +kernel
theorem ke_470 : decode code 470 = .ok (.iadd, 1) := by decide +kernel
theorem ke_471 : decode code 471 = .ok (.iaload, 1) := by decide +kernel
theorem ke_472 : decode code 472 = .ok (.aload_n 0, 1) := by decide +kernel
theorem ke_473 : decode code 473 = .ok (.iload_n 3, 1) := by decide +kernel
theorem ke_474 : decode code 474 = .ok (.iconst 4, 1) := by decide +kernel
theorem ke_475 : decode code 475 = .ok (.iadd, 1) := by decide +kernel
theorem ke_476 : decode code 476 = .ok (.iaload, 1) := by decide +kernel
theorem ke_477 : decode code 477 = .ok (.invokevirtual 50, 3) := by decide +kernel
theorem ke_480 : decode code 480 = .ok (.aload_n 2, 1) := by decide +kernel
theorem ke_481 : decode code 481 = .ok (.aload_n 0, 1) := by decide +kernel
theorem ke_482 : decode code 482 = .ok (.iload_n 3, 1) := by decide +kernel
theorem ke_483 : decode code 483 = .ok (.iconst 1, 1) := by decide +kernel
theorem ke_484 : decode code 484 = .ok (.iadd, 1) := by decide +kernel
theorem ke_485 : decode code 485 = .ok (.iaload, 1) := by decide +kernel
theorem ke_486 : decode code 486 = .ok (.aload_n 0, 1) := by decide +kernel
theorem ke_487 : decode code 487 = .ok (.iload_n 3, 1) := by decide +kernel
theorem ke_488 : decode code 488 = .ok (.iconst 2, 1) := by decide +kernel
theorem ke_489 : decode code 489 = .ok (.iadd, 1) := by decide +kernel
theorem ke_490 : decode code 490 = .ok (.iaload, 1) := by decide +kernel
theorem ke_491 : decode code 491 = .ok (.aload_n 0, 1) := by decide +kernel
theorem ke_492 : decode code 492 = .ok (.iload_n 3, 1) := by decide +kernel
theorem ke_493 : decode code 493 = .ok (.iconst 3, 1) := by decide +kernel
theorem ke_494 : decode code 494 = .ok (.iadd, 1) := by decide +kernel
theorem ke_495 : decode code 495 = .ok (.iaload, 1) := by decide +kernel
theorem ke_496 : decode code 496 = .ok (.aload_n 0, 1) := by decide +kernel
theorem ke_497 : decode code 497 = .ok (.iload_n 3, 1) := by decide +kernel
theorem ke_498 : decode code 498 = .ok (.iconst 4, 1) := by decide +kernel
theorem ke_499 : decode code 499 = .ok (.iadd, 1) := by decide +kernel
theorem ke_500 : decode code 500 = .ok (.iaload, 1) := by decide +kernel
theorem ke_501 : decode code 501 = .ok (.invokevirtual 54, 3) := by decide +kernel
theorem ke_504 : decode code 504 = .ok (.if_icmp .eq 222, 3) := by decide +kernel
theorem ke_509 : decode code 509 = .ok (.aload_n 1, 1) := by decide +kernel
theorem ke_510 : decode code 510 = .ok (.aload_n 0, 1) := by decide +kernel
theorem ke_511 : decode code 511 = .ok (.iload_n 3, 1) := by decide +kernel
theorem ke_512 : decode code 512 = .ok (.iconst 1, 1) := by decide +kernel
theorem ke_513 : decode code 513 = .ok (.iadd, 1) := by decide +kernel
theorem ke_514 : decode code 514 = .ok (.iaload, 1) := by decide +kernel
theorem ke_515 : decode code 515 = .ok (.invokevirtual 55, 3) := by decide +kernel
theorem ke_518 : decode code 518 = .ok (.aload_n 2, 1) := by decide +kernel
theorem ke_519 : decode code 519 = .ok (.aload_n 0, 1) := by decide +kernel
theorem ke_520 : decode code 520 = .ok (.iload_n 3, 1) := by decide +kernel
theorem ke_521 : decode code 521 = .ok (.iconst 1, 1) := by decide +kernel
theorem ke_522 : decode code 522 = .ok (.iadd, 1) := by decide +kernel
theorem ke_523 : decode code 523 = .ok (.iaload, 1) := by decide +kernel
theorem ke_524 : decode code 524 = .ok (.invokevirtual 58, 3) := by decide +kernel
theorem ke_527 : decode code 527 = .ok (.if_icmp .eq 199, 3) := by decide +kernel
theorem ke_532 : decode code 532 = .ok (.aload_n 1, 1) := by decide +kernel
theorem ke_533 : decode code 533 = .ok (.invokevirtual 59, 3) := by decide +kernel
theorem ke_536 : decode code 536 = .ok (.aload_n 2, 1) := by decide +kernel
theorem ke_537 : decode code 537 = .ok (.invokevirtual 63, 3) := by decide +kernel
theorem ke_540 : decode code 540 = .ok (.if_icmp .eq 186, 3) := by decide +kernel
theorem ke_545 : decode code 545 = .ok (.aload_n 1, 1) := by decide +kernel
theorem ke_546 : decode code 546 = .ok (.aload_n 0, 1) := by decide +kernel
theorem ke_547 : decode code 547 = .ok (.iload_n 3, 1) := by decide +kernel
theorem ke_548 : decode code 548 = .ok (.iconst 1, 1) := by decide +kernel
theorem ke_549 : decode code 549 = .ok (.iadd, 1) := by decide +kernel
theorem ke_550 : decode code 550 = .ok (.iaload, 1) := by decide +kernel
theorem ke_551 : decode code 551 = .ok (.aload_n 0, 1) := by decide +kernel
theorem ke_552 : decode code 552 = .ok (.iload_n 3, 1) := by decide +kernel
theorem ke_553 : decode code 553 = .ok (.iconst 2, 1) := by decide +kernel
theorem ke_554 : decode code 554 = .ok (.iadd, 1) := by decide +kernel
theorem ke_555 : decode code 555 = .ok (.iaload, 1) := by decide +kernel
theorem ke_556 : decode code 556 = .ok (.invokevirtual 64, 3) := by decide +kernel
theorem ke_559 : decode code 559 = .ok (.aload_n 2, 1) := by decide +kernel
theorem ke_560 : decode code 560 = .ok (.aload_n 0, 1) := by decide +kernel
theorem ke_561 : decode code 561 = .ok (.iload_n 3, 1) := by decide +kernel
theorem ke_562 : decode code 562 = .ok (.iconst 1, 1) := by decide +kernel
theorem ke_563 : decode code 563 = .ok (.iadd, 1) := by decide +kernel
theorem ke_564 : decode code 564 = .ok (.iaload, 1) := by decide +kernel
theorem ke_565 : decode code 565 = .ok (.aload_n 0, 1) := by decide +kernel
theorem ke_566 : decode code 566 = .ok (.iload_n 3, 1) := by decide +kernel
theorem ke_567 : decode code 567 = .ok (.iconst 2, 1) := by decide +kernel
theorem ke_568 : decode code 568 = .ok (.iadd, 1) := by decide +kernel
theorem ke_569 : decode code 569 = .ok (.iaload, 1) := by decide +kernel
theorem ke_570 : decode code 570 = .ok (.invokevirtual 68, 3) := by decide +kernel
theorem ke_573 : decode code 573 = .ok (.if_icmp .eq 153, 3) := by decide +kernel
theorem ke_578 : decode code 578 = .ok (.aload_n 1, 1) := by decide +kernel
theorem ke_579 : decode code 579 = .ok (.aload_n 0, 1) := by decide +kernel
theorem ke_580 : decode code 580 = .ok (.iload_n 3, 1) := by decide +kernel
theorem ke_581 : decode code 581 = .ok (.iconst 1, 1) := by decide +kernel
theorem ke_582 : decode code 582 = .ok (.iadd, 1) := by decide +kernel
theorem ke_583 : decode code 583 = .ok (.iaload, 1) := by decide +kernel
theorem ke_584 : decode code 584 = .ok (.invokevirtual 69, 3) := by decide +kernel
theorem ke_587 : decode code 587 = .ok (.aload_n 2, 1) := by decide +kernel
theorem ke_588 : decode code 588 = .ok (.aload_n 0, 1) := by decide +kernel
theorem ke_589 : decode code 589 = .ok (.iload_n 3, 1) := by decide +kernel
theorem ke_590 : decode code 590 = .ok (.iconst 1, 1) := by decide +kernel
theorem ke_591 : decode code 591 = .ok (.iadd, 1) := by decide +kernel
theorem ke_592 : decode code 592 = .ok (.iaload, 1) := by decide +kernel
theorem ke_593 : decode code 593 = .ok (.invokevirtual 73, 3) := by decide +kernel
theorem ke_596 : decode code 596 = .ok (.if_icmp .eq 130, 3) := by decide +kernel
theorem ke_601 : decode code 601 = .ok (.aload_n 1, 1) := by decide +kernel
theorem ke_602 : decode code 602 = .ok (.aload_n 0, 1) := by decide +kernel
theorem ke_603 : decode code 603 = .ok (.iload_n 3, 1) := by decide +kernel
theorem ke_604 : decode code 604 = .ok (.iconst 1, 1) := by decide +kernel
theorem ke_605 : decode code 605 = .ok (.iadd, 1) := by decide +kernel
theorem ke_606 : decode code 606 = .ok (.iaload, 1) := by decide +kernel
theorem ke_607 : decode code 607 = .ok (.invokevirtual 74, 3) := by decide +kernel
theorem ke_610 : decode code 610 = .ok (.aload_n 2, 1) := by decide +kernel
theorem ke_611 : decode code 611 = .ok (.aload_n 0, 1) := by decide +kernel
theorem ke_612 : decode code 612 = .ok (.iload_n 3, 1) := by decide +kernel
theorem ke_613 : decode code 613 = .ok (.iconst 1, 1) := by decide +kernel
theorem ke_614 : decode code 614 = .ok (.iadd, 1) := by decide +kernel
theorem ke_615 : decode code 615 = .ok (.iaload, 1) := by decide +kernel
theorem ke_616 : decode code 616 = .ok (.invokevirtual 77, 3) := by decide +kernel
theorem ke_619 : decode code 619 = .ok (.if_icmp .eq 107, 3) := by decide +kernel
theorem ke_624 : decode code 624 = .ok (.aload_n 1, 1) := by decide +kernel
theorem ke_625 : decode code 625 = .ok (.aload_n 0, 1) := by decide +kernel
theorem ke_626 : decode code 626 = .ok (.iload_n 3, 1) := by decide +kernel
theorem ke_627 : decode code 627 = .ok (.iconst 1, 1) := by decide +kernel
theorem ke_628 : decode code 628 = .ok (.iadd, 1) := by decide +kernel
theorem ke_629 : decode code 629 = .ok (.iaload, 1) := by decide +kernel
theorem ke_630 : decode code 630 = .ok (.invokevirtual 78, 3) := by decide +kernel
theorem ke_633 : decode code 633 = .ok (.aload_n 2, 1) := by decide +kernel
theorem ke_634 : decode code 634 = .ok (.aload_n 0, 1) := by decide +kernel
theorem ke_635 : decode code 635 = .ok (.iload_n 3, 1) := by decide +kernel
theorem ke_636 : decode code 636 = .ok (.iconst 1, 1) := by decide +kernel
theorem ke_637 : decode code 637 = .ok (.iadd, 1) := by decide +kernel
theorem ke_638 : decode code 638 = .ok (.iaload, 1) := by decide +kernel
theorem ke_639 : decode code 639 = .ok (.invokevirtual 81, 3) := by decide +kernel
theorem ke_642 : decode code 642 = .ok (.if_icmp .eq 84, 3) := by decide +kernel
theorem ke_647 : decode code 647 = .ok (.aload_n 1, 1) := by decide +kernel
theorem ke_648 : decode code 648 = .ok (.aload_n 0, 1) := by decide +kernel
theorem ke_649 : decode code 649 = .ok (.iload_n 3, 1) := by decide +kernel
theorem ke_650 : decode code 650 = .ok (.iconst 1, 1) := by decide +kernel
theorem ke_651 : decode code 651 = .ok (.iadd, 1) := by decide +kernel
theorem ke_652 : decode code 652 = .ok (.iaload, 1) := by decide +kernel
theorem ke_653 : decode code 653 = .ok (.invokevirtual 82, 3) := by decide +kernel
theorem ke_656 : decode code 656 = .ok (.aload_n 2, 1) := by decide +kernel
theorem ke_657 : decode code 657 = .ok (.aload_n 0, 1) := by decide +kernel
theorem ke_658 : decode code 658 = .ok (.iload_n 3, 1) := by decide +kernel
theorem ke_659 : decode code 659 = .ok (.iconst 1, 1) := by decide +kernel
theorem ke_660 : decode code 660 = .ok (.iadd, 1) := by decide +kernel
theorem ke_661 : decode code 661 = .ok (.iaload, 1) := by decide +kernel
theorem ke_662 : decode code 662 = .ok (.invokevirtual 85, 3) := by decide +kernel
theorem ke_665 : decode code 665 = .ok (.if_icmp .eq 61, 3) := by decide +kernel
theorem ke_670 : decode code 670 = .ok (.aload_n 1, 1) := by decide +kernel
theorem ke_671 : decode code 671 = .ok (.aload_n 0, 1) := by decide +kernel
theorem ke_672 : decode code 672 = .ok (.iload_n 3, 1) := by decide +kernel
theorem ke_673 : decode code 673 = .ok (.iconst 1, 1) := by decide +kernel
theorem ke_674 : decode code 674 = .ok (.iadd, 1) := by decide +kernel
theorem ke_675 : decode code 675 = .ok (.iaload, 1) := by decide +kernel
theorem ke_676 : decode code 676 = .ok (.invokevirtual 86, 3) := by decide +kernel
theorem ke_679 : decode code 679 = .ok (.aload_n 2, 1) := by decide +kernel
theorem ke_680 : decode code 680 = .ok (.aload_n 0, 1) := by decide +kernel
theorem ke_681 : decode code 681 = .ok (.iload_n 3, 1) := by decide +kernel
theorem ke_682 : decode code 682 = .ok (.iconst 1, 1) := by decide +kernel
theorem ke_683 : decode code 683 = .ok (.iadd, 1) := by decide +kernel
theorem ke_684 : decode code 684 = .ok (.iaload, 1) := by decide +kernel
theorem ke_685 : decode code 685 = .ok (.invokevirtual 89, 3) := by decide +kernel
theorem ke_688 : decode code 688 = .ok (.if_icmp .eq 38, 3) := by decide +kernel
theorem ke_693 : decode code 693 = .ok (.aload_n 1, 1) := by decide +kernel
theorem ke_694 : decode code 694 = .ok (.aload_n 0, 1) := by decide +kernel
theorem ke_695 : decode code 695 = .ok (.iload_n 3, 1) := by decide +kernel
theorem ke_696 : decode code 696 = .ok (.iconst 1, 1) := by decide +kernel
theorem ke_697 : decode code 697 = .ok (.iadd, 1) := by decide +kernel
theorem ke_698 : decode code 698 = .ok (.iaload, 1) := by decide +kernel
theorem ke_699 : decode code 699 = .ok (.aload_n 0, 1) := by decide +kernel
theorem ke_700 : decode code 700 = .ok (.iload_n 3, 1) := by decide +kernel
theorem ke_701 : decode code 701 = .ok (.iconst 2, 1) := by decide +kernel
theorem ke_702 : decode code 702 = .ok (.iadd, 1) := by decide +kernel
theorem ke_703 : decode code 703 = .ok (.iaload, 1) := by decide +kernel
theorem ke_704 : decode code 704 = .ok (.invokevirtual 90, 3) := by decide +kernel
theorem ke_707 : decode code 707 = .ok (.aload_n 2, 1) := by decide +kernel
theorem ke_708 : decode code 708 = .ok (.aload_n 0, 1) := by decide +kernel
theorem ke_709 : decode code 709 = .ok (.iload_n 3, 1) := by decide +kernel
theorem ke_710 : decode code 710 = .ok (.iconst 1, 1) := by decide +kernel
theorem ke_711 : decode code 711 = .ok (.iadd, 1) := by decide +kernel
theorem ke_712 : decode code 712 = .ok (.iaload, 1) := by decide +kernel
theorem ke_713 : decode code 713 = .ok (.aload_n 0, 1) := by decide +kernel
theorem ke_714 : decode code 714 = .ok (.iload_n 3, 1) := by decide +kernel
theorem ke_715 : decode code 715 = .ok (.iconst 2, 1) := by decide +kernel
theorem ke_716 : decode code 716 = .ok (.iadd, 1) := by decide +kernel
theorem ke_717 : decode code 717 = .ok (.iaload, 1) := by decide +kernel
theorem ke_718 : decode code 718 = .ok (.invokevirtual 93, 3) := by decide +kernel
theorem ke_721 : decode code 721 = .ok (.if_icmp .eq 5, 3) := by decide +kernel
theorem ke_726 : decode code 726 = .ok (.iinc 3 5, 3) := by decide +kernel
theorem ke_729 : decode code 729 = .ok (.goto (-711), 3) := by decide +kernel
theorem ke_732 : decode code 732 = .ok (.iconst 1, 1) := by decide +kernel
theorem ke_733 : decode code 733 = .ok (.ireturn, 1) := by decide +kernel
section KWS
variable {p : Program} {l : Launch} {e : Env} {s : State} {m : MethodId} {below : List Frame} {meth : Method} {c : Code} {b L : Nat} {xs : Nat → Int32} {cells slots : Nat} {D : va_G} {dA : Nat → ClassId} {ad0 ad1 : Nat → Nat} {i t : Nat}
set_option maxHeartbeats 4000000 in
theorem kw_power (FX : kw_F D dA ad0 ad1 p s m meth c b L xs) (hi : i + 5 ≤ L) (hcs : cells ≤ 600000 ∧ slots ≤ 7302250) (kk : kw_Go l e D dA ad0 ad1 p s m below meth c b cells slots 726 i t) : kw_Go l e D dA ad0 ad1 p s m below meth c b cells slots 120 i t := by
  intro H locs ls hl ⟨x, z, cc, f, hP0, hP1, hS, hR⟩
  obtain ⟨B, hr, hlocks, hX, hbl, hL, had0, had1, hRO0, hRO1, hge0, hge1, hap⟩ := FX
  have hx := B.1
  have hb := B.2.1
  have hbA : ¬ (fun q => s.heap.size ≤ q) b := Nat.not_le.mpr hbl
  have c1 : (nI (i + 1)).toNatClampNeg = i + 1 := fr_cl (by omega)
  have c2 : (nI (i + 2)).toNatClampNeg = i + 2 := fr_cl (by omega)
  have c3 : (nI (i + 3)).toNatClampNeg = i + 3 := fr_cl (by omega)
  have c4 : (nI (i + 4)).toNatClampNeg = i + 4 := fr_cl (by omega)
  by_cases hz : xs (i + 2) = 0
  · obtain ⟨x', z', c', f', v, e0, e1, hR'⟩ := fp_power hR 0 0 0 0 (xs (i + 1)) (0) (by decide)
    refine lv_aload_n hx hb ke_120 rfl (lv_at hl 2 rfl) ?_
    refine lv_aload_n hx hb ke_121 rfl (lv_at hl 3 rfl) ?_
    refine lv_iload_n hx hb ke_122 rfl (lv_at hl 0 rfl) ?_
    refine lv_iconst (v := 1) hx hb ke_123 (by decide) ?_
    refine lv_iadd hx hb ke_124 ?_
    rw [show nI i + 1 = nI (i + 1) from nI_add i 1]
    refine va_sld hx hb hX hbl hbA hS (kw_in (j := 1) (by omega) hL) ke_125 ?_
    rw [c1]
    refine lv_aload_n hx hb ke_126 rfl (lv_at hl 3 rfl) ?_
    refine lv_iload_n hx hb ke_127 rfl (lv_at hl 0 rfl) ?_
    refine lv_iconst (v := 2) hx hb ke_128 (by decide) ?_
    refine lv_iadd hx hb ke_129 ?_
    rw [show nI i + 2 = nI (i + 2) from nI_add i 2]
    refine va_sld hx hb hX hbl hbA hS (kw_in (j := 2) (by omega) hL) ke_130 ?_
    rw [c2]
    refine lv_if_eq (tgt := 138) hx hb ke_131 (by decide) (fun _ => ?_) (fun h => absurd hz h)
    refine lv_iconst (v := 0) hx hb ke_138 (by decide) ?_
    refine kw_call (as := [xs (i + 1), 0]) (rest := []) (ad := ad0) (G := 0) (ci := 6) (idx := 13) (mi := 61) (d := 3) (wo := fn_W ad1 dA 1 z) B had0 hRO0 hge0 (fun k q hq hA => by obtain ⟨hk, rfl⟩ := fn_W_get hq; exact hap _ hA ⟨k, hk, rfl⟩) hP0 hP1 hS hl.1 e0 (by decide) (by decide +kernel) rfl (r0 := (fn_C6, fn_F6, 3)) rfl rfl kl_108 kl_109 kl_106 kl_110 kl_107 rfl ke_139 (by decide) (fun H locs hP0 hP1 hS => ?_) hcs
    refine lv_aload_n hx hb ke_142 rfl (lv_at hl 1 rfl) ?_
    refine lv_aload_n hx hb ke_143 rfl (lv_at hl 3 rfl) ?_
    refine lv_iload_n hx hb ke_144 rfl (lv_at hl 0 rfl) ?_
    refine lv_iconst (v := 1) hx hb ke_145 (by decide) ?_
    refine lv_iadd hx hb ke_146 ?_
    rw [show nI i + 1 = nI (i + 1) from nI_add i 1]
    refine va_sld hx hb hX hbl hbA hS (kw_in (j := 1) (by omega) hL) ke_147 ?_
    rw [c1]
    refine lv_aload_n hx hb ke_148 rfl (lv_at hl 3 rfl) ?_
    refine lv_iload_n hx hb ke_149 rfl (lv_at hl 0 rfl) ?_
    refine lv_iconst (v := 2) hx hb ke_150 (by decide) ?_
    refine lv_iadd hx hb ke_151 ?_
    rw [show nI i + 2 = nI (i + 2) from nI_add i 2]
    refine va_sld hx hb hX hbl hbA hS (kw_in (j := 2) (by omega) hL) ke_152 ?_
    rw [c2]
    refine lv_if_eq (tgt := 160) hx hb ke_153 (by decide) (fun _ => ?_) (fun h => absurd hz h)
    refine lv_iconst (v := 0) hx hb ke_160 (by decide) ?_
    refine kw_call (as := [xs (i + 1), 0]) (rest := [.int v]) (ad := ad1) (G := 1) (ci := 7) (idx := 17) (mi := 116) (d := 3) (wo := fn_W ad0 dA 0 x') B had1 hRO1 hge1 (fun k q hq hA => by obtain ⟨hk, rfl⟩ := fn_W_get hq; exact hap _ ⟨k, hk, rfl⟩ hA) hP1 hP0 hS hl.1 e1 (by decide) (by decide +kernel) rfl (r0 := (fn_C7, fn_F7, 42)) rfl rfl kl_113 kl_114 kl_111 kl_115 kl_112 rfl ke_161 (Nat.le_of_ble_eq_true rfl) (fun H locs hP1 hP0 hS => ?_) hcs
    refine lv_icmp_eq (tgt := 726) hx hb ke_164 (by decide) (fun _ => ?_) (fun h => absurd rfl h)
    exact kk H locs ls hl ⟨x', z', c', f', hP0, hP1, hS, hR'⟩
  · obtain ⟨x', z', c', f', v, e0, e1, hR'⟩ := fp_power hR 0 0 0 0 (xs (i + 1)) (1) (by decide)
    refine lv_aload_n hx hb ke_120 rfl (lv_at hl 2 rfl) ?_
    refine lv_aload_n hx hb ke_121 rfl (lv_at hl 3 rfl) ?_
    refine lv_iload_n hx hb ke_122 rfl (lv_at hl 0 rfl) ?_
    refine lv_iconst (v := 1) hx hb ke_123 (by decide) ?_
    refine lv_iadd hx hb ke_124 ?_
    rw [show nI i + 1 = nI (i + 1) from nI_add i 1]
    refine va_sld hx hb hX hbl hbA hS (kw_in (j := 1) (by omega) hL) ke_125 ?_
    rw [c1]
    refine lv_aload_n hx hb ke_126 rfl (lv_at hl 3 rfl) ?_
    refine lv_iload_n hx hb ke_127 rfl (lv_at hl 0 rfl) ?_
    refine lv_iconst (v := 2) hx hb ke_128 (by decide) ?_
    refine lv_iadd hx hb ke_129 ?_
    rw [show nI i + 2 = nI (i + 2) from nI_add i 2]
    refine va_sld hx hb hX hbl hbA hS (kw_in (j := 2) (by omega) hL) ke_130 ?_
    rw [c2]
    refine lv_if_eq (tgt := 138) hx hb ke_131 (by decide) (fun h => absurd h hz) (fun _ => ?_)
    refine lv_iconst (v := 1) hx hb ke_134 (by decide) ?_
    refine lv_goto (tgt := 139) hx hb ke_135 (by decide) ?_
    refine kw_call (as := [xs (i + 1), 1]) (rest := []) (ad := ad0) (G := 0) (ci := 6) (idx := 13) (mi := 61) (d := 3) (wo := fn_W ad1 dA 1 z) B had0 hRO0 hge0 (fun k q hq hA => by obtain ⟨hk, rfl⟩ := fn_W_get hq; exact hap _ hA ⟨k, hk, rfl⟩) hP0 hP1 hS hl.1 e0 (by decide) (by decide +kernel) rfl (r0 := (fn_C6, fn_F6, 3)) rfl rfl kl_108 kl_109 kl_106 kl_110 kl_107 rfl ke_139 (by decide) (fun H locs hP0 hP1 hS => ?_) hcs
    refine lv_aload_n hx hb ke_142 rfl (lv_at hl 1 rfl) ?_
    refine lv_aload_n hx hb ke_143 rfl (lv_at hl 3 rfl) ?_
    refine lv_iload_n hx hb ke_144 rfl (lv_at hl 0 rfl) ?_
    refine lv_iconst (v := 1) hx hb ke_145 (by decide) ?_
    refine lv_iadd hx hb ke_146 ?_
    rw [show nI i + 1 = nI (i + 1) from nI_add i 1]
    refine va_sld hx hb hX hbl hbA hS (kw_in (j := 1) (by omega) hL) ke_147 ?_
    rw [c1]
    refine lv_aload_n hx hb ke_148 rfl (lv_at hl 3 rfl) ?_
    refine lv_iload_n hx hb ke_149 rfl (lv_at hl 0 rfl) ?_
    refine lv_iconst (v := 2) hx hb ke_150 (by decide) ?_
    refine lv_iadd hx hb ke_151 ?_
    rw [show nI i + 2 = nI (i + 2) from nI_add i 2]
    refine va_sld hx hb hX hbl hbA hS (kw_in (j := 2) (by omega) hL) ke_152 ?_
    rw [c2]
    refine lv_if_eq (tgt := 160) hx hb ke_153 (by decide) (fun h => absurd h hz) (fun _ => ?_)
    refine lv_iconst (v := 1) hx hb ke_156 (by decide) ?_
    refine lv_goto (tgt := 161) hx hb ke_157 (by decide) ?_
    refine kw_call (as := [xs (i + 1), 1]) (rest := [.int v]) (ad := ad1) (G := 1) (ci := 7) (idx := 17) (mi := 116) (d := 3) (wo := fn_W ad0 dA 0 x') B had1 hRO1 hge1 (fun k q hq hA => by obtain ⟨hk, rfl⟩ := fn_W_get hq; exact hap _ ⟨k, hk, rfl⟩ hA) hP1 hP0 hS hl.1 e1 (by decide) (by decide +kernel) rfl (r0 := (fn_C7, fn_F7, 42)) rfl rfl kl_113 kl_114 kl_111 kl_115 kl_112 rfl ke_161 (Nat.le_of_ble_eq_true rfl) (fun H locs hP1 hP0 hS => ?_) hcs
    refine lv_icmp_eq (tgt := 726) hx hb ke_164 (by decide) (fun _ => ?_) (fun h => absurd rfl h)
    exact kk H locs ls hl ⟨x', z', c', f', hP0, hP1, hS, hR'⟩
set_option maxHeartbeats 4000000 in
theorem kw_identify (FX : kw_F D dA ad0 ad1 p s m meth c b L xs) (hi : i + 5 ≤ L) (hcs : cells ≤ 600000 ∧ slots ≤ 7302250) (kk : kw_Go l e D dA ad0 ad1 p s m below meth c b cells slots 726 i t) : kw_Go l e D dA ad0 ad1 p s m below meth c b cells slots 169 i t := by
  intro H locs ls hl ⟨x, z, cc, f, hP0, hP1, hS, hR⟩
  obtain ⟨B, hr, hlocks, hX, hbl, hL, had0, had1, hRO0, hRO1, hge0, hge1, hap⟩ := FX
  have hx := B.1
  have hb := B.2.1
  have hbA : ¬ (fun q => s.heap.size ≤ q) b := Nat.not_le.mpr hbl
  have c1 : (nI (i + 1)).toNatClampNeg = i + 1 := fr_cl (by omega)
  have c2 : (nI (i + 2)).toNatClampNeg = i + 2 := fr_cl (by omega)
  have c3 : (nI (i + 3)).toNatClampNeg = i + 3 := fr_cl (by omega)
  have c4 : (nI (i + 4)).toNatClampNeg = i + 4 := fr_cl (by omega)
  obtain ⟨x', z', c', f', v, e0, e1, hR'⟩ := fp_identify hR 0 0 0 0 (xs (i + 1)) (xs (i + 2))
  refine lv_aload_n hx hb ke_169 rfl (lv_at hl 2 rfl) ?_
  refine lv_aload_n hx hb ke_170 rfl (lv_at hl 3 rfl) ?_
  refine lv_iload_n hx hb ke_171 rfl (lv_at hl 0 rfl) ?_
  refine lv_iconst (v := 1) hx hb ke_172 (by decide) ?_
  refine lv_iadd hx hb ke_173 ?_
  rw [show nI i + 1 = nI (i + 1) from nI_add i 1]
  refine va_sld hx hb hX hbl hbA hS (kw_in (j := 1) (by omega) hL) ke_174 ?_
  rw [c1]
  refine lv_aload_n hx hb ke_175 rfl (lv_at hl 3 rfl) ?_
  refine lv_iload_n hx hb ke_176 rfl (lv_at hl 0 rfl) ?_
  refine lv_iconst (v := 2) hx hb ke_177 (by decide) ?_
  refine lv_iadd hx hb ke_178 ?_
  rw [show nI i + 2 = nI (i + 2) from nI_add i 2]
  refine va_sld hx hb hX hbl hbA hS (kw_in (j := 2) (by omega) hL) ke_179 ?_
  rw [c2]
  refine kw_call (as := [xs (i + 1), xs (i + 2)]) (rest := []) (ad := ad0) (G := 0) (ci := 6) (idx := 18) (mi := 62) (d := 7) (wo := fn_W ad1 dA 1 z) B had0 hRO0 hge0 (fun k q hq hA => by obtain ⟨hk, rfl⟩ := fn_W_get hq; exact hap _ hA ⟨k, hk, rfl⟩) hP0 hP1 hS hl.1 e0 (by decide) (by decide +kernel) rfl (r0 := (fn_C6, fn_F6, 3)) rfl rfl kl_118 kl_109 kl_116 kl_119 kl_117 rfl ke_180 (by decide) (fun H locs hP0 hP1 hS => ?_) hcs
  refine lv_aload_n hx hb ke_183 rfl (lv_at hl 1 rfl) ?_
  refine lv_aload_n hx hb ke_184 rfl (lv_at hl 3 rfl) ?_
  refine lv_iload_n hx hb ke_185 rfl (lv_at hl 0 rfl) ?_
  refine lv_iconst (v := 1) hx hb ke_186 (by decide) ?_
  refine lv_iadd hx hb ke_187 ?_
  rw [show nI i + 1 = nI (i + 1) from nI_add i 1]
  refine va_sld hx hb hX hbl hbA hS (kw_in (j := 1) (by omega) hL) ke_188 ?_
  rw [c1]
  refine lv_aload_n hx hb ke_189 rfl (lv_at hl 3 rfl) ?_
  refine lv_iload_n hx hb ke_190 rfl (lv_at hl 0 rfl) ?_
  refine lv_iconst (v := 2) hx hb ke_191 (by decide) ?_
  refine lv_iadd hx hb ke_192 ?_
  rw [show nI i + 2 = nI (i + 2) from nI_add i 2]
  refine va_sld hx hb hX hbl hbA hS (kw_in (j := 2) (by omega) hL) ke_193 ?_
  rw [c2]
  refine kw_call (as := [xs (i + 1), xs (i + 2)]) (rest := [.int v]) (ad := ad1) (G := 1) (ci := 7) (idx := 22) (mi := 117) (d := 2) (wo := fn_W ad0 dA 0 x') B had1 hRO1 hge1 (fun k q hq hA => by obtain ⟨hk, rfl⟩ := fn_W_get hq; exact hap _ ⟨k, hk, rfl⟩ hA) hP1 hP0 hS hl.1 e1 (by decide) (by decide +kernel) rfl (r0 := (fn_C7, fn_F7, 42)) rfl rfl kl_122 kl_114 kl_120 kl_123 kl_121 rfl ke_194 (Nat.le_of_ble_eq_true rfl) (fun H locs hP1 hP0 hS => ?_) hcs
  refine lv_icmp_eq (tgt := 726) hx hb ke_197 (by decide) (fun _ => ?_) (fun h => absurd rfl h)
  exact kk H locs ls hl ⟨x', z', c', f', hP0, hP1, hS, hR'⟩
set_option maxHeartbeats 4000000 in
theorem kw_input (FX : kw_F D dA ad0 ad1 p s m meth c b L xs) (hi : i + 5 ≤ L) (hcs : cells ≤ 600000 ∧ slots ≤ 7302250) (kk : kw_Go l e D dA ad0 ad1 p s m below meth c b cells slots 726 i t) : kw_Go l e D dA ad0 ad1 p s m below meth c b cells slots 202 i t := by
  intro H locs ls hl ⟨x, z, cc, f, hP0, hP1, hS, hR⟩
  obtain ⟨B, hr, hlocks, hX, hbl, hL, had0, had1, hRO0, hRO1, hge0, hge1, hap⟩ := FX
  have hx := B.1
  have hb := B.2.1
  have hbA : ¬ (fun q => s.heap.size ≤ q) b := Nat.not_le.mpr hbl
  have c1 : (nI (i + 1)).toNatClampNeg = i + 1 := fr_cl (by omega)
  have c2 : (nI (i + 2)).toNatClampNeg = i + 2 := fr_cl (by omega)
  have c3 : (nI (i + 3)).toNatClampNeg = i + 3 := fr_cl (by omega)
  have c4 : (nI (i + 4)).toNatClampNeg = i + 4 := fr_cl (by omega)
  obtain ⟨x', z', c', f', v, e0, e1, hR'⟩ := fp_input hR 0 0 0 0 (xs (i + 1)) (xs (i + 2)) (xs (i + 3))
  refine lv_aload_n hx hb ke_202 rfl (lv_at hl 2 rfl) ?_
  refine lv_aload_n hx hb ke_203 rfl (lv_at hl 3 rfl) ?_
  refine lv_iload_n hx hb ke_204 rfl (lv_at hl 0 rfl) ?_
  refine lv_iconst (v := 1) hx hb ke_205 (by decide) ?_
  refine lv_iadd hx hb ke_206 ?_
  rw [show nI i + 1 = nI (i + 1) from nI_add i 1]
  refine va_sld hx hb hX hbl hbA hS (kw_in (j := 1) (by omega) hL) ke_207 ?_
  rw [c1]
  refine lv_aload_n hx hb ke_208 rfl (lv_at hl 3 rfl) ?_
  refine lv_iload_n hx hb ke_209 rfl (lv_at hl 0 rfl) ?_
  refine lv_iconst (v := 2) hx hb ke_210 (by decide) ?_
  refine lv_iadd hx hb ke_211 ?_
  rw [show nI i + 2 = nI (i + 2) from nI_add i 2]
  refine va_sld hx hb hX hbl hbA hS (kw_in (j := 2) (by omega) hL) ke_212 ?_
  rw [c2]
  refine lv_aload_n hx hb ke_213 rfl (lv_at hl 3 rfl) ?_
  refine lv_iload_n hx hb ke_214 rfl (lv_at hl 0 rfl) ?_
  refine lv_iconst (v := 3) hx hb ke_215 (by decide) ?_
  refine lv_iadd hx hb ke_216 ?_
  rw [show nI i + 3 = nI (i + 3) from nI_add i 3]
  refine va_sld hx hb hX hbl hbA hS (kw_in (j := 3) (by omega) hL) ke_217 ?_
  rw [c3]
  refine kw_call (as := [xs (i + 1), xs (i + 2), xs (i + 3)]) (rest := []) (ad := ad0) (G := 0) (ci := 6) (idx := 23) (mi := 63) (d := 5) (wo := fn_W ad1 dA 1 z) B had0 hRO0 hge0 (fun k q hq hA => by obtain ⟨hk, rfl⟩ := fn_W_get hq; exact hap _ hA ⟨k, hk, rfl⟩) hP0 hP1 hS hl.1 e0 (by decide) (by decide +kernel) rfl (r0 := (fn_C6, fn_F6, 3)) rfl rfl kl_126 kl_109 kl_124 kl_127 kl_125 rfl ke_218 (by decide) (fun H locs hP0 hP1 hS => ?_) hcs
  refine lv_aload_n hx hb ke_221 rfl (lv_at hl 1 rfl) ?_
  refine lv_aload_n hx hb ke_222 rfl (lv_at hl 3 rfl) ?_
  refine lv_iload_n hx hb ke_223 rfl (lv_at hl 0 rfl) ?_
  refine lv_iconst (v := 1) hx hb ke_224 (by decide) ?_
  refine lv_iadd hx hb ke_225 ?_
  rw [show nI i + 1 = nI (i + 1) from nI_add i 1]
  refine va_sld hx hb hX hbl hbA hS (kw_in (j := 1) (by omega) hL) ke_226 ?_
  rw [c1]
  refine lv_aload_n hx hb ke_227 rfl (lv_at hl 3 rfl) ?_
  refine lv_iload_n hx hb ke_228 rfl (lv_at hl 0 rfl) ?_
  refine lv_iconst (v := 2) hx hb ke_229 (by decide) ?_
  refine lv_iadd hx hb ke_230 ?_
  rw [show nI i + 2 = nI (i + 2) from nI_add i 2]
  refine va_sld hx hb hX hbl hbA hS (kw_in (j := 2) (by omega) hL) ke_231 ?_
  rw [c2]
  refine lv_aload_n hx hb ke_232 rfl (lv_at hl 3 rfl) ?_
  refine lv_iload_n hx hb ke_233 rfl (lv_at hl 0 rfl) ?_
  refine lv_iconst (v := 3) hx hb ke_234 (by decide) ?_
  refine lv_iadd hx hb ke_235 ?_
  rw [show nI i + 3 = nI (i + 3) from nI_add i 3]
  refine va_sld hx hb hX hbl hbA hS (kw_in (j := 3) (by omega) hL) ke_236 ?_
  rw [c3]
  refine kw_call (as := [xs (i + 1), xs (i + 2), xs (i + 3)]) (rest := [.int v]) (ad := ad1) (G := 1) (ci := 7) (idx := 27) (mi := 118) (d := 3) (wo := fn_W ad0 dA 0 x') B had1 hRO1 hge1 (fun k q hq hA => by obtain ⟨hk, rfl⟩ := fn_W_get hq; exact hap _ ⟨k, hk, rfl⟩ hA) hP1 hP0 hS hl.1 e1 (by decide) (by decide +kernel) rfl (r0 := (fn_C7, fn_F7, 42)) rfl rfl kl_130 kl_114 kl_128 kl_131 kl_129 rfl ke_237 (Nat.le_of_ble_eq_true rfl) (fun H locs hP1 hP0 hS => ?_) hcs
  refine lv_icmp_eq (tgt := 726) hx hb ke_240 (by decide) (fun _ => ?_) (fun h => absurd rfl h)
  exact kk H locs ls hl ⟨x', z', c', f', hP0, hP1, hS, hR'⟩
set_option maxHeartbeats 4000000 in
theorem kw_fail (FX : kw_F D dA ad0 ad1 p s m meth c b L xs) (hi : i + 5 ≤ L) (hcs : cells ≤ 600000 ∧ slots ≤ 7302250) (kk : kw_Go l e D dA ad0 ad1 p s m below meth c b cells slots 726 i t) : kw_Go l e D dA ad0 ad1 p s m below meth c b cells slots 245 i t := by
  intro H locs ls hl ⟨x, z, cc, f, hP0, hP1, hS, hR⟩
  obtain ⟨B, hr, hlocks, hX, hbl, hL, had0, had1, hRO0, hRO1, hge0, hge1, hap⟩ := FX
  have hx := B.1
  have hb := B.2.1
  have hbA : ¬ (fun q => s.heap.size ≤ q) b := Nat.not_le.mpr hbl
  have c1 : (nI (i + 1)).toNatClampNeg = i + 1 := fr_cl (by omega)
  have c2 : (nI (i + 2)).toNatClampNeg = i + 2 := fr_cl (by omega)
  have c3 : (nI (i + 3)).toNatClampNeg = i + 3 := fr_cl (by omega)
  have c4 : (nI (i + 4)).toNatClampNeg = i + 4 := fr_cl (by omega)
  obtain ⟨x', z', c', f', v, e0, e1, hR'⟩ := fp_fail hR 0 0 0 0 (xs (i + 1)) (xs (i + 2))
  refine lv_aload_n hx hb ke_245 rfl (lv_at hl 2 rfl) ?_
  refine lv_aload_n hx hb ke_246 rfl (lv_at hl 3 rfl) ?_
  refine lv_iload_n hx hb ke_247 rfl (lv_at hl 0 rfl) ?_
  refine lv_iconst (v := 1) hx hb ke_248 (by decide) ?_
  refine lv_iadd hx hb ke_249 ?_
  rw [show nI i + 1 = nI (i + 1) from nI_add i 1]
  refine va_sld hx hb hX hbl hbA hS (kw_in (j := 1) (by omega) hL) ke_250 ?_
  rw [c1]
  refine lv_aload_n hx hb ke_251 rfl (lv_at hl 3 rfl) ?_
  refine lv_iload_n hx hb ke_252 rfl (lv_at hl 0 rfl) ?_
  refine lv_iconst (v := 2) hx hb ke_253 (by decide) ?_
  refine lv_iadd hx hb ke_254 ?_
  rw [show nI i + 2 = nI (i + 2) from nI_add i 2]
  refine va_sld hx hb hX hbl hbA hS (kw_in (j := 2) (by omega) hL) ke_255 ?_
  rw [c2]
  refine kw_call (as := [xs (i + 1), xs (i + 2)]) (rest := []) (ad := ad0) (G := 0) (ci := 6) (idx := 28) (mi := 64) (d := 3) (wo := fn_W ad1 dA 1 z) B had0 hRO0 hge0 (fun k q hq hA => by obtain ⟨hk, rfl⟩ := fn_W_get hq; exact hap _ hA ⟨k, hk, rfl⟩) hP0 hP1 hS hl.1 e0 (by decide) (by decide +kernel) rfl (r0 := (fn_C6, fn_F6, 3)) rfl rfl kl_134 kl_109 kl_132 kl_135 kl_133 rfl ke_256 (by decide) (fun H locs hP0 hP1 hS => ?_) hcs
  refine lv_aload_n hx hb ke_259 rfl (lv_at hl 1 rfl) ?_
  refine lv_aload_n hx hb ke_260 rfl (lv_at hl 3 rfl) ?_
  refine lv_iload_n hx hb ke_261 rfl (lv_at hl 0 rfl) ?_
  refine lv_iconst (v := 1) hx hb ke_262 (by decide) ?_
  refine lv_iadd hx hb ke_263 ?_
  rw [show nI i + 1 = nI (i + 1) from nI_add i 1]
  refine va_sld hx hb hX hbl hbA hS (kw_in (j := 1) (by omega) hL) ke_264 ?_
  rw [c1]
  refine lv_aload_n hx hb ke_265 rfl (lv_at hl 3 rfl) ?_
  refine lv_iload_n hx hb ke_266 rfl (lv_at hl 0 rfl) ?_
  refine lv_iconst (v := 2) hx hb ke_267 (by decide) ?_
  refine lv_iadd hx hb ke_268 ?_
  rw [show nI i + 2 = nI (i + 2) from nI_add i 2]
  refine va_sld hx hb hX hbl hbA hS (kw_in (j := 2) (by omega) hL) ke_269 ?_
  rw [c2]
  refine kw_call (as := [xs (i + 1), xs (i + 2)]) (rest := [.int v]) (ad := ad1) (G := 1) (ci := 7) (idx := 31) (mi := 119) (d := 2) (wo := fn_W ad0 dA 0 x') B had1 hRO1 hge1 (fun k q hq hA => by obtain ⟨hk, rfl⟩ := fn_W_get hq; exact hap _ ⟨k, hk, rfl⟩ hA) hP1 hP0 hS hl.1 e1 (by decide) (by decide +kernel) rfl (r0 := (fn_C7, fn_F7, 42)) rfl rfl kl_138 kl_114 kl_136 kl_139 kl_137 rfl ke_270 (Nat.le_of_ble_eq_true rfl) (fun H locs hP1 hP0 hS => ?_) hcs
  refine lv_icmp_eq (tgt := 726) hx hb ke_273 (by decide) (fun _ => ?_) (fun h => absurd rfl h)
  exact kk H locs ls hl ⟨x', z', c', f', hP0, hP1, hS, hR'⟩
set_option maxHeartbeats 4000000 in
theorem kw_expect (FX : kw_F D dA ad0 ad1 p s m meth c b L xs) (hi : i + 5 ≤ L) (hcs : cells ≤ 600000 ∧ slots ≤ 7302250) (kk : kw_Go l e D dA ad0 ad1 p s m below meth c b cells slots 726 i t) : kw_Go l e D dA ad0 ad1 p s m below meth c b cells slots 278 i t := by
  intro H locs ls hl ⟨x, z, cc, f, hP0, hP1, hS, hR⟩
  obtain ⟨B, hr, hlocks, hX, hbl, hL, had0, had1, hRO0, hRO1, hge0, hge1, hap⟩ := FX
  have hx := B.1
  have hb := B.2.1
  have hbA : ¬ (fun q => s.heap.size ≤ q) b := Nat.not_le.mpr hbl
  have c1 : (nI (i + 1)).toNatClampNeg = i + 1 := fr_cl (by omega)
  have c2 : (nI (i + 2)).toNatClampNeg = i + 2 := fr_cl (by omega)
  have c3 : (nI (i + 3)).toNatClampNeg = i + 3 := fr_cl (by omega)
  have c4 : (nI (i + 4)).toNatClampNeg = i + 4 := fr_cl (by omega)
  obtain ⟨x', z', c', f', v, e0, e1, hR'⟩ := fp_expect hR 0 0 0 0 (xs (i + 1)) (xs (i + 2)) (xs (i + 3))
  refine lv_aload_n hx hb ke_278 rfl (lv_at hl 2 rfl) ?_
  refine lv_aload_n hx hb ke_279 rfl (lv_at hl 3 rfl) ?_
  refine lv_iload_n hx hb ke_280 rfl (lv_at hl 0 rfl) ?_
  refine lv_iconst (v := 1) hx hb ke_281 (by decide) ?_
  refine lv_iadd hx hb ke_282 ?_
  rw [show nI i + 1 = nI (i + 1) from nI_add i 1]
  refine va_sld hx hb hX hbl hbA hS (kw_in (j := 1) (by omega) hL) ke_283 ?_
  rw [c1]
  refine lv_aload_n hx hb ke_284 rfl (lv_at hl 3 rfl) ?_
  refine lv_iload_n hx hb ke_285 rfl (lv_at hl 0 rfl) ?_
  refine lv_iconst (v := 2) hx hb ke_286 (by decide) ?_
  refine lv_iadd hx hb ke_287 ?_
  rw [show nI i + 2 = nI (i + 2) from nI_add i 2]
  refine va_sld hx hb hX hbl hbA hS (kw_in (j := 2) (by omega) hL) ke_288 ?_
  rw [c2]
  refine lv_aload_n hx hb ke_289 rfl (lv_at hl 3 rfl) ?_
  refine lv_iload_n hx hb ke_290 rfl (lv_at hl 0 rfl) ?_
  refine lv_iconst (v := 3) hx hb ke_291 (by decide) ?_
  refine lv_iadd hx hb ke_292 ?_
  rw [show nI i + 3 = nI (i + 3) from nI_add i 3]
  refine va_sld hx hb hX hbl hbA hS (kw_in (j := 3) (by omega) hL) ke_293 ?_
  rw [c3]
  refine kw_call (as := [xs (i + 1), xs (i + 2), xs (i + 3)]) (rest := []) (ad := ad0) (G := 0) (ci := 6) (idx := 32) (mi := 65) (d := 2) (wo := fn_W ad1 dA 1 z) B had0 hRO0 hge0 (fun k q hq hA => by obtain ⟨hk, rfl⟩ := fn_W_get hq; exact hap _ hA ⟨k, hk, rfl⟩) hP0 hP1 hS hl.1 e0 (by decide) (by decide +kernel) rfl (r0 := (fn_C6, fn_F6, 3)) rfl rfl kl_142 kl_109 kl_140 kl_143 kl_141 rfl ke_294 (by decide) (fun H locs hP0 hP1 hS => ?_) hcs
  refine lv_aload_n hx hb ke_297 rfl (lv_at hl 1 rfl) ?_
  refine lv_aload_n hx hb ke_298 rfl (lv_at hl 3 rfl) ?_
  refine lv_iload_n hx hb ke_299 rfl (lv_at hl 0 rfl) ?_
  refine lv_iconst (v := 1) hx hb ke_300 (by decide) ?_
  refine lv_iadd hx hb ke_301 ?_
  rw [show nI i + 1 = nI (i + 1) from nI_add i 1]
  refine va_sld hx hb hX hbl hbA hS (kw_in (j := 1) (by omega) hL) ke_302 ?_
  rw [c1]
  refine lv_aload_n hx hb ke_303 rfl (lv_at hl 3 rfl) ?_
  refine lv_iload_n hx hb ke_304 rfl (lv_at hl 0 rfl) ?_
  refine lv_iconst (v := 2) hx hb ke_305 (by decide) ?_
  refine lv_iadd hx hb ke_306 ?_
  rw [show nI i + 2 = nI (i + 2) from nI_add i 2]
  refine va_sld hx hb hX hbl hbA hS (kw_in (j := 2) (by omega) hL) ke_307 ?_
  rw [c2]
  refine lv_aload_n hx hb ke_308 rfl (lv_at hl 3 rfl) ?_
  refine lv_iload_n hx hb ke_309 rfl (lv_at hl 0 rfl) ?_
  refine lv_iconst (v := 3) hx hb ke_310 (by decide) ?_
  refine lv_iadd hx hb ke_311 ?_
  rw [show nI i + 3 = nI (i + 3) from nI_add i 3]
  refine va_sld hx hb hX hbl hbA hS (kw_in (j := 3) (by omega) hL) ke_312 ?_
  rw [c3]
  refine kw_call (as := [xs (i + 1), xs (i + 2), xs (i + 3)]) (rest := [.int v]) (ad := ad1) (G := 1) (ci := 7) (idx := 35) (mi := 120) (d := 2) (wo := fn_W ad0 dA 0 x') B had1 hRO1 hge1 (fun k q hq hA => by obtain ⟨hk, rfl⟩ := fn_W_get hq; exact hap _ ⟨k, hk, rfl⟩ hA) hP1 hP0 hS hl.1 e1 (by decide) (by decide +kernel) rfl (r0 := (fn_C7, fn_F7, 42)) rfl rfl kl_146 kl_114 kl_144 kl_147 kl_145 rfl ke_313 (Nat.le_of_ble_eq_true rfl) (fun H locs hP1 hP0 hS => ?_) hcs
  refine lv_icmp_eq (tgt := 726) hx hb ke_316 (by decide) (fun _ => ?_) (fun h => absurd rfl h)
  exact kk H locs ls hl ⟨x', z', c', f', hP0, hP1, hS, hR'⟩
set_option maxHeartbeats 4000000 in
theorem kw_configure (FX : kw_F D dA ad0 ad1 p s m meth c b L xs) (hi : i + 5 ≤ L) (hcs : cells ≤ 600000 ∧ slots ≤ 7302250) (kk : kw_Go l e D dA ad0 ad1 p s m below meth c b cells slots 726 i t) : kw_Go l e D dA ad0 ad1 p s m below meth c b cells slots 321 i t := by
  intro H locs ls hl ⟨x, z, cc, f, hP0, hP1, hS, hR⟩
  obtain ⟨B, hr, hlocks, hX, hbl, hL, had0, had1, hRO0, hRO1, hge0, hge1, hap⟩ := FX
  have hx := B.1
  have hb := B.2.1
  have hbA : ¬ (fun q => s.heap.size ≤ q) b := Nat.not_le.mpr hbl
  have c1 : (nI (i + 1)).toNatClampNeg = i + 1 := fr_cl (by omega)
  have c2 : (nI (i + 2)).toNatClampNeg = i + 2 := fr_cl (by omega)
  have c3 : (nI (i + 3)).toNatClampNeg = i + 3 := fr_cl (by omega)
  have c4 : (nI (i + 4)).toNatClampNeg = i + 4 := fr_cl (by omega)
  obtain ⟨x', z', c', f', v, e0, e1, hR'⟩ := fp_configure hR 0 0 0 0 (xs (i + 1)) (xs (i + 2)) (xs (i + 3))
  refine lv_aload_n hx hb ke_321 rfl (lv_at hl 2 rfl) ?_
  refine lv_aload_n hx hb ke_322 rfl (lv_at hl 3 rfl) ?_
  refine lv_iload_n hx hb ke_323 rfl (lv_at hl 0 rfl) ?_
  refine lv_iconst (v := 1) hx hb ke_324 (by decide) ?_
  refine lv_iadd hx hb ke_325 ?_
  rw [show nI i + 1 = nI (i + 1) from nI_add i 1]
  refine va_sld hx hb hX hbl hbA hS (kw_in (j := 1) (by omega) hL) ke_326 ?_
  rw [c1]
  refine lv_aload_n hx hb ke_327 rfl (lv_at hl 3 rfl) ?_
  refine lv_iload_n hx hb ke_328 rfl (lv_at hl 0 rfl) ?_
  refine lv_iconst (v := 2) hx hb ke_329 (by decide) ?_
  refine lv_iadd hx hb ke_330 ?_
  rw [show nI i + 2 = nI (i + 2) from nI_add i 2]
  refine va_sld hx hb hX hbl hbA hS (kw_in (j := 2) (by omega) hL) ke_331 ?_
  rw [c2]
  refine lv_aload_n hx hb ke_332 rfl (lv_at hl 3 rfl) ?_
  refine lv_iload_n hx hb ke_333 rfl (lv_at hl 0 rfl) ?_
  refine lv_iconst (v := 3) hx hb ke_334 (by decide) ?_
  refine lv_iadd hx hb ke_335 ?_
  rw [show nI i + 3 = nI (i + 3) from nI_add i 3]
  refine va_sld hx hb hX hbl hbA hS (kw_in (j := 3) (by omega) hL) ke_336 ?_
  rw [c3]
  refine kw_call (as := [xs (i + 1), xs (i + 2), xs (i + 3)]) (rest := []) (ad := ad0) (G := 0) (ci := 6) (idx := 36) (mi := 66) (d := 3) (wo := fn_W ad1 dA 1 z) B had0 hRO0 hge0 (fun k q hq hA => by obtain ⟨hk, rfl⟩ := fn_W_get hq; exact hap _ hA ⟨k, hk, rfl⟩) hP0 hP1 hS hl.1 e0 (by decide) (by decide +kernel) rfl (r0 := (fn_C6, fn_F6, 3)) rfl rfl kl_150 kl_109 kl_148 kl_151 kl_149 rfl ke_337 (by decide) (fun H locs hP0 hP1 hS => ?_) hcs
  refine lv_aload_n hx hb ke_340 rfl (lv_at hl 1 rfl) ?_
  refine lv_aload_n hx hb ke_341 rfl (lv_at hl 3 rfl) ?_
  refine lv_iload_n hx hb ke_342 rfl (lv_at hl 0 rfl) ?_
  refine lv_iconst (v := 1) hx hb ke_343 (by decide) ?_
  refine lv_iadd hx hb ke_344 ?_
  rw [show nI i + 1 = nI (i + 1) from nI_add i 1]
  refine va_sld hx hb hX hbl hbA hS (kw_in (j := 1) (by omega) hL) ke_345 ?_
  rw [c1]
  refine lv_aload_n hx hb ke_346 rfl (lv_at hl 3 rfl) ?_
  refine lv_iload_n hx hb ke_347 rfl (lv_at hl 0 rfl) ?_
  refine lv_iconst (v := 2) hx hb ke_348 (by decide) ?_
  refine lv_iadd hx hb ke_349 ?_
  rw [show nI i + 2 = nI (i + 2) from nI_add i 2]
  refine va_sld hx hb hX hbl hbA hS (kw_in (j := 2) (by omega) hL) ke_350 ?_
  rw [c2]
  refine lv_aload_n hx hb ke_351 rfl (lv_at hl 3 rfl) ?_
  refine lv_iload_n hx hb ke_352 rfl (lv_at hl 0 rfl) ?_
  refine lv_iconst (v := 3) hx hb ke_353 (by decide) ?_
  refine lv_iadd hx hb ke_354 ?_
  rw [show nI i + 3 = nI (i + 3) from nI_add i 3]
  refine va_sld hx hb hX hbl hbA hS (kw_in (j := 3) (by omega) hL) ke_355 ?_
  rw [c3]
  refine kw_call (as := [xs (i + 1), xs (i + 2), xs (i + 3)]) (rest := [.int v]) (ad := ad1) (G := 1) (ci := 7) (idx := 39) (mi := 121) (d := 2) (wo := fn_W ad0 dA 0 x') B had1 hRO1 hge1 (fun k q hq hA => by obtain ⟨hk, rfl⟩ := fn_W_get hq; exact hap _ ⟨k, hk, rfl⟩ hA) hP1 hP0 hS hl.1 e1 (by decide) (by decide +kernel) rfl (r0 := (fn_C7, fn_F7, 42)) rfl rfl kl_154 kl_114 kl_152 kl_155 kl_153 rfl ke_356 (Nat.le_of_ble_eq_true rfl) (fun H locs hP1 hP0 hS => ?_) hcs
  refine lv_icmp_eq (tgt := 726) hx hb ke_359 (by decide) (fun _ => ?_) (fun h => absurd rfl h)
  exact kk H locs ls hl ⟨x', z', c', f', hP0, hP1, hS, hR'⟩
set_option maxHeartbeats 4000000 in
theorem kw_transfer (FX : kw_F D dA ad0 ad1 p s m meth c b L xs) (hi : i + 5 ≤ L) (hcs : cells ≤ 600000 ∧ slots ≤ 7302250) (kk : kw_Go l e D dA ad0 ad1 p s m below meth c b cells slots 726 i t) : kw_Go l e D dA ad0 ad1 p s m below meth c b cells slots 364 i t := by
  intro H locs ls hl ⟨x, z, cc, f, hP0, hP1, hS, hR⟩
  obtain ⟨B, hr, hlocks, hX, hbl, hL, had0, had1, hRO0, hRO1, hge0, hge1, hap⟩ := FX
  have hx := B.1
  have hb := B.2.1
  have hbA : ¬ (fun q => s.heap.size ≤ q) b := Nat.not_le.mpr hbl
  have c1 : (nI (i + 1)).toNatClampNeg = i + 1 := fr_cl (by omega)
  have c2 : (nI (i + 2)).toNatClampNeg = i + 2 := fr_cl (by omega)
  have c3 : (nI (i + 3)).toNatClampNeg = i + 3 := fr_cl (by omega)
  have c4 : (nI (i + 4)).toNatClampNeg = i + 4 := fr_cl (by omega)
  by_cases hz : xs (i + 3) = 0
  · obtain ⟨x', z', c', f', v, e0, e1, hR'⟩ := fp_transfer hR 0 0 0 0 (xs (i + 1)) (xs (i + 2)) (0) (xs (i + 4)) (by decide)
    refine lv_aload_n hx hb ke_364 rfl (lv_at hl 2 rfl) ?_
    refine lv_aload_n hx hb ke_365 rfl (lv_at hl 3 rfl) ?_
    refine lv_iload_n hx hb ke_366 rfl (lv_at hl 0 rfl) ?_
    refine lv_iconst (v := 1) hx hb ke_367 (by decide) ?_
    refine lv_iadd hx hb ke_368 ?_
    rw [show nI i + 1 = nI (i + 1) from nI_add i 1]
    refine va_sld hx hb hX hbl hbA hS (kw_in (j := 1) (by omega) hL) ke_369 ?_
    rw [c1]
    refine lv_aload_n hx hb ke_370 rfl (lv_at hl 3 rfl) ?_
    refine lv_iload_n hx hb ke_371 rfl (lv_at hl 0 rfl) ?_
    refine lv_iconst (v := 2) hx hb ke_372 (by decide) ?_
    refine lv_iadd hx hb ke_373 ?_
    rw [show nI i + 2 = nI (i + 2) from nI_add i 2]
    refine va_sld hx hb hX hbl hbA hS (kw_in (j := 2) (by omega) hL) ke_374 ?_
    rw [c2]
    refine lv_aload_n hx hb ke_375 rfl (lv_at hl 3 rfl) ?_
    refine lv_iload_n hx hb ke_376 rfl (lv_at hl 0 rfl) ?_
    refine lv_iconst (v := 3) hx hb ke_377 (by decide) ?_
    refine lv_iadd hx hb ke_378 ?_
    rw [show nI i + 3 = nI (i + 3) from nI_add i 3]
    refine va_sld hx hb hX hbl hbA hS (kw_in (j := 3) (by omega) hL) ke_379 ?_
    rw [c3]
    refine lv_if_eq (tgt := 387) hx hb ke_380 (by decide) (fun _ => ?_) (fun h => absurd hz h)
    refine lv_iconst (v := 0) hx hb ke_387 (by decide) ?_
    refine lv_aload_n hx hb ke_388 rfl (lv_at hl 3 rfl) ?_
    refine lv_iload_n hx hb ke_389 rfl (lv_at hl 0 rfl) ?_
    refine lv_iconst (v := 4) hx hb ke_390 (by decide) ?_
    refine lv_iadd hx hb ke_391 ?_
    rw [show nI i + 4 = nI (i + 4) from nI_add i 4]
    refine va_sld hx hb hX hbl hbA hS (kw_in (j := 4) (by omega) hL) ke_392 ?_
    rw [c4]
    refine kw_call (as := [xs (i + 1), xs (i + 2), 0, xs (i + 4)]) (rest := []) (ad := ad0) (G := 0) (ci := 6) (idx := 40) (mi := 67) (d := 4) (wo := fn_W ad1 dA 1 z) B had0 hRO0 hge0 (fun k q hq hA => by obtain ⟨hk, rfl⟩ := fn_W_get hq; exact hap _ hA ⟨k, hk, rfl⟩) hP0 hP1 hS hl.1 e0 (by decide) (by decide +kernel) rfl (r0 := (fn_C6, fn_F6, 3)) rfl rfl kl_158 kl_109 kl_156 kl_159 kl_157 rfl ke_393 (by decide) (fun H locs hP0 hP1 hS => ?_) hcs
    refine lv_aload_n hx hb ke_396 rfl (lv_at hl 1 rfl) ?_
    refine lv_aload_n hx hb ke_397 rfl (lv_at hl 3 rfl) ?_
    refine lv_iload_n hx hb ke_398 rfl (lv_at hl 0 rfl) ?_
    refine lv_iconst (v := 1) hx hb ke_399 (by decide) ?_
    refine lv_iadd hx hb ke_400 ?_
    rw [show nI i + 1 = nI (i + 1) from nI_add i 1]
    refine va_sld hx hb hX hbl hbA hS (kw_in (j := 1) (by omega) hL) ke_401 ?_
    rw [c1]
    refine lv_aload_n hx hb ke_402 rfl (lv_at hl 3 rfl) ?_
    refine lv_iload_n hx hb ke_403 rfl (lv_at hl 0 rfl) ?_
    refine lv_iconst (v := 2) hx hb ke_404 (by decide) ?_
    refine lv_iadd hx hb ke_405 ?_
    rw [show nI i + 2 = nI (i + 2) from nI_add i 2]
    refine va_sld hx hb hX hbl hbA hS (kw_in (j := 2) (by omega) hL) ke_406 ?_
    rw [c2]
    refine lv_aload_n hx hb ke_407 rfl (lv_at hl 3 rfl) ?_
    refine lv_iload_n hx hb ke_408 rfl (lv_at hl 0 rfl) ?_
    refine lv_iconst (v := 3) hx hb ke_409 (by decide) ?_
    refine lv_iadd hx hb ke_410 ?_
    rw [show nI i + 3 = nI (i + 3) from nI_add i 3]
    refine va_sld hx hb hX hbl hbA hS (kw_in (j := 3) (by omega) hL) ke_411 ?_
    rw [c3]
    refine lv_if_eq (tgt := 419) hx hb ke_412 (by decide) (fun _ => ?_) (fun h => absurd hz h)
    refine lv_iconst (v := 0) hx hb ke_419 (by decide) ?_
    refine lv_aload_n hx hb ke_420 rfl (lv_at hl 3 rfl) ?_
    refine lv_iload_n hx hb ke_421 rfl (lv_at hl 0 rfl) ?_
    refine lv_iconst (v := 4) hx hb ke_422 (by decide) ?_
    refine lv_iadd hx hb ke_423 ?_
    rw [show nI i + 4 = nI (i + 4) from nI_add i 4]
    refine va_sld hx hb hX hbl hbA hS (kw_in (j := 4) (by omega) hL) ke_424 ?_
    rw [c4]
    refine kw_call (as := [xs (i + 1), xs (i + 2), 0, xs (i + 4)]) (rest := [.int v]) (ad := ad1) (G := 1) (ci := 7) (idx := 44) (mi := 122) (d := 4) (wo := fn_W ad0 dA 0 x') B had1 hRO1 hge1 (fun k q hq hA => by obtain ⟨hk, rfl⟩ := fn_W_get hq; exact hap _ ⟨k, hk, rfl⟩ hA) hP1 hP0 hS hl.1 e1 (by decide) (by decide +kernel) rfl (r0 := (fn_C7, fn_F7, 42)) rfl rfl kl_162 kl_114 kl_160 kl_163 kl_161 rfl ke_425 (Nat.le_of_ble_eq_true rfl) (fun H locs hP1 hP0 hS => ?_) hcs
    refine lv_icmp_eq (tgt := 726) hx hb ke_428 (by decide) (fun _ => ?_) (fun h => absurd rfl h)
    exact kk H locs ls hl ⟨x', z', c', f', hP0, hP1, hS, hR'⟩
  · obtain ⟨x', z', c', f', v, e0, e1, hR'⟩ := fp_transfer hR 0 0 0 0 (xs (i + 1)) (xs (i + 2)) (1) (xs (i + 4)) (by decide)
    refine lv_aload_n hx hb ke_364 rfl (lv_at hl 2 rfl) ?_
    refine lv_aload_n hx hb ke_365 rfl (lv_at hl 3 rfl) ?_
    refine lv_iload_n hx hb ke_366 rfl (lv_at hl 0 rfl) ?_
    refine lv_iconst (v := 1) hx hb ke_367 (by decide) ?_
    refine lv_iadd hx hb ke_368 ?_
    rw [show nI i + 1 = nI (i + 1) from nI_add i 1]
    refine va_sld hx hb hX hbl hbA hS (kw_in (j := 1) (by omega) hL) ke_369 ?_
    rw [c1]
    refine lv_aload_n hx hb ke_370 rfl (lv_at hl 3 rfl) ?_
    refine lv_iload_n hx hb ke_371 rfl (lv_at hl 0 rfl) ?_
    refine lv_iconst (v := 2) hx hb ke_372 (by decide) ?_
    refine lv_iadd hx hb ke_373 ?_
    rw [show nI i + 2 = nI (i + 2) from nI_add i 2]
    refine va_sld hx hb hX hbl hbA hS (kw_in (j := 2) (by omega) hL) ke_374 ?_
    rw [c2]
    refine lv_aload_n hx hb ke_375 rfl (lv_at hl 3 rfl) ?_
    refine lv_iload_n hx hb ke_376 rfl (lv_at hl 0 rfl) ?_
    refine lv_iconst (v := 3) hx hb ke_377 (by decide) ?_
    refine lv_iadd hx hb ke_378 ?_
    rw [show nI i + 3 = nI (i + 3) from nI_add i 3]
    refine va_sld hx hb hX hbl hbA hS (kw_in (j := 3) (by omega) hL) ke_379 ?_
    rw [c3]
    refine lv_if_eq (tgt := 387) hx hb ke_380 (by decide) (fun h => absurd h hz) (fun _ => ?_)
    refine lv_iconst (v := 1) hx hb ke_383 (by decide) ?_
    refine lv_goto (tgt := 388) hx hb ke_384 (by decide) ?_
    refine lv_aload_n hx hb ke_388 rfl (lv_at hl 3 rfl) ?_
    refine lv_iload_n hx hb ke_389 rfl (lv_at hl 0 rfl) ?_
    refine lv_iconst (v := 4) hx hb ke_390 (by decide) ?_
    refine lv_iadd hx hb ke_391 ?_
    rw [show nI i + 4 = nI (i + 4) from nI_add i 4]
    refine va_sld hx hb hX hbl hbA hS (kw_in (j := 4) (by omega) hL) ke_392 ?_
    rw [c4]
    refine kw_call (as := [xs (i + 1), xs (i + 2), 1, xs (i + 4)]) (rest := []) (ad := ad0) (G := 0) (ci := 6) (idx := 40) (mi := 67) (d := 4) (wo := fn_W ad1 dA 1 z) B had0 hRO0 hge0 (fun k q hq hA => by obtain ⟨hk, rfl⟩ := fn_W_get hq; exact hap _ hA ⟨k, hk, rfl⟩) hP0 hP1 hS hl.1 e0 (by decide) (by decide +kernel) rfl (r0 := (fn_C6, fn_F6, 3)) rfl rfl kl_158 kl_109 kl_156 kl_159 kl_157 rfl ke_393 (by decide) (fun H locs hP0 hP1 hS => ?_) hcs
    refine lv_aload_n hx hb ke_396 rfl (lv_at hl 1 rfl) ?_
    refine lv_aload_n hx hb ke_397 rfl (lv_at hl 3 rfl) ?_
    refine lv_iload_n hx hb ke_398 rfl (lv_at hl 0 rfl) ?_
    refine lv_iconst (v := 1) hx hb ke_399 (by decide) ?_
    refine lv_iadd hx hb ke_400 ?_
    rw [show nI i + 1 = nI (i + 1) from nI_add i 1]
    refine va_sld hx hb hX hbl hbA hS (kw_in (j := 1) (by omega) hL) ke_401 ?_
    rw [c1]
    refine lv_aload_n hx hb ke_402 rfl (lv_at hl 3 rfl) ?_
    refine lv_iload_n hx hb ke_403 rfl (lv_at hl 0 rfl) ?_
    refine lv_iconst (v := 2) hx hb ke_404 (by decide) ?_
    refine lv_iadd hx hb ke_405 ?_
    rw [show nI i + 2 = nI (i + 2) from nI_add i 2]
    refine va_sld hx hb hX hbl hbA hS (kw_in (j := 2) (by omega) hL) ke_406 ?_
    rw [c2]
    refine lv_aload_n hx hb ke_407 rfl (lv_at hl 3 rfl) ?_
    refine lv_iload_n hx hb ke_408 rfl (lv_at hl 0 rfl) ?_
    refine lv_iconst (v := 3) hx hb ke_409 (by decide) ?_
    refine lv_iadd hx hb ke_410 ?_
    rw [show nI i + 3 = nI (i + 3) from nI_add i 3]
    refine va_sld hx hb hX hbl hbA hS (kw_in (j := 3) (by omega) hL) ke_411 ?_
    rw [c3]
    refine lv_if_eq (tgt := 419) hx hb ke_412 (by decide) (fun h => absurd h hz) (fun _ => ?_)
    refine lv_iconst (v := 1) hx hb ke_415 (by decide) ?_
    refine lv_goto (tgt := 420) hx hb ke_416 (by decide) ?_
    refine lv_aload_n hx hb ke_420 rfl (lv_at hl 3 rfl) ?_
    refine lv_iload_n hx hb ke_421 rfl (lv_at hl 0 rfl) ?_
    refine lv_iconst (v := 4) hx hb ke_422 (by decide) ?_
    refine lv_iadd hx hb ke_423 ?_
    rw [show nI i + 4 = nI (i + 4) from nI_add i 4]
    refine va_sld hx hb hX hbl hbA hS (kw_in (j := 4) (by omega) hL) ke_424 ?_
    rw [c4]
    refine kw_call (as := [xs (i + 1), xs (i + 2), 1, xs (i + 4)]) (rest := [.int v]) (ad := ad1) (G := 1) (ci := 7) (idx := 44) (mi := 122) (d := 4) (wo := fn_W ad0 dA 0 x') B had1 hRO1 hge1 (fun k q hq hA => by obtain ⟨hk, rfl⟩ := fn_W_get hq; exact hap _ ⟨k, hk, rfl⟩ hA) hP1 hP0 hS hl.1 e1 (by decide) (by decide +kernel) rfl (r0 := (fn_C7, fn_F7, 42)) rfl rfl kl_162 kl_114 kl_160 kl_163 kl_161 rfl ke_425 (Nat.le_of_ble_eq_true rfl) (fun H locs hP1 hP0 hS => ?_) hcs
    refine lv_icmp_eq (tgt := 726) hx hb ke_428 (by decide) (fun _ => ?_) (fun h => absurd rfl h)
    exact kk H locs ls hl ⟨x', z', c', f', hP0, hP1, hS, hR'⟩
set_option maxHeartbeats 4000000 in
theorem kw_sync (FX : kw_F D dA ad0 ad1 p s m meth c b L xs) (hi : i + 5 ≤ L) (hcs : cells ≤ 600000 ∧ slots ≤ 7302250) (kk : kw_Go l e D dA ad0 ad1 p s m below meth c b cells slots 726 i t) : kw_Go l e D dA ad0 ad1 p s m below meth c b cells slots 433 i t := by
  intro H locs ls hl ⟨x, z, cc, f, hP0, hP1, hS, hR⟩
  obtain ⟨B, hr, hlocks, hX, hbl, hL, had0, had1, hRO0, hRO1, hge0, hge1, hap⟩ := FX
  have hx := B.1
  have hb := B.2.1
  have hbA : ¬ (fun q => s.heap.size ≤ q) b := Nat.not_le.mpr hbl
  have c1 : (nI (i + 1)).toNatClampNeg = i + 1 := fr_cl (by omega)
  have c2 : (nI (i + 2)).toNatClampNeg = i + 2 := fr_cl (by omega)
  have c3 : (nI (i + 3)).toNatClampNeg = i + 3 := fr_cl (by omega)
  have c4 : (nI (i + 4)).toNatClampNeg = i + 4 := fr_cl (by omega)
  obtain ⟨x', z', c', f', v, e0, e1, hR'⟩ := fp_sync hR 0 0 0 0 (xs (i + 1))
  refine lv_aload_n hx hb ke_433 rfl (lv_at hl 2 rfl) ?_
  refine lv_aload_n hx hb ke_434 rfl (lv_at hl 3 rfl) ?_
  refine lv_iload_n hx hb ke_435 rfl (lv_at hl 0 rfl) ?_
  refine lv_iconst (v := 1) hx hb ke_436 (by decide) ?_
  refine lv_iadd hx hb ke_437 ?_
  rw [show nI i + 1 = nI (i + 1) from nI_add i 1]
  refine va_sld hx hb hX hbl hbA hS (kw_in (j := 1) (by omega) hL) ke_438 ?_
  rw [c1]
  refine kw_call (as := [xs (i + 1)]) (rest := []) (ad := ad0) (G := 0) (ci := 6) (idx := 45) (mi := 68) (d := 2) (wo := fn_W ad1 dA 1 z) B had0 hRO0 hge0 (fun k q hq hA => by obtain ⟨hk, rfl⟩ := fn_W_get hq; exact hap _ hA ⟨k, hk, rfl⟩) hP0 hP1 hS hl.1 e0 (by decide) (by decide +kernel) rfl (r0 := (fn_C6, fn_F6, 3)) rfl rfl kl_166 kl_109 kl_164 kl_167 kl_165 rfl ke_439 (by decide) (fun H locs hP0 hP1 hS => ?_) hcs
  refine lv_aload_n hx hb ke_442 rfl (lv_at hl 1 rfl) ?_
  refine lv_aload_n hx hb ke_443 rfl (lv_at hl 3 rfl) ?_
  refine lv_iload_n hx hb ke_444 rfl (lv_at hl 0 rfl) ?_
  refine lv_iconst (v := 1) hx hb ke_445 (by decide) ?_
  refine lv_iadd hx hb ke_446 ?_
  rw [show nI i + 1 = nI (i + 1) from nI_add i 1]
  refine va_sld hx hb hX hbl hbA hS (kw_in (j := 1) (by omega) hL) ke_447 ?_
  rw [c1]
  refine kw_call (as := [xs (i + 1)]) (rest := [.int v]) (ad := ad1) (G := 1) (ci := 7) (idx := 49) (mi := 123) (d := 2) (wo := fn_W ad0 dA 0 x') B had1 hRO1 hge1 (fun k q hq hA => by obtain ⟨hk, rfl⟩ := fn_W_get hq; exact hap _ ⟨k, hk, rfl⟩ hA) hP1 hP0 hS hl.1 e1 (by decide) (by decide +kernel) rfl (r0 := (fn_C7, fn_F7, 42)) rfl rfl kl_170 kl_114 kl_168 kl_171 kl_169 rfl ke_448 (Nat.le_of_ble_eq_true rfl) (fun H locs hP1 hP0 hS => ?_) hcs
  refine lv_icmp_eq (tgt := 726) hx hb ke_451 (by decide) (fun _ => ?_) (fun h => absurd rfl h)
  exact kk H locs ls hl ⟨x', z', c', f', hP0, hP1, hS, hR'⟩
set_option maxHeartbeats 4000000 in
theorem kw_inject (FX : kw_F D dA ad0 ad1 p s m meth c b L xs) (hi : i + 5 ≤ L) (hcs : cells ≤ 600000 ∧ slots ≤ 7302250) (kk : kw_Go l e D dA ad0 ad1 p s m below meth c b cells slots 726 i t) : kw_Go l e D dA ad0 ad1 p s m below meth c b cells slots 456 i t := by
  intro H locs ls hl ⟨x, z, cc, f, hP0, hP1, hS, hR⟩
  obtain ⟨B, hr, hlocks, hX, hbl, hL, had0, had1, hRO0, hRO1, hge0, hge1, hap⟩ := FX
  have hx := B.1
  have hb := B.2.1
  have hbA : ¬ (fun q => s.heap.size ≤ q) b := Nat.not_le.mpr hbl
  have c1 : (nI (i + 1)).toNatClampNeg = i + 1 := fr_cl (by omega)
  have c2 : (nI (i + 2)).toNatClampNeg = i + 2 := fr_cl (by omega)
  have c3 : (nI (i + 3)).toNatClampNeg = i + 3 := fr_cl (by omega)
  have c4 : (nI (i + 4)).toNatClampNeg = i + 4 := fr_cl (by omega)
  obtain ⟨x', z', c', f', v, e0, e1, hR'⟩ := fp_inject hR 0 0 0 0 (xs (i + 1)) (xs (i + 2)) (xs (i + 3)) (xs (i + 4))
  refine lv_aload_n hx hb ke_456 rfl (lv_at hl 2 rfl) ?_
  refine lv_aload_n hx hb ke_457 rfl (lv_at hl 3 rfl) ?_
  refine lv_iload_n hx hb ke_458 rfl (lv_at hl 0 rfl) ?_
  refine lv_iconst (v := 1) hx hb ke_459 (by decide) ?_
  refine lv_iadd hx hb ke_460 ?_
  rw [show nI i + 1 = nI (i + 1) from nI_add i 1]
  refine va_sld hx hb hX hbl hbA hS (kw_in (j := 1) (by omega) hL) ke_461 ?_
  rw [c1]
  refine lv_aload_n hx hb ke_462 rfl (lv_at hl 3 rfl) ?_
  refine lv_iload_n hx hb ke_463 rfl (lv_at hl 0 rfl) ?_
  refine lv_iconst (v := 2) hx hb ke_464 (by decide) ?_
  refine lv_iadd hx hb ke_465 ?_
  rw [show nI i + 2 = nI (i + 2) from nI_add i 2]
  refine va_sld hx hb hX hbl hbA hS (kw_in (j := 2) (by omega) hL) ke_466 ?_
  rw [c2]
  refine lv_aload_n hx hb ke_467 rfl (lv_at hl 3 rfl) ?_
  refine lv_iload_n hx hb ke_468 rfl (lv_at hl 0 rfl) ?_
  refine lv_iconst (v := 3) hx hb ke_469 (by decide) ?_
  refine lv_iadd hx hb ke_470 ?_
  rw [show nI i + 3 = nI (i + 3) from nI_add i 3]
  refine va_sld hx hb hX hbl hbA hS (kw_in (j := 3) (by omega) hL) ke_471 ?_
  rw [c3]
  refine lv_aload_n hx hb ke_472 rfl (lv_at hl 3 rfl) ?_
  refine lv_iload_n hx hb ke_473 rfl (lv_at hl 0 rfl) ?_
  refine lv_iconst (v := 4) hx hb ke_474 (by decide) ?_
  refine lv_iadd hx hb ke_475 ?_
  rw [show nI i + 4 = nI (i + 4) from nI_add i 4]
  refine va_sld hx hb hX hbl hbA hS (kw_in (j := 4) (by omega) hL) ke_476 ?_
  rw [c4]
  refine kw_call (as := [xs (i + 1), xs (i + 2), xs (i + 3), xs (i + 4)]) (rest := []) (ad := ad0) (G := 0) (ci := 6) (idx := 50) (mi := 69) (d := 2) (wo := fn_W ad1 dA 1 z) B had0 hRO0 hge0 (fun k q hq hA => by obtain ⟨hk, rfl⟩ := fn_W_get hq; exact hap _ hA ⟨k, hk, rfl⟩) hP0 hP1 hS hl.1 e0 (by decide) (by decide +kernel) rfl (r0 := (fn_C6, fn_F6, 3)) rfl rfl kl_174 kl_109 kl_172 kl_175 kl_173 rfl ke_477 (by decide) (fun H locs hP0 hP1 hS => ?_) hcs
  refine lv_aload_n hx hb ke_480 rfl (lv_at hl 1 rfl) ?_
  refine lv_aload_n hx hb ke_481 rfl (lv_at hl 3 rfl) ?_
  refine lv_iload_n hx hb ke_482 rfl (lv_at hl 0 rfl) ?_
  refine lv_iconst (v := 1) hx hb ke_483 (by decide) ?_
  refine lv_iadd hx hb ke_484 ?_
  rw [show nI i + 1 = nI (i + 1) from nI_add i 1]
  refine va_sld hx hb hX hbl hbA hS (kw_in (j := 1) (by omega) hL) ke_485 ?_
  rw [c1]
  refine lv_aload_n hx hb ke_486 rfl (lv_at hl 3 rfl) ?_
  refine lv_iload_n hx hb ke_487 rfl (lv_at hl 0 rfl) ?_
  refine lv_iconst (v := 2) hx hb ke_488 (by decide) ?_
  refine lv_iadd hx hb ke_489 ?_
  rw [show nI i + 2 = nI (i + 2) from nI_add i 2]
  refine va_sld hx hb hX hbl hbA hS (kw_in (j := 2) (by omega) hL) ke_490 ?_
  rw [c2]
  refine lv_aload_n hx hb ke_491 rfl (lv_at hl 3 rfl) ?_
  refine lv_iload_n hx hb ke_492 rfl (lv_at hl 0 rfl) ?_
  refine lv_iconst (v := 3) hx hb ke_493 (by decide) ?_
  refine lv_iadd hx hb ke_494 ?_
  rw [show nI i + 3 = nI (i + 3) from nI_add i 3]
  refine va_sld hx hb hX hbl hbA hS (kw_in (j := 3) (by omega) hL) ke_495 ?_
  rw [c3]
  refine lv_aload_n hx hb ke_496 rfl (lv_at hl 3 rfl) ?_
  refine lv_iload_n hx hb ke_497 rfl (lv_at hl 0 rfl) ?_
  refine lv_iconst (v := 4) hx hb ke_498 (by decide) ?_
  refine lv_iadd hx hb ke_499 ?_
  rw [show nI i + 4 = nI (i + 4) from nI_add i 4]
  refine va_sld hx hb hX hbl hbA hS (kw_in (j := 4) (by omega) hL) ke_500 ?_
  rw [c4]
  refine kw_call (as := [xs (i + 1), xs (i + 2), xs (i + 3), xs (i + 4)]) (rest := [.int v]) (ad := ad1) (G := 1) (ci := 7) (idx := 54) (mi := 124) (d := 2) (wo := fn_W ad0 dA 0 x') B had1 hRO1 hge1 (fun k q hq hA => by obtain ⟨hk, rfl⟩ := fn_W_get hq; exact hap _ ⟨k, hk, rfl⟩ hA) hP1 hP0 hS hl.1 e1 (by decide) (by decide +kernel) rfl (r0 := (fn_C7, fn_F7, 42)) rfl rfl kl_178 kl_114 kl_176 kl_179 kl_177 rfl ke_501 (Nat.le_of_ble_eq_true rfl) (fun H locs hP1 hP0 hS => ?_) hcs
  refine lv_icmp_eq (tgt := 726) hx hb ke_504 (by decide) (fun _ => ?_) (fun h => absurd rfl h)
  exact kk H locs ls hl ⟨x', z', c', f', hP0, hP1, hS, hR'⟩
set_option maxHeartbeats 4000000 in
theorem kw_disturb (FX : kw_F D dA ad0 ad1 p s m meth c b L xs) (hi : i + 5 ≤ L) (hcs : cells ≤ 600000 ∧ slots ≤ 7302250) (kk : kw_Go l e D dA ad0 ad1 p s m below meth c b cells slots 726 i t) : kw_Go l e D dA ad0 ad1 p s m below meth c b cells slots 509 i t := by
  intro H locs ls hl ⟨x, z, cc, f, hP0, hP1, hS, hR⟩
  obtain ⟨B, hr, hlocks, hX, hbl, hL, had0, had1, hRO0, hRO1, hge0, hge1, hap⟩ := FX
  have hx := B.1
  have hb := B.2.1
  have hbA : ¬ (fun q => s.heap.size ≤ q) b := Nat.not_le.mpr hbl
  have c1 : (nI (i + 1)).toNatClampNeg = i + 1 := fr_cl (by omega)
  have c2 : (nI (i + 2)).toNatClampNeg = i + 2 := fr_cl (by omega)
  have c3 : (nI (i + 3)).toNatClampNeg = i + 3 := fr_cl (by omega)
  have c4 : (nI (i + 4)).toNatClampNeg = i + 4 := fr_cl (by omega)
  obtain ⟨x', z', c', f', v, e0, e1, hR'⟩ := fp_disturb hR 0 0 0 0 (xs (i + 1))
  refine lv_aload_n hx hb ke_509 rfl (lv_at hl 2 rfl) ?_
  refine lv_aload_n hx hb ke_510 rfl (lv_at hl 3 rfl) ?_
  refine lv_iload_n hx hb ke_511 rfl (lv_at hl 0 rfl) ?_
  refine lv_iconst (v := 1) hx hb ke_512 (by decide) ?_
  refine lv_iadd hx hb ke_513 ?_
  rw [show nI i + 1 = nI (i + 1) from nI_add i 1]
  refine va_sld hx hb hX hbl hbA hS (kw_in (j := 1) (by omega) hL) ke_514 ?_
  rw [c1]
  refine kw_call (as := [xs (i + 1)]) (rest := []) (ad := ad0) (G := 0) (ci := 6) (idx := 55) (mi := 70) (d := 2) (wo := fn_W ad1 dA 1 z) B had0 hRO0 hge0 (fun k q hq hA => by obtain ⟨hk, rfl⟩ := fn_W_get hq; exact hap _ hA ⟨k, hk, rfl⟩) hP0 hP1 hS hl.1 e0 (by decide) (by decide +kernel) rfl (r0 := (fn_C6, fn_F6, 3)) rfl rfl kl_182 kl_109 kl_180 kl_183 kl_181 rfl ke_515 (by decide) (fun H locs hP0 hP1 hS => ?_) hcs
  refine lv_aload_n hx hb ke_518 rfl (lv_at hl 1 rfl) ?_
  refine lv_aload_n hx hb ke_519 rfl (lv_at hl 3 rfl) ?_
  refine lv_iload_n hx hb ke_520 rfl (lv_at hl 0 rfl) ?_
  refine lv_iconst (v := 1) hx hb ke_521 (by decide) ?_
  refine lv_iadd hx hb ke_522 ?_
  rw [show nI i + 1 = nI (i + 1) from nI_add i 1]
  refine va_sld hx hb hX hbl hbA hS (kw_in (j := 1) (by omega) hL) ke_523 ?_
  rw [c1]
  refine kw_call (as := [xs (i + 1)]) (rest := [.int v]) (ad := ad1) (G := 1) (ci := 7) (idx := 58) (mi := 125) (d := 2) (wo := fn_W ad0 dA 0 x') B had1 hRO1 hge1 (fun k q hq hA => by obtain ⟨hk, rfl⟩ := fn_W_get hq; exact hap _ ⟨k, hk, rfl⟩ hA) hP1 hP0 hS hl.1 e1 (by decide) (by decide +kernel) rfl (r0 := (fn_C7, fn_F7, 42)) rfl rfl kl_186 kl_114 kl_184 kl_187 kl_185 rfl ke_524 (Nat.le_of_ble_eq_true rfl) (fun H locs hP1 hP0 hS => ?_) hcs
  refine lv_icmp_eq (tgt := 726) hx hb ke_527 (by decide) (fun _ => ?_) (fun h => absurd rfl h)
  exact kk H locs ls hl ⟨x', z', c', f', hP0, hP1, hS, hR'⟩
set_option maxHeartbeats 4000000 in
theorem kw_tick (FX : kw_F D dA ad0 ad1 p s m meth c b L xs) (hi : i + 5 ≤ L) (hcs : cells ≤ 600000 ∧ slots ≤ 7302250) (ht : t + 1 ≤ 1000) (kk : kw_Go l e D dA ad0 ad1 p s m below meth c b cells slots 726 i (t + 1)) : kw_Go l e D dA ad0 ad1 p s m below meth c b cells slots 532 i t := by
  intro H locs ls hl ⟨x, z, cc, f, hP0, hP1, hS, hR⟩
  obtain ⟨B, hr, hlocks, hX, hbl, hL, had0, had1, hRO0, hRO1, hge0, hge1, hap⟩ := FX
  have hx := B.1
  have hb := B.2.1
  have hbA : ¬ (fun q => s.heap.size ≤ q) b := Nat.not_le.mpr hbl
  have c1 : (nI (i + 1)).toNatClampNeg = i + 1 := fr_cl (by omega)
  have c2 : (nI (i + 2)).toNatClampNeg = i + 2 := fr_cl (by omega)
  have c3 : (nI (i + 3)).toNatClampNeg = i + 3 := fr_cl (by omega)
  have c4 : (nI (i + 4)).toNatClampNeg = i + 4 := fr_cl (by omega)
  obtain ⟨x', z', c', f', v, e0, e1, hR'⟩ := fp_tick hR ht 0 0 0 0 
  refine lv_aload_n hx hb ke_532 rfl (lv_at hl 2 rfl) ?_
  refine kw_call (as := []) (rest := []) (ad := ad0) (G := 0) (ci := 6) (idx := 59) (mi := 71) (d := 9) (wo := fn_W ad1 dA 1 z) B had0 hRO0 hge0 (fun k q hq hA => by obtain ⟨hk, rfl⟩ := fn_W_get hq; exact hap _ hA ⟨k, hk, rfl⟩) hP0 hP1 hS hl.1 e0 (by decide) (by decide +kernel) rfl (r0 := (fn_C6, fn_F6, 3)) rfl rfl kl_190 kl_109 kl_188 kl_191 kl_189 rfl ke_533 (by decide) (fun H locs hP0 hP1 hS => ?_) hcs
  refine lv_aload_n hx hb ke_536 rfl (lv_at hl 1 rfl) ?_
  refine kw_call (as := []) (rest := [.int v]) (ad := ad1) (G := 1) (ci := 7) (idx := 63) (mi := 126) (d := 10) (wo := fn_W ad0 dA 0 x') B had1 hRO1 hge1 (fun k q hq hA => by obtain ⟨hk, rfl⟩ := fn_W_get hq; exact hap _ ⟨k, hk, rfl⟩ hA) hP1 hP0 hS hl.1 e1 (by decide) (by decide +kernel) rfl (r0 := (fn_C7, fn_F7, 42)) rfl rfl kl_194 kl_114 kl_192 kl_195 kl_193 rfl ke_537 (Nat.le_of_ble_eq_true rfl) (fun H locs hP1 hP0 hS => ?_) hcs
  refine lv_icmp_eq (tgt := 726) hx hb ke_540 (by decide) (fun _ => ?_) (fun h => absurd rfl h)
  exact kk H locs ls hl ⟨x', z', c', f', hP0, hP1, hS, hR'⟩
set_option maxHeartbeats 4000000 in
theorem kw_object (FX : kw_F D dA ad0 ad1 p s m meth c b L xs) (hi : i + 5 ≤ L) (hcs : cells ≤ 600000 ∧ slots ≤ 7302250) (kk : kw_Go l e D dA ad0 ad1 p s m below meth c b cells slots 726 i t) : kw_Go l e D dA ad0 ad1 p s m below meth c b cells slots 545 i t := by
  intro H locs ls hl ⟨x, z, cc, f, hP0, hP1, hS, hR⟩
  obtain ⟨B, hr, hlocks, hX, hbl, hL, had0, had1, hRO0, hRO1, hge0, hge1, hap⟩ := FX
  have hx := B.1
  have hb := B.2.1
  have hbA : ¬ (fun q => s.heap.size ≤ q) b := Nat.not_le.mpr hbl
  have c1 : (nI (i + 1)).toNatClampNeg = i + 1 := fr_cl (by omega)
  have c2 : (nI (i + 2)).toNatClampNeg = i + 2 := fr_cl (by omega)
  have c3 : (nI (i + 3)).toNatClampNeg = i + 3 := fr_cl (by omega)
  have c4 : (nI (i + 4)).toNatClampNeg = i + 4 := fr_cl (by omega)
  obtain ⟨x', z', c', f', v, e0, e1, hR'⟩ := fp_object hR 0 0 0 0 (xs (i + 1)) (xs (i + 2))
  refine lv_aload_n hx hb ke_545 rfl (lv_at hl 2 rfl) ?_
  refine lv_aload_n hx hb ke_546 rfl (lv_at hl 3 rfl) ?_
  refine lv_iload_n hx hb ke_547 rfl (lv_at hl 0 rfl) ?_
  refine lv_iconst (v := 1) hx hb ke_548 (by decide) ?_
  refine lv_iadd hx hb ke_549 ?_
  rw [show nI i + 1 = nI (i + 1) from nI_add i 1]
  refine va_sld hx hb hX hbl hbA hS (kw_in (j := 1) (by omega) hL) ke_550 ?_
  rw [c1]
  refine lv_aload_n hx hb ke_551 rfl (lv_at hl 3 rfl) ?_
  refine lv_iload_n hx hb ke_552 rfl (lv_at hl 0 rfl) ?_
  refine lv_iconst (v := 2) hx hb ke_553 (by decide) ?_
  refine lv_iadd hx hb ke_554 ?_
  rw [show nI i + 2 = nI (i + 2) from nI_add i 2]
  refine va_sld hx hb hX hbl hbA hS (kw_in (j := 2) (by omega) hL) ke_555 ?_
  rw [c2]
  refine kw_call (as := [xs (i + 1), xs (i + 2)]) (rest := []) (ad := ad0) (G := 0) (ci := 6) (idx := 64) (mi := 72) (d := 4) (wo := fn_W ad1 dA 1 z) B had0 hRO0 hge0 (fun k q hq hA => by obtain ⟨hk, rfl⟩ := fn_W_get hq; exact hap _ hA ⟨k, hk, rfl⟩) hP0 hP1 hS hl.1 e0 (by decide) (by decide +kernel) rfl (r0 := (fn_C6, fn_F6, 3)) rfl rfl kl_198 kl_109 kl_196 kl_199 kl_197 rfl ke_556 (by decide) (fun H locs hP0 hP1 hS => ?_) hcs
  refine lv_aload_n hx hb ke_559 rfl (lv_at hl 1 rfl) ?_
  refine lv_aload_n hx hb ke_560 rfl (lv_at hl 3 rfl) ?_
  refine lv_iload_n hx hb ke_561 rfl (lv_at hl 0 rfl) ?_
  refine lv_iconst (v := 1) hx hb ke_562 (by decide) ?_
  refine lv_iadd hx hb ke_563 ?_
  rw [show nI i + 1 = nI (i + 1) from nI_add i 1]
  refine va_sld hx hb hX hbl hbA hS (kw_in (j := 1) (by omega) hL) ke_564 ?_
  rw [c1]
  refine lv_aload_n hx hb ke_565 rfl (lv_at hl 3 rfl) ?_
  refine lv_iload_n hx hb ke_566 rfl (lv_at hl 0 rfl) ?_
  refine lv_iconst (v := 2) hx hb ke_567 (by decide) ?_
  refine lv_iadd hx hb ke_568 ?_
  rw [show nI i + 2 = nI (i + 2) from nI_add i 2]
  refine va_sld hx hb hX hbl hbA hS (kw_in (j := 2) (by omega) hL) ke_569 ?_
  rw [c2]
  refine kw_call (as := [xs (i + 1), xs (i + 2)]) (rest := [.int v]) (ad := ad1) (G := 1) (ci := 7) (idx := 68) (mi := 127) (d := 3) (wo := fn_W ad0 dA 0 x') B had1 hRO1 hge1 (fun k q hq hA => by obtain ⟨hk, rfl⟩ := fn_W_get hq; exact hap _ ⟨k, hk, rfl⟩ hA) hP1 hP0 hS hl.1 e1 (by decide) (by decide +kernel) rfl (r0 := (fn_C7, fn_F7, 42)) rfl rfl kl_202 kl_114 kl_200 kl_203 kl_201 rfl ke_570 (Nat.le_of_ble_eq_true rfl) (fun H locs hP1 hP0 hS => ?_) hcs
  refine lv_icmp_eq (tgt := 726) hx hb ke_573 (by decide) (fun _ => ?_) (fun h => absurd rfl h)
  exact kk H locs ls hl ⟨x', z', c', f', hP0, hP1, hS, hR'⟩
set_option maxHeartbeats 4000000 in
theorem kw_state (FX : kw_F D dA ad0 ad1 p s m meth c b L xs) (hi : i + 5 ≤ L) (hcs : cells ≤ 600000 ∧ slots ≤ 7302250) (kk : kw_Go l e D dA ad0 ad1 p s m below meth c b cells slots 726 i t) : kw_Go l e D dA ad0 ad1 p s m below meth c b cells slots 578 i t := by
  intro H locs ls hl ⟨x, z, cc, f, hP0, hP1, hS, hR⟩
  obtain ⟨B, hr, hlocks, hX, hbl, hL, had0, had1, hRO0, hRO1, hge0, hge1, hap⟩ := FX
  have hx := B.1
  have hb := B.2.1
  have hbA : ¬ (fun q => s.heap.size ≤ q) b := Nat.not_le.mpr hbl
  have c1 : (nI (i + 1)).toNatClampNeg = i + 1 := fr_cl (by omega)
  have c2 : (nI (i + 2)).toNatClampNeg = i + 2 := fr_cl (by omega)
  have c3 : (nI (i + 3)).toNatClampNeg = i + 3 := fr_cl (by omega)
  have c4 : (nI (i + 4)).toNatClampNeg = i + 4 := fr_cl (by omega)
  obtain ⟨x', z', c', f', v, e0, e1, hR'⟩ := fp_state hR 0 0 0 0 (xs (i + 1))
  refine lv_aload_n hx hb ke_578 rfl (lv_at hl 2 rfl) ?_
  refine lv_aload_n hx hb ke_579 rfl (lv_at hl 3 rfl) ?_
  refine lv_iload_n hx hb ke_580 rfl (lv_at hl 0 rfl) ?_
  refine lv_iconst (v := 1) hx hb ke_581 (by decide) ?_
  refine lv_iadd hx hb ke_582 ?_
  rw [show nI i + 1 = nI (i + 1) from nI_add i 1]
  refine va_sld hx hb hX hbl hbA hS (kw_in (j := 1) (by omega) hL) ke_583 ?_
  rw [c1]
  refine kw_call (as := [xs (i + 1)]) (rest := []) (ad := ad0) (G := 0) (ci := 6) (idx := 69) (mi := 73) (d := 2) (wo := fn_W ad1 dA 1 z) B had0 hRO0 hge0 (fun k q hq hA => by obtain ⟨hk, rfl⟩ := fn_W_get hq; exact hap _ hA ⟨k, hk, rfl⟩) hP0 hP1 hS hl.1 e0 (by decide) (by decide +kernel) rfl (r0 := (fn_C6, fn_F6, 3)) rfl rfl kl_206 kl_109 kl_204 kl_207 kl_205 rfl ke_584 (by decide) (fun H locs hP0 hP1 hS => ?_) hcs
  refine lv_aload_n hx hb ke_587 rfl (lv_at hl 1 rfl) ?_
  refine lv_aload_n hx hb ke_588 rfl (lv_at hl 3 rfl) ?_
  refine lv_iload_n hx hb ke_589 rfl (lv_at hl 0 rfl) ?_
  refine lv_iconst (v := 1) hx hb ke_590 (by decide) ?_
  refine lv_iadd hx hb ke_591 ?_
  rw [show nI i + 1 = nI (i + 1) from nI_add i 1]
  refine va_sld hx hb hX hbl hbA hS (kw_in (j := 1) (by omega) hL) ke_592 ?_
  rw [c1]
  refine kw_call (as := [xs (i + 1)]) (rest := [.int v]) (ad := ad1) (G := 1) (ci := 7) (idx := 73) (mi := 128) (d := 2) (wo := fn_W ad0 dA 0 x') B had1 hRO1 hge1 (fun k q hq hA => by obtain ⟨hk, rfl⟩ := fn_W_get hq; exact hap _ ⟨k, hk, rfl⟩ hA) hP1 hP0 hS hl.1 e1 (by decide) (by decide +kernel) rfl (r0 := (fn_C7, fn_F7, 42)) rfl rfl kl_210 kl_114 kl_208 kl_211 kl_209 rfl ke_593 (Nat.le_of_ble_eq_true rfl) (fun H locs hP1 hP0 hS => ?_) hcs
  refine lv_icmp_eq (tgt := 726) hx hb ke_596 (by decide) (fun _ => ?_) (fun h => absurd rfl h)
  exact kk H locs ls hl ⟨x', z', c', f', hP0, hP1, hS, hR'⟩
set_option maxHeartbeats 4000000 in
theorem kw_phase (FX : kw_F D dA ad0 ad1 p s m meth c b L xs) (hi : i + 5 ≤ L) (hcs : cells ≤ 600000 ∧ slots ≤ 7302250) (kk : kw_Go l e D dA ad0 ad1 p s m below meth c b cells slots 726 i t) : kw_Go l e D dA ad0 ad1 p s m below meth c b cells slots 601 i t := by
  intro H locs ls hl ⟨x, z, cc, f, hP0, hP1, hS, hR⟩
  obtain ⟨B, hr, hlocks, hX, hbl, hL, had0, had1, hRO0, hRO1, hge0, hge1, hap⟩ := FX
  have hx := B.1
  have hb := B.2.1
  have hbA : ¬ (fun q => s.heap.size ≤ q) b := Nat.not_le.mpr hbl
  have c1 : (nI (i + 1)).toNatClampNeg = i + 1 := fr_cl (by omega)
  have c2 : (nI (i + 2)).toNatClampNeg = i + 2 := fr_cl (by omega)
  have c3 : (nI (i + 3)).toNatClampNeg = i + 3 := fr_cl (by omega)
  have c4 : (nI (i + 4)).toNatClampNeg = i + 4 := fr_cl (by omega)
  obtain ⟨x', z', c', f', v, e0, e1, hR'⟩ := fp_phase hR 0 0 0 0 (xs (i + 1))
  refine lv_aload_n hx hb ke_601 rfl (lv_at hl 2 rfl) ?_
  refine lv_aload_n hx hb ke_602 rfl (lv_at hl 3 rfl) ?_
  refine lv_iload_n hx hb ke_603 rfl (lv_at hl 0 rfl) ?_
  refine lv_iconst (v := 1) hx hb ke_604 (by decide) ?_
  refine lv_iadd hx hb ke_605 ?_
  rw [show nI i + 1 = nI (i + 1) from nI_add i 1]
  refine va_sld hx hb hX hbl hbA hS (kw_in (j := 1) (by omega) hL) ke_606 ?_
  rw [c1]
  refine kw_call (as := [xs (i + 1)]) (rest := []) (ad := ad0) (G := 0) (ci := 6) (idx := 74) (mi := 74) (d := 2) (wo := fn_W ad1 dA 1 z) B had0 hRO0 hge0 (fun k q hq hA => by obtain ⟨hk, rfl⟩ := fn_W_get hq; exact hap _ hA ⟨k, hk, rfl⟩) hP0 hP1 hS hl.1 e0 (by decide) (by decide +kernel) rfl (r0 := (fn_C6, fn_F6, 3)) rfl rfl kl_214 kl_109 kl_212 kl_215 kl_213 rfl ke_607 (by decide) (fun H locs hP0 hP1 hS => ?_) hcs
  refine lv_aload_n hx hb ke_610 rfl (lv_at hl 1 rfl) ?_
  refine lv_aload_n hx hb ke_611 rfl (lv_at hl 3 rfl) ?_
  refine lv_iload_n hx hb ke_612 rfl (lv_at hl 0 rfl) ?_
  refine lv_iconst (v := 1) hx hb ke_613 (by decide) ?_
  refine lv_iadd hx hb ke_614 ?_
  rw [show nI i + 1 = nI (i + 1) from nI_add i 1]
  refine va_sld hx hb hX hbl hbA hS (kw_in (j := 1) (by omega) hL) ke_615 ?_
  rw [c1]
  refine kw_call (as := [xs (i + 1)]) (rest := [.int v]) (ad := ad1) (G := 1) (ci := 7) (idx := 77) (mi := 129) (d := 2) (wo := fn_W ad0 dA 0 x') B had1 hRO1 hge1 (fun k q hq hA => by obtain ⟨hk, rfl⟩ := fn_W_get hq; exact hap _ ⟨k, hk, rfl⟩ hA) hP1 hP0 hS hl.1 e1 (by decide) (by decide +kernel) rfl (r0 := (fn_C7, fn_F7, 42)) rfl rfl kl_218 kl_114 kl_216 kl_219 kl_217 rfl ke_616 (Nat.le_of_ble_eq_true rfl) (fun H locs hP1 hP0 hS => ?_) hcs
  refine lv_icmp_eq (tgt := 726) hx hb ke_619 (by decide) (fun _ => ?_) (fun h => absurd rfl h)
  exact kk H locs ls hl ⟨x', z', c', f', hP0, hP1, hS, hR'⟩
set_option maxHeartbeats 4000000 in
theorem kw_client (FX : kw_F D dA ad0 ad1 p s m meth c b L xs) (hi : i + 5 ≤ L) (hcs : cells ≤ 600000 ∧ slots ≤ 7302250) (kk : kw_Go l e D dA ad0 ad1 p s m below meth c b cells slots 726 i t) : kw_Go l e D dA ad0 ad1 p s m below meth c b cells slots 624 i t := by
  intro H locs ls hl ⟨x, z, cc, f, hP0, hP1, hS, hR⟩
  obtain ⟨B, hr, hlocks, hX, hbl, hL, had0, had1, hRO0, hRO1, hge0, hge1, hap⟩ := FX
  have hx := B.1
  have hb := B.2.1
  have hbA : ¬ (fun q => s.heap.size ≤ q) b := Nat.not_le.mpr hbl
  have c1 : (nI (i + 1)).toNatClampNeg = i + 1 := fr_cl (by omega)
  have c2 : (nI (i + 2)).toNatClampNeg = i + 2 := fr_cl (by omega)
  have c3 : (nI (i + 3)).toNatClampNeg = i + 3 := fr_cl (by omega)
  have c4 : (nI (i + 4)).toNatClampNeg = i + 4 := fr_cl (by omega)
  obtain ⟨x', z', c', f', v, e0, e1, hR'⟩ := fp_client hR 0 0 0 0 (xs (i + 1))
  refine lv_aload_n hx hb ke_624 rfl (lv_at hl 2 rfl) ?_
  refine lv_aload_n hx hb ke_625 rfl (lv_at hl 3 rfl) ?_
  refine lv_iload_n hx hb ke_626 rfl (lv_at hl 0 rfl) ?_
  refine lv_iconst (v := 1) hx hb ke_627 (by decide) ?_
  refine lv_iadd hx hb ke_628 ?_
  rw [show nI i + 1 = nI (i + 1) from nI_add i 1]
  refine va_sld hx hb hX hbl hbA hS (kw_in (j := 1) (by omega) hL) ke_629 ?_
  rw [c1]
  refine kw_call (as := [xs (i + 1)]) (rest := []) (ad := ad0) (G := 0) (ci := 6) (idx := 78) (mi := 75) (d := 2) (wo := fn_W ad1 dA 1 z) B had0 hRO0 hge0 (fun k q hq hA => by obtain ⟨hk, rfl⟩ := fn_W_get hq; exact hap _ hA ⟨k, hk, rfl⟩) hP0 hP1 hS hl.1 e0 (by decide) (by decide +kernel) rfl (r0 := (fn_C6, fn_F6, 3)) rfl rfl kl_222 kl_109 kl_220 kl_223 kl_221 rfl ke_630 (by decide) (fun H locs hP0 hP1 hS => ?_) hcs
  refine lv_aload_n hx hb ke_633 rfl (lv_at hl 1 rfl) ?_
  refine lv_aload_n hx hb ke_634 rfl (lv_at hl 3 rfl) ?_
  refine lv_iload_n hx hb ke_635 rfl (lv_at hl 0 rfl) ?_
  refine lv_iconst (v := 1) hx hb ke_636 (by decide) ?_
  refine lv_iadd hx hb ke_637 ?_
  rw [show nI i + 1 = nI (i + 1) from nI_add i 1]
  refine va_sld hx hb hX hbl hbA hS (kw_in (j := 1) (by omega) hL) ke_638 ?_
  rw [c1]
  refine kw_call (as := [xs (i + 1)]) (rest := [.int v]) (ad := ad1) (G := 1) (ci := 7) (idx := 81) (mi := 130) (d := 1) (wo := fn_W ad0 dA 0 x') B had1 hRO1 hge1 (fun k q hq hA => by obtain ⟨hk, rfl⟩ := fn_W_get hq; exact hap _ ⟨k, hk, rfl⟩ hA) hP1 hP0 hS hl.1 e1 (by decide) (by decide +kernel) rfl (r0 := (fn_C7, fn_F7, 42)) rfl rfl kl_226 kl_114 kl_224 kl_227 kl_225 rfl ke_639 (Nat.le_of_ble_eq_true rfl) (fun H locs hP1 hP0 hS => ?_) hcs
  refine lv_icmp_eq (tgt := 726) hx hb ke_642 (by decide) (fun _ => ?_) (fun h => absurd rfl h)
  exact kk H locs ls hl ⟨x', z', c', f', hP0, hP1, hS, hR'⟩
set_option maxHeartbeats 4000000 in
theorem kw_text (FX : kw_F D dA ad0 ad1 p s m meth c b L xs) (hi : i + 5 ≤ L) (hcs : cells ≤ 600000 ∧ slots ≤ 7302250) (kk : kw_Go l e D dA ad0 ad1 p s m below meth c b cells slots 726 i t) : kw_Go l e D dA ad0 ad1 p s m below meth c b cells slots 647 i t := by
  intro H locs ls hl ⟨x, z, cc, f, hP0, hP1, hS, hR⟩
  obtain ⟨B, hr, hlocks, hX, hbl, hL, had0, had1, hRO0, hRO1, hge0, hge1, hap⟩ := FX
  have hx := B.1
  have hb := B.2.1
  have hbA : ¬ (fun q => s.heap.size ≤ q) b := Nat.not_le.mpr hbl
  have c1 : (nI (i + 1)).toNatClampNeg = i + 1 := fr_cl (by omega)
  have c2 : (nI (i + 2)).toNatClampNeg = i + 2 := fr_cl (by omega)
  have c3 : (nI (i + 3)).toNatClampNeg = i + 3 := fr_cl (by omega)
  have c4 : (nI (i + 4)).toNatClampNeg = i + 4 := fr_cl (by omega)
  obtain ⟨x', z', c', f', v, e0, e1, hR'⟩ := fp_text hR 0 0 0 0 (xs (i + 1))
  refine lv_aload_n hx hb ke_647 rfl (lv_at hl 2 rfl) ?_
  refine lv_aload_n hx hb ke_648 rfl (lv_at hl 3 rfl) ?_
  refine lv_iload_n hx hb ke_649 rfl (lv_at hl 0 rfl) ?_
  refine lv_iconst (v := 1) hx hb ke_650 (by decide) ?_
  refine lv_iadd hx hb ke_651 ?_
  rw [show nI i + 1 = nI (i + 1) from nI_add i 1]
  refine va_sld hx hb hX hbl hbA hS (kw_in (j := 1) (by omega) hL) ke_652 ?_
  rw [c1]
  refine kw_call (as := [xs (i + 1)]) (rest := []) (ad := ad0) (G := 0) (ci := 6) (idx := 82) (mi := 76) (d := 3) (wo := fn_W ad1 dA 1 z) B had0 hRO0 hge0 (fun k q hq hA => by obtain ⟨hk, rfl⟩ := fn_W_get hq; exact hap _ hA ⟨k, hk, rfl⟩) hP0 hP1 hS hl.1 e0 (by decide) (by decide +kernel) rfl (r0 := (fn_C6, fn_F6, 3)) rfl rfl kl_230 kl_109 kl_228 kl_231 kl_229 rfl ke_653 (by decide) (fun H locs hP0 hP1 hS => ?_) hcs
  refine lv_aload_n hx hb ke_656 rfl (lv_at hl 1 rfl) ?_
  refine lv_aload_n hx hb ke_657 rfl (lv_at hl 3 rfl) ?_
  refine lv_iload_n hx hb ke_658 rfl (lv_at hl 0 rfl) ?_
  refine lv_iconst (v := 1) hx hb ke_659 (by decide) ?_
  refine lv_iadd hx hb ke_660 ?_
  rw [show nI i + 1 = nI (i + 1) from nI_add i 1]
  refine va_sld hx hb hX hbl hbA hS (kw_in (j := 1) (by omega) hL) ke_661 ?_
  rw [c1]
  refine kw_call (as := [xs (i + 1)]) (rest := [.int v]) (ad := ad1) (G := 1) (ci := 7) (idx := 85) (mi := 131) (d := 1) (wo := fn_W ad0 dA 0 x') B had1 hRO1 hge1 (fun k q hq hA => by obtain ⟨hk, rfl⟩ := fn_W_get hq; exact hap _ ⟨k, hk, rfl⟩ hA) hP1 hP0 hS hl.1 e1 (by decide) (by decide +kernel) rfl (r0 := (fn_C7, fn_F7, 42)) rfl rfl kl_234 kl_114 kl_232 kl_235 kl_233 rfl ke_662 (Nat.le_of_ble_eq_true rfl) (fun H locs hP1 hP0 hS => ?_) hcs
  refine lv_icmp_eq (tgt := 726) hx hb ke_665 (by decide) (fun _ => ?_) (fun h => absurd rfl h)
  exact kk H locs ls hl ⟨x', z', c', f', hP0, hP1, hS, hR'⟩
set_option maxHeartbeats 4000000 in
theorem kw_report (FX : kw_F D dA ad0 ad1 p s m meth c b L xs) (hi : i + 5 ≤ L) (hcs : cells ≤ 600000 ∧ slots ≤ 7302250) (kk : kw_Go l e D dA ad0 ad1 p s m below meth c b cells slots 726 i t) : kw_Go l e D dA ad0 ad1 p s m below meth c b cells slots 670 i t := by
  intro H locs ls hl ⟨x, z, cc, f, hP0, hP1, hS, hR⟩
  obtain ⟨B, hr, hlocks, hX, hbl, hL, had0, had1, hRO0, hRO1, hge0, hge1, hap⟩ := FX
  have hx := B.1
  have hb := B.2.1
  have hbA : ¬ (fun q => s.heap.size ≤ q) b := Nat.not_le.mpr hbl
  have c1 : (nI (i + 1)).toNatClampNeg = i + 1 := fr_cl (by omega)
  have c2 : (nI (i + 2)).toNatClampNeg = i + 2 := fr_cl (by omega)
  have c3 : (nI (i + 3)).toNatClampNeg = i + 3 := fr_cl (by omega)
  have c4 : (nI (i + 4)).toNatClampNeg = i + 4 := fr_cl (by omega)
  obtain ⟨x', z', c', f', v, e0, e1, hR'⟩ := fp_report hR 0 0 0 0 (xs (i + 1))
  refine lv_aload_n hx hb ke_670 rfl (lv_at hl 2 rfl) ?_
  refine lv_aload_n hx hb ke_671 rfl (lv_at hl 3 rfl) ?_
  refine lv_iload_n hx hb ke_672 rfl (lv_at hl 0 rfl) ?_
  refine lv_iconst (v := 1) hx hb ke_673 (by decide) ?_
  refine lv_iadd hx hb ke_674 ?_
  rw [show nI i + 1 = nI (i + 1) from nI_add i 1]
  refine va_sld hx hb hX hbl hbA hS (kw_in (j := 1) (by omega) hL) ke_675 ?_
  rw [c1]
  refine kw_call (as := [xs (i + 1)]) (rest := []) (ad := ad0) (G := 0) (ci := 6) (idx := 86) (mi := 77) (d := 3) (wo := fn_W ad1 dA 1 z) B had0 hRO0 hge0 (fun k q hq hA => by obtain ⟨hk, rfl⟩ := fn_W_get hq; exact hap _ hA ⟨k, hk, rfl⟩) hP0 hP1 hS hl.1 e0 (by decide) (by decide +kernel) rfl (r0 := (fn_C6, fn_F6, 3)) rfl rfl kl_238 kl_109 kl_236 kl_239 kl_237 rfl ke_676 (by decide) (fun H locs hP0 hP1 hS => ?_) hcs
  refine lv_aload_n hx hb ke_679 rfl (lv_at hl 1 rfl) ?_
  refine lv_aload_n hx hb ke_680 rfl (lv_at hl 3 rfl) ?_
  refine lv_iload_n hx hb ke_681 rfl (lv_at hl 0 rfl) ?_
  refine lv_iconst (v := 1) hx hb ke_682 (by decide) ?_
  refine lv_iadd hx hb ke_683 ?_
  rw [show nI i + 1 = nI (i + 1) from nI_add i 1]
  refine va_sld hx hb hX hbl hbA hS (kw_in (j := 1) (by omega) hL) ke_684 ?_
  rw [c1]
  refine kw_call (as := [xs (i + 1)]) (rest := [.int v]) (ad := ad1) (G := 1) (ci := 7) (idx := 89) (mi := 132) (d := 1) (wo := fn_W ad0 dA 0 x') B had1 hRO1 hge1 (fun k q hq hA => by obtain ⟨hk, rfl⟩ := fn_W_get hq; exact hap _ ⟨k, hk, rfl⟩ hA) hP1 hP0 hS hl.1 e1 (by decide) (by decide +kernel) rfl (r0 := (fn_C7, fn_F7, 42)) rfl rfl kl_242 kl_114 kl_240 kl_243 kl_241 rfl ke_685 (Nat.le_of_ble_eq_true rfl) (fun H locs hP1 hP0 hS => ?_) hcs
  refine lv_icmp_eq (tgt := 726) hx hb ke_688 (by decide) (fun _ => ?_) (fun h => absurd rfl h)
  exact kk H locs ls hl ⟨x', z', c', f', hP0, hP1, hS, hR'⟩
set_option maxHeartbeats 4000000 in
theorem kw_bus (FX : kw_F D dA ad0 ad1 p s m meth c b L xs) (hi : i + 5 ≤ L) (hcs : cells ≤ 600000 ∧ slots ≤ 7302250) (kk : kw_Go l e D dA ad0 ad1 p s m below meth c b cells slots 726 i t) : kw_Go l e D dA ad0 ad1 p s m below meth c b cells slots 693 i t := by
  intro H locs ls hl ⟨x, z, cc, f, hP0, hP1, hS, hR⟩
  obtain ⟨B, hr, hlocks, hX, hbl, hL, had0, had1, hRO0, hRO1, hge0, hge1, hap⟩ := FX
  have hx := B.1
  have hb := B.2.1
  have hbA : ¬ (fun q => s.heap.size ≤ q) b := Nat.not_le.mpr hbl
  have c1 : (nI (i + 1)).toNatClampNeg = i + 1 := fr_cl (by omega)
  have c2 : (nI (i + 2)).toNatClampNeg = i + 2 := fr_cl (by omega)
  have c3 : (nI (i + 3)).toNatClampNeg = i + 3 := fr_cl (by omega)
  have c4 : (nI (i + 4)).toNatClampNeg = i + 4 := fr_cl (by omega)
  obtain ⟨x', z', c', f', v, e0, e1, hR'⟩ := fp_bus hR 0 0 0 0 (xs (i + 1)) (xs (i + 2))
  refine lv_aload_n hx hb ke_693 rfl (lv_at hl 2 rfl) ?_
  refine lv_aload_n hx hb ke_694 rfl (lv_at hl 3 rfl) ?_
  refine lv_iload_n hx hb ke_695 rfl (lv_at hl 0 rfl) ?_
  refine lv_iconst (v := 1) hx hb ke_696 (by decide) ?_
  refine lv_iadd hx hb ke_697 ?_
  rw [show nI i + 1 = nI (i + 1) from nI_add i 1]
  refine va_sld hx hb hX hbl hbA hS (kw_in (j := 1) (by omega) hL) ke_698 ?_
  rw [c1]
  refine lv_aload_n hx hb ke_699 rfl (lv_at hl 3 rfl) ?_
  refine lv_iload_n hx hb ke_700 rfl (lv_at hl 0 rfl) ?_
  refine lv_iconst (v := 2) hx hb ke_701 (by decide) ?_
  refine lv_iadd hx hb ke_702 ?_
  rw [show nI i + 2 = nI (i + 2) from nI_add i 2]
  refine va_sld hx hb hX hbl hbA hS (kw_in (j := 2) (by omega) hL) ke_703 ?_
  rw [c2]
  refine kw_call (as := [xs (i + 1), xs (i + 2)]) (rest := []) (ad := ad0) (G := 0) (ci := 6) (idx := 90) (mi := 78) (d := 3) (wo := fn_W ad1 dA 1 z) B had0 hRO0 hge0 (fun k q hq hA => by obtain ⟨hk, rfl⟩ := fn_W_get hq; exact hap _ hA ⟨k, hk, rfl⟩) hP0 hP1 hS hl.1 e0 (by decide) (by decide +kernel) rfl (r0 := (fn_C6, fn_F6, 3)) rfl rfl kl_246 kl_109 kl_244 kl_247 kl_245 rfl ke_704 (by decide) (fun H locs hP0 hP1 hS => ?_) hcs
  refine lv_aload_n hx hb ke_707 rfl (lv_at hl 1 rfl) ?_
  refine lv_aload_n hx hb ke_708 rfl (lv_at hl 3 rfl) ?_
  refine lv_iload_n hx hb ke_709 rfl (lv_at hl 0 rfl) ?_
  refine lv_iconst (v := 1) hx hb ke_710 (by decide) ?_
  refine lv_iadd hx hb ke_711 ?_
  rw [show nI i + 1 = nI (i + 1) from nI_add i 1]
  refine va_sld hx hb hX hbl hbA hS (kw_in (j := 1) (by omega) hL) ke_712 ?_
  rw [c1]
  refine lv_aload_n hx hb ke_713 rfl (lv_at hl 3 rfl) ?_
  refine lv_iload_n hx hb ke_714 rfl (lv_at hl 0 rfl) ?_
  refine lv_iconst (v := 2) hx hb ke_715 (by decide) ?_
  refine lv_iadd hx hb ke_716 ?_
  rw [show nI i + 2 = nI (i + 2) from nI_add i 2]
  refine va_sld hx hb hX hbl hbA hS (kw_in (j := 2) (by omega) hL) ke_717 ?_
  rw [c2]
  refine kw_call (as := [xs (i + 1), xs (i + 2)]) (rest := [.int v]) (ad := ad1) (G := 1) (ci := 7) (idx := 93) (mi := 133) (d := 2) (wo := fn_W ad0 dA 0 x') B had1 hRO1 hge1 (fun k q hq hA => by obtain ⟨hk, rfl⟩ := fn_W_get hq; exact hap _ ⟨k, hk, rfl⟩ hA) hP1 hP0 hS hl.1 e1 (by decide) (by decide +kernel) rfl (r0 := (fn_C7, fn_F7, 42)) rfl rfl kl_250 kl_114 kl_248 kl_251 kl_249 rfl ke_718 (Nat.le_of_ble_eq_true rfl) (fun H locs hP1 hP0 hS => ?_) hcs
  refine lv_icmp_eq (tgt := 726) hx hb ke_721 (by decide) (fun _ => ?_) (fun h => absurd rfl h)
  exact kk H locs ls hl ⟨x', z', c', f', hP0, hP1, hS, hR'⟩
end KWS
