/-! ===== the law: its start ===== -/
theorem kl_252 : (.classLink "FieldNetLaw" 7 "FieldNet" : Jvm.Cond) ∈ fn_tT := fn_gd (fn_tm1 (k := 20) rfl) rfl
theorem kl_253 : (.classLink "FieldNetLaw" 10 "FieldNetModel" : Jvm.Cond) ∈ fn_tT := fn_gd (fn_tm4 (k := 138) rfl) rfl
theorem kl_254 : (.instantiable "FieldNet" 3 : Jvm.Cond) ∈ fn_tT := fn_gd (fn_tm1 (k := 21) rfl) rfl
theorem kl_255 : (.code (⟨"FieldNet", "<init>", "()V"⟩ : MethodName) prog_1_method_1_code 2 none : Jvm.Cond) ∈ fn_tT := fn_gd (fn_tm1 (k := 24) rfl) rfl
theorem kl_256 : (.methodLink "FieldNetLaw" 9 (⟨"FieldNet", "<init>", "()V"⟩ : MethodName) : Jvm.Cond) ∈ fn_tT := fn_gd (fn_tm1 (k := 22) rfl) rfl
theorem kl_257 : (.instanceMethod (⟨"FieldNet", "<init>", "()V"⟩ : MethodName) : Jvm.Cond) ∈ fn_tT := fn_gd (fn_tm1 (k := 23) rfl) rfl
theorem kl_258 : (.instantiable "FieldNetModel" 42 : Jvm.Cond) ∈ fn_tT := fn_gd (fn_tm4 (k := 139) rfl) rfl
theorem kl_259 : (.code (⟨"FieldNetModel", "<init>", "()V"⟩ : MethodName) prog_9_method_1_code 2 none : Jvm.Cond) ∈ fn_tT := fn_gd (fn_tm4 (k := 142) rfl) rfl
theorem kl_260 : (.methodLink "FieldNetLaw" 12 (⟨"FieldNetModel", "<init>", "()V"⟩ : MethodName) : Jvm.Cond) ∈ fn_tT := fn_gd (fn_tm4 (k := 140) rfl) rfl
theorem kl_261 : (.instanceMethod (⟨"FieldNetModel", "<init>", "()V"⟩ : MethodName) : Jvm.Cond) ∈ fn_tT := fn_gd (fn_tm4 (k := 141) rfl) rfl
set_option maxHeartbeats 16000000 in
set_option maxRecDepth 200000 in
theorem kw_model {D : va_G} {dA : Nat → ClassId} {ad : Nat → Nat} {q1 : Nat} {a : Nat → Nat} {A : Nat → Prop} {H : Heap} (hP : va_P D fn_cl [(q1, .inr (7, [.int 0, .ref (a 0), .ref (a 1), .ref (a 2), .ref (a 3), .ref (a 4), .ref (a 5), .ref (a 6), .ref (a 7), .ref (a 8), .int 0, .ref (a 9), .ref (a 10), .ref (a 11), .ref (a 12), .ref (a 13), .int 0, .int 0, .int 0, .int 0, .ref (a 14), .ref (a 15), .ref (a 16), .ref (a 17), .ref (a 18), .ref (a 19), .ref (a 20), .int 0, .int 0, .int 0, .int 0, .int 0, .int 0, .int 0, .int 0, .int 0, .int 0, .int 0, .int 0, .ref (a 21), .int 0, .ref (a 22)])), ((a 0), .inl (dA 0, 5, .inl (fun _ => 0))), ((a 1), .inl (dA 0, 80, .inl (upd (upd (upd (upd (fun _ => 0) ((16 * 1) : Int32).toNatClampNeg (1000 + 1)) ((16 * 2) : Int32).toNatClampNeg (1000 + 2)) ((16 * 3) : Int32).toNatClampNeg (1000 + 3)) ((16 * 4) : Int32).toNatClampNeg (1000 + 4)))), ((a 2), .inl (dA 0, 5, .inl (upd (upd (upd (upd (fun _ => 0) (1 : Int32).toNatClampNeg (-1)) (2 : Int32).toNatClampNeg (-1)) (3 : Int32).toNatClampNeg (-1)) (4 : Int32).toNatClampNeg (-1)))), ((a 3), .inl (dA 1, 5, .inl (fun _ => 0))), ((a 4), .inl (dA 0, 5, .inl (fun _ => 0))), ((a 5), .inl (dA 0, 5, .inl (upd (upd (upd (upd (fun _ => 0) (1 : Int32).toNatClampNeg (-1)) (2 : Int32).toNatClampNeg (-1)) (3 : Int32).toNatClampNeg (-1)) (4 : Int32).toNatClampNeg (-1)))), ((a 6), .inl (dA 0, 5, .inl (upd (upd (upd (upd (fun _ => 0) (1 : Int32).toNatClampNeg (-1)) (2 : Int32).toNatClampNeg (-1)) (3 : Int32).toNatClampNeg (-1)) (4 : Int32).toNatClampNeg (-1)))), ((a 7), .inl (dA 0, 5, .inl (fun _ => 0))), ((a 8), .inl (dA 0, 5, .inl (fun _ => 0))), ((a 9), .inl (dA 0, 24, .inl (fun _ => 0))), ((a 10), .inl (dA 0, 24, .inl (fun _ => 0))), ((a 11), .inl (dA 0, 24, .inl (fun _ => 0))), ((a 12), .inl (dA 0, 24, .inl (fun _ => 0))), ((a 13), .inl (dA 0, 24, .inl (fun _ => 0))), ((a 14), .inl (dA 0, 5, .inl (upd (upd (upd (upd (fun _ => 0) (1 : Int32).toNatClampNeg (-1)) (2 : Int32).toNatClampNeg (-1)) (3 : Int32).toNatClampNeg (-1)) (4 : Int32).toNatClampNeg (-1)))), ((a 15), .inl (dA 0, 5, .inl (fun _ => 0))), ((a 16), .inl (dA 0, 5, .inl (fun _ => 0))), ((a 17), .inl (dA 0, 15, .inl (fun _ => 0))), ((a 18), .inl (dA 0, 15, .inl (fun _ => 0))), ((a 19), .inl (dA 0, 5, .inl (fun _ => 0))), ((a 20), .inl (dA 0, 5, .inl (upd (upd (upd (upd (fun _ => 0) (1 : Int32).toNatClampNeg (-1)) (2 : Int32).toNatClampNeg (-1)) (3 : Int32).toNatClampNeg (-1)) (4 : Int32).toNatClampNeg (-1)))), ((a 21), .inl (dA 0, 12, .inl (fun _ => 0))), ((a 22), .inl (dA 0, 80, .inl (fun _ => 0)))] H) (hD : va_D A [(q1, .inr (7, [.int 0, .ref (a 0), .ref (a 1), .ref (a 2), .ref (a 3), .ref (a 4), .ref (a 5), .ref (a 6), .ref (a 7), .ref (a 8), .int 0, .ref (a 9), .ref (a 10), .ref (a 11), .ref (a 12), .ref (a 13), .int 0, .int 0, .int 0, .int 0, .ref (a 14), .ref (a 15), .ref (a 16), .ref (a 17), .ref (a 18), .ref (a 19), .ref (a 20), .int 0, .int 0, .int 0, .int 0, .int 0, .int 0, .int 0, .int 0, .int 0, .int 0, .int 0, .int 0, .ref (a 21), .int 0, .ref (a 22)])), ((a 0), .inl (dA 0, 5, .inl (fun _ => 0))), ((a 1), .inl (dA 0, 80, .inl (upd (upd (upd (upd (fun _ => 0) ((16 * 1) : Int32).toNatClampNeg (1000 + 1)) ((16 * 2) : Int32).toNatClampNeg (1000 + 2)) ((16 * 3) : Int32).toNatClampNeg (1000 + 3)) ((16 * 4) : Int32).toNatClampNeg (1000 + 4)))), ((a 2), .inl (dA 0, 5, .inl (upd (upd (upd (upd (fun _ => 0) (1 : Int32).toNatClampNeg (-1)) (2 : Int32).toNatClampNeg (-1)) (3 : Int32).toNatClampNeg (-1)) (4 : Int32).toNatClampNeg (-1)))), ((a 3), .inl (dA 1, 5, .inl (fun _ => 0))), ((a 4), .inl (dA 0, 5, .inl (fun _ => 0))), ((a 5), .inl (dA 0, 5, .inl (upd (upd (upd (upd (fun _ => 0) (1 : Int32).toNatClampNeg (-1)) (2 : Int32).toNatClampNeg (-1)) (3 : Int32).toNatClampNeg (-1)) (4 : Int32).toNatClampNeg (-1)))), ((a 6), .inl (dA 0, 5, .inl (upd (upd (upd (upd (fun _ => 0) (1 : Int32).toNatClampNeg (-1)) (2 : Int32).toNatClampNeg (-1)) (3 : Int32).toNatClampNeg (-1)) (4 : Int32).toNatClampNeg (-1)))), ((a 7), .inl (dA 0, 5, .inl (fun _ => 0))), ((a 8), .inl (dA 0, 5, .inl (fun _ => 0))), ((a 9), .inl (dA 0, 24, .inl (fun _ => 0))), ((a 10), .inl (dA 0, 24, .inl (fun _ => 0))), ((a 11), .inl (dA 0, 24, .inl (fun _ => 0))), ((a 12), .inl (dA 0, 24, .inl (fun _ => 0))), ((a 13), .inl (dA 0, 24, .inl (fun _ => 0))), ((a 14), .inl (dA 0, 5, .inl (upd (upd (upd (upd (fun _ => 0) (1 : Int32).toNatClampNeg (-1)) (2 : Int32).toNatClampNeg (-1)) (3 : Int32).toNatClampNeg (-1)) (4 : Int32).toNatClampNeg (-1)))), ((a 15), .inl (dA 0, 5, .inl (fun _ => 0))), ((a 16), .inl (dA 0, 5, .inl (fun _ => 0))), ((a 17), .inl (dA 0, 15, .inl (fun _ => 0))), ((a 18), .inl (dA 0, 15, .inl (fun _ => 0))), ((a 19), .inl (dA 0, 5, .inl (fun _ => 0))), ((a 20), .inl (dA 0, 5, .inl (upd (upd (upd (upd (fun _ => 0) (1 : Int32).toNatClampNeg (-1)) (2 : Int32).toNatClampNeg (-1)) (3 : Int32).toNatClampNeg (-1)) (4 : Int32).toNatClampNeg (-1)))), ((a 21), .inl (dA 0, 12, .inl (fun _ => 0))), ((a 22), .inl (dA 0, 80, .inl (fun _ => 0)))]) : va_P D fn_cl (fn_W (kn_a1 ad q1 a) dA 1 kn_z) H ∧ va_D A (fn_W (kn_a1 ad q1 a) dA 1 kn_z) := ⟨hP, hD⟩
set_option maxHeartbeats 16000000 in
set_option maxRecDepth 200000 in
theorem whole_start {p : Program} {e : Env} {s : State} {m : MethodId} {below : List Frame} {meth : Method} {c : Code} (l : Launch) {b L : Nat} {xs : Nat → Int32} (hL : L ≤ 2560) (C0 : lw_At p s m meth c b L xs) : W p l e room_1 s m #[Value.ref b] below meth c s.heap [] 0 0 (lw_Z below #[Value.ref b] s) (entryFrame m ([Value.ref b] : List Value).toArray 4) := by
  obtain ⟨D, dA, ad, B, hO, hRO⟩ := kw_base C0
  obtain ⟨-, -, hr, -, -, -, hX, hbl, hlocks, -⟩ := C0
  have B' := B
  obtain ⟨hx, hb, hml, hown, hts, hN, hK⟩ := B
  have hS : va_S (fun q => s.heap.size ≤ q) s.heap s.heap [] := va_S.rf
  have hA : ∀ q : Nat, s.heap.size ≤ q → (fun q => s.heap.size ≤ q) q := fun q h => h
  have hP : va_P D fn_cl [] s.heap := fun k q hk => by cases hk
  have hD : va_D (fun q => s.heap.size ≤ q) [] := ⟨fun i j a b ha => (by cases ha), fun k q hk => (by cases hk)⟩
  have hl := lv_entry ([.ref b]) (n := 4) (Nat.le_of_ble_eq_true rfl)
  rw [lg_entry_eq]
  generalize (lg_sl ([.ref b]) ++ List.replicate (4 - (lg_sl ([.ref b])).length) Slot.unset).toArray = ls at hl ⊢
  have hl : lv_has ls 4 [(0, .ref b)] := hl
  refine va_new (ci := 6) (fs := [.null, .null, .null]) (C := fn_C6) (T := fn_F6) (N := 3) hx hb hts fn_in6 fn_t6 fn_ty6 hown (hts _ kl_252) (hts _ kl_254) (hts _ kl_109) hK hP hD hS hA rfl kn_f6 (Nat.le_of_ble_eq_true rfl) (Nat.le_of_ble_eq_true rfl) ke_0 (fun q0 H hP hD hS => ?_)
  have hP : va_P D fn_cl [(q0, .inr (6, [.null, .null, .null]))] H := hP
  have hD : va_D (fun q => s.heap.size ≤ q) [(q0, .inr (6, [.null, .null, .null]))] := hD
  refine lv_dup hx hb ke_3 rfl ?_
  have hFc := va_free (wc := [(q0, .inr (6, [.null, .null, .null]))]) hD hS hA [0] rfl
  refine va_callv (va_runI (As := []) (rest := [.ref q0]) ⟨hx, hb, hml, hown, hts⟩ (kc_Net l D dA ad q0 H.size) (cwI 0 hts (fn_GI kl_255) rfl rfl rfl (hts _ kl_109) (hts _ kl_256) (hts _ kl_257) rfl (by decide +kernel) ⟨(Nat.le_of_ble_eq_true rfl), (Nat.le_of_ble_eq_true rfl)⟩) ⟨kn_blindN, fun U hU hW => ⟨rfl, kn_pre hP hD hK hN hO hU hW, (hRO.next hS hU hW).narrow hFc⟩⟩ rfl rfl hl.1 rfl (lv_room (Nat.le_of_ble_eq_true rfl)) ke_4 ⟨(Nat.le_of_ble_eq_true rfl), (Nat.le_of_ble_eq_true rfl)⟩) hS (fun q _ h => hFc q h) hFc (fun u t H1 locs ht hvm hu hB hz1 hk1 hS => ?_)
  obtain ⟨hP0, hD0⟩ := hB
  rw [ht] at hP0
  generalize H1 = H at hP0 hS ⊢
  have hD0 : va_D (fun q => s.heap.size ≤ q) (fn_W (kn_ad ad u.1) dA 0 (kn_x u.2)) := hD0.weaken (fun _ _ _ h => hFc _ h)
  refine lv_astore_n (lv' := [(1, .ref q0), (0, .ref b)]) hx hb ke_7 rfl hl (by decide) rfl (fun ls hl => ?_)
  refine va_new (ci := 7) (fs := [.int 0, .null, .null, .null, .null, .null, .null, .null, .null, .null, .int 0, .null, .null, .null, .null, .null, .int 0, .int 0, .int 0, .int 0, .null, .null, .null, .null, .null, .null, .null, .int 0, .int 0, .int 0, .int 0, .int 0, .int 0, .int 0, .int 0, .int 0, .int 0, .int 0, .int 0, .null, .int 0, .null]) (C := fn_C7) (T := fn_F7) (N := 42) hx hb hts fn_in7 fn_t7 fn_ty7 hown (hts _ kl_253) (hts _ kl_258) (hts _ kl_114) hK hP0 hD0 hS hA rfl kn_f7 (Nat.le_of_ble_eq_true rfl) (Nat.le_of_ble_eq_true rfl) ke_8 (fun q1 H hP hD hS => ?_)
  refine lv_dup hx hb ke_11 rfl ?_
  have hPc : va_P D fn_cl [(q1, .inr (7, [.int 0, .null, .null, .null, .null, .null, .null, .null, .null, .null, .int 0, .null, .null, .null, .null, .null, .int 0, .int 0, .int 0, .int 0, .null, .null, .null, .null, .null, .null, .null, .int 0, .int 0, .int 0, .int 0, .int 0, .int 0, .int 0, .int 0, .int 0, .int 0, .int 0, .int 0, .null, .int 0, .null]))] H := hP.by (fun _ => 62) (fun k q hk => by
    have hk0 : k < 1 := (List.getElem?_eq_some_iff.mp hk).1
    obtain rfl : k = 0 := by omega
    rw [← hk, List.getElem?_append_right (by rw [fn_W_len]; exact Nat.le_refl _), fn_W_len]
    rfl)
  have hDc : va_D (fun q => s.heap.size ≤ q) [(q1, .inr (7, [.int 0, .null, .null, .null, .null, .null, .null, .null, .null, .null, .int 0, .null, .null, .null, .null, .null, .int 0, .int 0, .int 0, .int 0, .null, .null, .null, .null, .null, .null, .null, .int 0, .int 0, .int 0, .int 0, .int 0, .int 0, .int 0, .int 0, .int 0, .int 0, .int 0, .int 0, .null, .int 0, .null]))] := ⟨fun i j a b ha hb _ => by
    have h1 : i < 1 := (List.getElem?_eq_some_iff.mp ha).1
    have h2 : j < 1 := (List.getElem?_eq_some_iff.mp hb).1
    omega, fun k q hk => hD.2 62 q (by
    have hk0 : k < 1 := (List.getElem?_eq_some_iff.mp hk).1
    obtain rfl : k = 0 := by omega
    rw [← hk, List.getElem?_append_right (by rw [fn_W_len]; exact Nat.le_refl _), fn_W_len]
    rfl)⟩
  have hP0 : va_P D fn_cl (fn_W (kn_ad ad u.1) dA 0 (kn_x u.2)) H := hP.by id (fun k q hk => (List.getElem?_append_left (List.getElem?_eq_some_iff.mp hk).1).trans hk)
  have hap1 : ∀ (k : Nat) (q : Nat × va_E), (fn_W (kn_ad ad u.1) dA 0 (kn_x u.2))[k]? = some q → q.1 ≠ q1 ∧ q.1 < H.size := fun k q hk => by
    have hk62 : k < 62 := (fn_W_get hk).1
    refine ⟨fun e => ?_, (hP0 k q hk).lt⟩
    have := hD.1 k 62 q _ (by rw [List.getElem?_append_left (List.getElem?_eq_some_iff.mp hk).1]; exact hk) (by rw [List.getElem?_append_right (by rw [fn_W_len]; exact Nat.le_refl _), fn_W_len]; rfl) e
    omega
  have hFc : ∀ q, va_A [(q1, .inr (7, [.int 0, .null, .null, .null, .null, .null, .null, .null, .null, .null, .int 0, .null, .null, .null, .null, .null, .int 0, .int 0, .int 0, .int 0, .null, .null, .null, .null, .null, .null, .null, .int 0, .int 0, .int 0, .int 0, .int 0, .int 0, .int 0, .int 0, .int 0, .int 0, .int 0, .int 0, .null, .int 0, .null]))] H.size q → (fun q => s.heap.size ≤ q) q := fun q h => by
    rcases h with ⟨k, e', h⟩ | h
    · exact hDc.2 k (q, e') h
    · exact Nat.le_trans hS.1 h
  refine va_callv (va_runI (As := []) (rest := [.ref q1]) ⟨hx, hb, hml, hown, hts⟩ (kc_Model l D dA q1 H.size) (cwI 0 hts (fn_GI kl_259) rfl rfl rfl (hts _ kl_114) (hts _ kl_260) (hts _ kl_261) rfl (by decide +kernel) ⟨(Nat.le_of_ble_eq_true rfl), (Nat.le_of_ble_eq_true rfl)⟩) ⟨kn_blind, fun U hU hW => ⟨rfl, kn_pre hPc hDc hK hN hO hU hW⟩⟩ rfl rfl hl.1 rfl (lv_room (Nat.le_of_ble_eq_true rfl)) ke_12 ⟨(Nat.le_of_ble_eq_true rfl), (Nat.le_of_ble_eq_true rfl)⟩) hS (fun q _ h => hFc q h) hFc (fun a t H1 locs ht hvm _ hB hz1 hk1 hS => ?_)
  obtain ⟨hPm, hDm⟩ := hB
  rw [ht] at hPm
  obtain ⟨hP1, hD1⟩ := kw_model (ad := ad) hPm hDm
  have hP0 : va_P D fn_cl (fn_W (kn_ad ad u.1) dA 0 (kn_x u.2)) H1 := hP0.kept (fun k q hk => hk1 q.1 (hap1 k q hk).2 (fun h => by
    rcases h with ⟨j, e', h⟩ | h
    · have hj : j < 1 := (List.getElem?_eq_some_iff.mp h).1
      obtain rfl : j = 0 := by omega
      have h := congrArg Prod.fst (Option.some.inj h)
      exact (hap1 k q hk).1 h.symm
    · exact absurd (hap1 k q hk).2 (Nat.not_lt.mpr h)))
  have hapart : ∀ q, fn_A (kn_ad ad u.1) 0 q → ¬ fn_A (kn_a1 ad q1 a) 1 q := fun q ⟨i, hi, e1⟩ ⟨j, hj, e2⟩ => by
    have h1 := hap1 i _ (fn_W_at hi)
    rcases hD1.2 j _ (fn_W_at hj) with ⟨k', e', h⟩ | h
    · have hj : k' < 1 := (List.getElem?_eq_some_iff.mp h).1
      obtain rfl : k' = 0 := by omega
      have h := congrArg Prod.fst (Option.some.inj h)
      exact h1.1 ((e1.symm.trans e2).trans h.symm)
    · exact absurd h1.2 (Nat.not_lt.mpr (by
        have e3 : kn_ad ad u.1 i = kn_a1 ad q1 a j := e1.symm.trans e2
        show H.size ≤ kn_ad ad u.1 i
        rw [e3]
        exact h))
  have hD1 : va_D (fun q => s.heap.size ≤ q) (fn_W (kn_a1 ad q1 a) dA 1 kn_z) := hD1.weaken (fun _ _ _ h => hFc _ h)
  refine lv_astore_n (lv' := [(2, .ref q1), (1, .ref q0), (0, .ref b)]) hx hb ke_15 rfl hl (by decide) rfl (fun ls hl => ?_)
  refine lv_iconst (v := 0) hx hb ke_16 (by decide) ?_
  refine lv_istore_n (lv' := [(3, .int 0), (2, .ref q1), (1, .ref q0), (0, .ref b)]) hx hb ke_17 rfl hl (by decide) rfl (fun ls hl => ?_)
  have had0 : fn_ad (kn_ad ad u.1) 0 := fun i j hi hj e' => hD0.1 i j _ _ (fn_W_at hi) (fn_W_at hj) e'
  have had1 : fn_ad (kn_a1 ad q1 a) 1 := fun i j hi hj e' => hD1.1 i j _ _ (fn_W_at hi) (fn_W_at hj) e'
  have FX : kw_F D dA (kn_ad ad u.1) (kn_a1 ad q1 a) p s m meth c b L xs := ⟨B', hr, hlocks, hX, hbl, hL, had0, had1, hRO, hRO, fun q ⟨i, hi, e'⟩ => by rw [e']; exact hD0.2 i _ (fn_W_at hi), fun q ⟨i, hi, e'⟩ => by rw [e']; exact hD1.2 i _ (fn_W_at hi), hapart⟩
  have hR := kx_R (y := u.2) (fun k h1 h2 => by
    obtain rfl | rfl | rfl | rfl : k = 1 ∨ k = 2 ∨ k = 3 ∨ k = 4 := by omega
    · exact hu.2.1
    · exact hu.2.2.1
    · exact hu.2.2.2.1
    · exact hu.2.2.2.2)
  have hq0 : kn_ad ad u.1 0 = q0 := hu.1
  have hl : lv_has ls 4 [(3, .int (nI 0)), (2, .ref (kn_a1 ad q1 a 0)), (1, .ref (kn_ad ad u.1 0)), (0, .ref b)] := by
    rw [hq0]
    exact hl
  refine W.widen (k := 86) (n := 956) (Nat.le_of_ble_eq_true rfl) (Nat.le_of_ble_eq_true rfl) ?_
  exact kw_loop FX ⟨(Nat.le_of_ble_eq_true rfl), (Nat.le_of_ble_eq_true rfl)⟩ L 0 0 (by omega) (by omega) (by decide) H1 locs ls hl ⟨_, _, _, _, hP0, hP1, hS, hR⟩
