section FP
variable {p : Program} {l : Launch} {e : Env} {R : Room} {s : State} {m : MethodId} {args : Array Value} {below : List Frame} {meth : Method} {c : Code} {Q : State → Prop} {H : Heap} {locs : List Loc} {cells slots : Nat} {ls : Array Slot} {rest : List Value}
variable {D : va_G} {dA : Nat → ClassId} {ad : Nat → Nat} {G : Nat} {cc : ByteArray} {nL oc : Nat} {rt : Option FieldType} {x : fn_M} {pc : Nat} {I : fn_I} {lo : fn_L} {st : List Value} {k : fn_K} {r : fn_R}
theorem fs_get {ci j q idx : Nat} (C : fn_Cx D dA ad G p s m args meth c cc nL oc rt) (hP : va_P D fn_cl (fn_W ad dA G x) H) (hq : fn_lc G q = ci + 1) (hl : fn_FL oc idx ci j) (hdg : decode cc pc = .ok (.getfield idx, 3))
    (kk : W p l e R s m args below meth c H locs cells slots Q (F0 m (pc + 3) ls (fn_cv ad (fn_fv x ci j q) :: rest))) : W p l e R s m args below meth c H locs cells slots Q (F0 m pc ls (.ref (ad q) :: rest)) := by
  obtain ⟨hx, hb, -, -, -, hown, hts, hN, hK, -⟩ := C
  obtain ⟨⟨C0, T, N⟩, hr1, hj, hn, hlink⟩ := hl
  have hq' : q < fn_NC G := fn_lc_lt (by omega)
  have he : (fn_W ad dA G x)[q]? = some (ad q, .inr (ci, fn_fs ad x ci q)) := by rw [fn_W_at hq', fn_ce_obj hq]
  have hco := fn_co _ (List.mem_of_getElem? hr1)
  have hv : (fn_fs ad x ci q)[j]? = some (fn_cv ad (fn_fv x ci j q)) := by
    have : j < fn_nf ci := by rw [hn]; exact hj
    simp [fn_fs, this]
  rcases hlink with h | ⟨host, h⟩
  · exact va_get (D := D) (C := C0) (T := T) (N := N) hx hb hts hco.1 hown hK hP q he hr1 j hj (hts _ h) (fun _ h9 => h9) hv hdg kk
  · exact va_getN (D := D) (C := C0) (T := T) (N := N) hx hb hts hco.1 hown hK hP q he hr1 j hj (va_Nw.use rfl (hN _ h)) (fun _ h9 => h9) hv hdg kk
/-- a store of a field: the value v' is what the new state says of it -/
theorem fs_put {ci j q idx : Nat} {v : Int32} {v' : Value} {ty : FieldType} (C : fn_Cx D dA ad G p s m args meth c cc nL oc rt) (hP : va_P D fn_cl (fn_W ad dA G x) H) (hS : va_S (fn_A ad G) s.heap H locs) (hq : fn_lc G q = ci + 1) (hl : fn_FL oc idx ci j) (hdg : decode cc pc = .ok (.putfield idx, 3))
    (hty : ∀ r, fn_cl[ci]? = some r → j < fn_nf ci → parseFieldDescriptor (r.2.1 j).2.2.1 = some ty ∧ (r.2.1 j).2.2.2 = false) (hn : narrow ty (fn_cv ad v') = fn_cv ad v') (hf : fits ty (fn_cv ad v') = true) (hv : fn_fv (fn_w x q j v) ci j q = v')
    (kk : ∀ (H1 : Heap) (locs1 : List Loc), va_P D fn_cl (fn_W ad dA G (fn_w x q j v)) H1 → va_S (fn_A ad G) s.heap H1 locs1 → W p l e R s m args below meth c H1 locs1 cells slots Q (F0 m (pc + 3) ls rest)) : W p l e R s m args below meth c H locs cells slots Q (F0 m pc ls (fn_cv ad v' :: .ref (ad q) :: rest)) := by
  obtain ⟨hx, hb, -, -, -, hown, hts, hN, hK, had, -⟩ := C
  obtain ⟨⟨C0, T, N⟩, hr1, hj, hnn, hlink⟩ := hl
  have hq' : q < fn_NC G := fn_lc_lt (by omega)
  have hjn : j < fn_nf ci := by rw [hnn]; exact hj
  have he : (fn_W ad dA G x)[q]? = some (ad q, .inr (ci, fn_fs ad x ci q)) := by rw [fn_W_at hq', fn_ce_obj hq]
  obtain ⟨hc1, ⟨ty0, hc2⟩, hc3⟩ := fn_co _ (List.mem_of_getElem? hr1)
  obtain ⟨ht1, ht2⟩ := hty _ hr1 hjn
  have hset : (fn_W ad dA G x).set q (ad q, .inr (ci, (fn_fs ad x ci q).set j (fn_cv ad v'))) = fn_W ad dA G (fn_w x q j v) := by
    refine fn_W_set hq' fn_w_ne ?_
    rw [fn_ce_obj hq, ← hv, fn_fs_set hjn]
  have hlen : j < (fn_fs ad x ci q).length := by simpa [fn_fs] using hjn
  rcases hlink with h | ⟨host, h⟩
  · exact va_put (D := D) (C := C0) (T := T) (N := N) hx hb hts hc1 ty0 hc2 hc3 hown hK hP (fn_D had) hS q he hr1 j hj (hts _ h) (fun _ h9 => h9) ht2 ht1 hn hf hlen hdg (fun H1 locs1 h1 _ h3 => kk H1 locs1 (by rw [hset] at h1; exact h1) h3)
  · exact va_putN (D := D) (C := C0) (T := T) (N := N) hx hb hts hc1 ty0 hc2 hc3 hown hK hP (fn_D had) hS q he hr1 j hj (va_Nw.use rfl (hN _ h)) (fun _ h9 => h9) ht2 ht1 hn hf hlen hdg (fun H1 locs1 h1 _ h3 => kk H1 locs1 (by rw [hset] at h1; exact h1) h3)
def fn_k17 (b : ByteArray) (oc pc : Nat) (I : fn_I) : Bool := match decode b pc with
  | .ok (.getfield idx, 3) => decide (I.2.2.2.1 = pc + 3 ∧ (oc, idx, I.2.1, I.2.2.1) ∈ fn_flL)
  | _ => false
theorem fs_o17 (C : fn_Cx D dA ad G p s m args meth c cc nL oc rt) (hck : fn_k17 cc oc pc I = true) (hk : ∀ pc lo st x, k pc lo st x = some r → fn_Go D dA ad G p l e R s m args below meth c nL Q pc lo st x) (h : fn_o17 G I lo st x k = some r) : fn_Go D dA ad G p l e R s m args below meth c nL Q pc lo st x := by
  intro H locs ls hl hP hS
  unfold fn_k17 at hck
  split at hck
  · rename_i idx hd
    obtain ⟨e1, e2⟩ := of_decide_eq_true hck
    unfold fn_o17 at h
    rw [e1] at h
    split at h
    · rename_i q st0
      obtain ⟨h1, h2⟩ := fn_ite h
      by_cases hq : fn_lc G q = I.2.1 + 1
      · exact fs_get C hP hq (fn_flok _ e2) hd (hk _ _ _ _ (h1 hq) H locs ls hl hP hS)
      · cases h2 hq
    · cases h
  · cases hck
theorem fn_fv_0 {x : fn_M} {ci j q : Nat} (h : (fn_fc ci j).1 = 0 ∨ (fn_fc ci j).1 = 1) : fn_fv x ci j q = .int (x q j) := by
  unfold fn_fv
  generalize fn_fc ci j = w at h ⊢
  obtain ⟨a, b⟩ := w
  rcases h with h | h <;> (simp only at h; subst h; rfl)
theorem fn_fv_4 {x : fn_M} {ci j q : Nat} (h : (fn_fc ci j).1 = 4) : fn_fv x ci j q = .ref (x q j).toNatClampNeg := by
  unfold fn_fv
  generalize fn_fc ci j = w at h ⊢
  obtain ⟨a, b⟩ := w
  simp only at h
  subst h
  rfl
theorem fn_upd_at {f : Nat → Int32} {j : Nat} {v : Int32} : upd f j v j = v := if_pos rfl
def fn_k18 (b : ByteArray) (oc pc : Nat) (I : fn_I) : Bool := match decode b pc with
  | .ok (.putfield idx, 3) => decide (I.2.2.2.1 = pc + 3 ∧ (oc, idx, I.2.1, I.2.2.1) ∈ fn_flL)
  | _ => false
theorem fs_o18 (C : fn_Cx D dA ad G p s m args meth c cc nL oc rt) (hck : fn_k18 cc oc pc I = true) (hk : ∀ pc lo st x, k pc lo st x = some r → fn_Go D dA ad G p l e R s m args below meth c nL Q pc lo st x) (h : fn_o18 G I lo st x k = some r) : fn_Go D dA ad G p l e R s m args below meth c nL Q pc lo st x := by
  intro H locs ls hl hP hS
  unfold fn_k18 at hck
  split at hck
  · rename_i idx hd
    obtain ⟨e1, e2⟩ := of_decide_eq_true hck
    unfold fn_o18 at h
    rw [e1] at h
    split at h
    · rename_i v q st0
      obtain ⟨h1, h2⟩ := fn_ite h
      by_cases hq : fn_lc G q = I.2.1 + 1
      · replace h := h1 hq
        split at h
        · rename_i hf
          refine fs_put (v := v) (v' := .int v) (ty := .int) C hP hS hq (fn_flok _ e2) hd (fun r hr hj => (fn_fto hr hj).1 hf) rfl rfl (by rw [fn_fv_0 (Or.inl hf), fn_w_eq, fn_upd_at]) (fun H1 locs1 hP1 hS1 => hk _ _ _ _ h H1 locs1 ls hl hP1 hS1)
        · rename_i hf
          obtain ⟨h3, h4⟩ := fn_ite h
          by_cases hz : v = 0 ∨ v = 1
          · refine fs_put (v := v) (v' := .int v) (ty := .boolean) C hP hS hq (fn_flok _ e2) hd (fun r hr hj => (fn_fto hr hj).2.1 hf) (fn_nz hz) (by rcases hz with rfl | rfl <;> rfl) (by rw [fn_fv_0 (Or.inr hf), fn_w_eq, fn_upd_at]) (fun H1 locs1 hP1 hS1 => hk _ _ _ _ (h3 hz) H1 locs1 ls hl hP1 hS1)
          · cases h4 hz
        · cases h
      · cases h2 hq
    · rename_i v q st0
      obtain ⟨h1, h2⟩ := fn_ite h
      by_cases hq : fn_lc G q = I.2.1 + 1 ∧ v < 1000
      · replace h := h1 hq
        split at h
        · rename_i hf
          refine fs_put (v := nI v) (v' := .ref v) (ty := .object "FieldNet$Frame") C hP hS hq.1 (fn_flok _ e2) hd (fun r hr hj => (fn_fto hr hj).2.2 hf) rfl rfl (by rw [fn_fv_4 hf, fn_w_eq, fn_upd_at, nI_clamp (Nat.lt_of_lt_of_le hq.2 (by decide))]) (fun H1 locs1 hP1 hS1 => hk _ _ _ _ h H1 locs1 ls hl hP1 hS1)
        · cases h
      · cases h2 hq
    · cases h
  · cases hck
theorem fs_iald {q : Nat} {i : Int32} (C : fn_Cx D dA ad G p s m args meth c cc nL oc rt) (hP : va_P D fn_cl (fn_W ad dA G x) H) (hq : (fn_la G q).1 = 0 + 1) (hin : ¬ (i < 0 ∨ (fn_la G q).2 ≤ i.toNatClampNeg)) (hdg : decode cc pc = .ok (.iaload, 1))
    (kk : W p l e R s m args below meth c H locs cells slots Q (F0 m (pc + 1) ls (.int (x q i.toNatClampNeg) :: rest))) : W p l e R s m args below meth c H locs cells slots Q (F0 m pc ls (.int i :: .ref (ad q) :: rest)) := by
  obtain ⟨hx, hb, -, -, -, hown, hts, hN, hK, -⟩ := C
  have he : (fn_W ad dA G x)[q]? = some (ad q, .inl (dA 0, (fn_la G q).2, .inl (x q))) := by rw [fn_W_at (fn_la_lt (by omega)), fn_ce_arr hq]; rfl
  exact va_iald (D := D) (cl := fn_cl) hx hb hK hP q 0 he rfl hin hdg kk
theorem fs_zald {q : Nat} {i : Int32} (C : fn_Cx D dA ad G p s m args meth c cc nL oc rt) (hP : va_P D fn_cl (fn_W ad dA G x) H) (hq : (fn_la G q).1 = 1 + 1) (hin : ¬ (i < 0 ∨ (fn_la G q).2 ≤ i.toNatClampNeg)) (hdg : decode cc pc = .ok (.baload, 1))
    (kk : W p l e R s m args below meth c H locs cells slots Q (F0 m (pc + 1) ls (.int (x q i.toNatClampNeg) :: rest))) : W p l e R s m args below meth c H locs cells slots Q (F0 m pc ls (.int i :: .ref (ad q) :: rest)) := by
  obtain ⟨hx, hb, -, -, -, hown, hts, hN, hK, -⟩ := C
  have he : (fn_W ad dA G x)[q]? = some (ad q, .inl (dA 1, (fn_la G q).2, .inl (x q))) := by rw [fn_W_at (fn_la_lt (by omega)), fn_ce_arr hq]; rfl
  exact va_zald (D := D) (cl := fn_cl) hx hb hK hP q 1 he rfl hin hdg kk
theorem fs_bald {q : Nat} {i : Int32} (C : fn_Cx D dA ad G p s m args meth c cc nL oc rt) (hP : va_P D fn_cl (fn_W ad dA G x) H) (hq : (fn_la G q).1 = 2 + 1) (hin : ¬ (i < 0 ∨ (fn_la G q).2 ≤ i.toNatClampNeg)) (hdg : decode cc pc = .ok (.baload, 1))
    (kk : W p l e R s m args below meth c H locs cells slots Q (F0 m (pc + 1) ls (.int (x q i.toNatClampNeg) :: rest))) : W p l e R s m args below meth c H locs cells slots Q (F0 m pc ls (.int i :: .ref (ad q) :: rest)) := by
  obtain ⟨hx, hb, -, -, -, hown, hts, hN, hK, -⟩ := C
  have he : (fn_W ad dA G x)[q]? = some (ad q, .inl (dA 2, (fn_la G q).2, .inl (x q))) := by rw [fn_W_at (fn_la_lt (by omega)), fn_ce_arr hq]; rfl
  exact va_bald (D := D) (cl := fn_cl) hx hb hK hP q 2 he rfl hin hdg kk
theorem fs_rald {q : Nat} {i : Int32} (C : fn_Cx D dA ad G p s m args meth c cc nL oc rt) (hS : va_S (fn_A ad G) s.heap H locs) (hin : ¬ (i < 0 ∨ (fn_ro q).length ≤ i.toNatClampNeg)) (hdg : decode cc pc = .ok (.baload, 1))
    (kk : W p l e R s m args below meth c H locs cells slots Q (F0 m (pc + 1) ls (.int ((fn_ro q).getD i.toNatClampNeg 0) :: rest))) : W p l e R s m args below meth c H locs cells slots Q (F0 m pc ls (.int i :: .ref (ad q) :: rest)) := by
  obtain ⟨hx, hb, -, -, -, -, -, -, -, -, hR⟩ := C
  obtain ⟨-, -, -, -, h5, h6, ⟨-, -, -, h10⟩, -⟩ := hR
  unfold fn_ro at hin kk
  by_cases e0 : q = 1000
  · rw [if_pos e0] at hin kk
    subst e0
    exact va_tb hx hb h5 hS hin rfl hdg kk
  · rw [if_neg e0] at hin kk
    by_cases e1 : q = 1001
    · rw [if_pos e1] at hin kk
      subst e1
      exact va_tb hx hb h6 hS hin rfl hdg kk
    · rw [if_neg e1] at hin kk
      by_cases e2 : q = 1003
      · rw [if_pos e2] at hin kk
        subst e2
        exact va_tb hx hb h10 hS hin rfl hdg kk
      · rw [if_neg e2] at hin
        exact absurd (Or.inr (Nat.zero_le _)) hin
def fn_k19 (b : ByteArray) (pc : Nat) (I : fn_I) : Bool := match decode b pc with
  | .ok (.iaload, 1) => decide (I.2.2.1 = pc + 1 ∧ I.2.1 = 0)
  | .ok (.baload, 1) => decide (I.2.2.1 = pc + 1 ∧ (I.2.1 = 1 ∨ I.2.1 = 2))
  | _ => false
theorem fs_o19 (C : fn_Cx D dA ad G p s m args meth c cc nL oc rt) (hck : fn_k19 cc pc I = true) (hk : ∀ pc lo st x, k pc lo st x = some r → fn_Go D dA ad G p l e R s m args below meth c nL Q pc lo st x) (h : fn_o19 G I lo st x k = some r) : fn_Go D dA ad G p l e R s m args below meth c nL Q pc lo st x := by
  intro H locs ls hl hP hS
  have nx : I.2.2.1 = pc + 1 := by
    unfold fn_k19 at hck
    split at hck
    · exact (of_decide_eq_true hck).1
    · exact (of_decide_eq_true hck).1
    · cases hck
  unfold fn_o19 at h
  rw [nx] at h
  split at h
  · rename_i i q st0
    obtain ⟨h1, h2⟩ := fn_ite h
    by_cases hq : (fn_la G q).1 = I.2.1 + 1
    · obtain ⟨h3, h4⟩ := fn_ite (h1 hq)
      by_cases hin : i < 0 ∨ (fn_la G q).2 ≤ i.toNatClampNeg
      · cases h3 hin
      · have kk := hk _ _ _ _ (h4 hin) H locs ls hl hP hS
        unfold fn_k19 at hck
        split at hck
        · rename_i hd
          rw [(of_decide_eq_true hck).2] at hq
          exact fs_iald C hP hq hin hd kk
        · rename_i hd
          rcases (of_decide_eq_true hck).2 with z | z
          · rw [z] at hq
            exact fs_zald C hP hq hin hd kk
          · rw [z] at hq
            exact fs_bald C hP hq hin hd kk
        · cases hck
    · obtain ⟨h3, h4⟩ := fn_ite (h2 hq)
      by_cases h5 : I.2.1 = 2
      · obtain ⟨h6, h7⟩ := fn_ite (h3 h5)
        by_cases hin : i < 0 ∨ (fn_ro q).length ≤ i.toNatClampNeg
        · cases h6 hin
        · have kk := hk _ _ _ _ (h7 hin) H locs ls hl hP hS
          unfold fn_k19 at hck
          split at hck
          · have := (of_decide_eq_true hck).2
            omega
          · rename_i hd
            exact fs_rald C hS hin hd kk
          · cases hck
      · cases h4 h5
  · cases h
theorem fs_iast {q : Nat} {i v : Int32} (C : fn_Cx D dA ad G p s m args meth c cc nL oc rt) (hP : va_P D fn_cl (fn_W ad dA G x) H) (hS : va_S (fn_A ad G) s.heap H locs) (hq : (fn_la G q).1 = 0 + 1) (hin : ¬ (i < 0 ∨ (fn_la G q).2 ≤ i.toNatClampNeg)) (hdg : decode cc pc = .ok (.iastore, 1))
    (kk : ∀ (H1 : Heap) (locs1 : List Loc), va_P D fn_cl (fn_W ad dA G (fn_w x q i.toNatClampNeg v)) H1 → va_S (fn_A ad G) s.heap H1 locs1 → W p l e R s m args below meth c H1 locs1 cells slots Q (F0 m (pc + 1) ls rest)) : W p l e R s m args below meth c H locs cells slots Q (F0 m pc ls (.int v :: .int i :: .ref (ad q) :: rest)) := by
  obtain ⟨hx, hb, -, -, -, hown, hts, hN, hK, had, -⟩ := C
  have hq' : q < fn_NC G := fn_la_lt (by omega)
  have he : (fn_W ad dA G x)[q]? = some (ad q, .inl (dA 0, (fn_la G q).2, .inl (x q))) := by rw [fn_W_at hq', fn_ce_arr hq]; rfl
  have hset : (fn_W ad dA G x).set q (ad q, .inl (dA 0, (fn_la G q).2, .inl (upd (x q) i.toNatClampNeg v))) = fn_W ad dA G (fn_w x q i.toNatClampNeg v) := by
    refine fn_W_set hq' fn_w_ne ?_
    rw [fn_ce_arr hq, fn_w_eq]; rfl
  exact va_iast (D := D) (cl := fn_cl) hx hb hK hP (fn_D had) hS q 0 he rfl hin hdg (fun H1 locs1 h1 _ h3 => kk H1 locs1 (by rw [hset] at h1; exact h1) h3)
theorem fs_zast {q : Nat} {i v : Int32} (C : fn_Cx D dA ad G p s m args meth c cc nL oc rt) (hP : va_P D fn_cl (fn_W ad dA G x) H) (hS : va_S (fn_A ad G) s.heap H locs) (hq : (fn_la G q).1 = 1 + 1) (hin : ¬ (i < 0 ∨ (fn_la G q).2 ≤ i.toNatClampNeg)) (hz : v = 0 ∨ v = 1) (hdg : decode cc pc = .ok (.bastore, 1))
    (kk : ∀ (H1 : Heap) (locs1 : List Loc), va_P D fn_cl (fn_W ad dA G (fn_w x q i.toNatClampNeg v)) H1 → va_S (fn_A ad G) s.heap H1 locs1 → W p l e R s m args below meth c H1 locs1 cells slots Q (F0 m (pc + 1) ls rest)) : W p l e R s m args below meth c H locs cells slots Q (F0 m pc ls (.int v :: .int i :: .ref (ad q) :: rest)) := by
  obtain ⟨hx, hb, -, -, -, hown, hts, hN, hK, had, -⟩ := C
  have hq' : q < fn_NC G := fn_la_lt (by omega)
  have he : (fn_W ad dA G x)[q]? = some (ad q, .inl (dA 1, (fn_la G q).2, .inl (x q))) := by rw [fn_W_at hq', fn_ce_arr hq]; rfl
  have hnar : vp_nar .boolean v = v := by rcases hz with rfl | rfl <;> rfl
  have hset : (fn_W ad dA G x).set q (ad q, .inl (dA 1, (fn_la G q).2, .inl (upd (x q) i.toNatClampNeg (vp_nar .boolean v)))) = fn_W ad dA G (fn_w x q i.toNatClampNeg v) := by
    refine fn_W_set hq' fn_w_ne ?_
    rw [fn_ce_arr hq, fn_w_eq, hnar]; rfl
  exact va_zast (D := D) (cl := fn_cl) hx hb hK hP (fn_D had) hS q 1 he rfl hin hdg (fun H1 locs1 h1 _ h3 => kk H1 locs1 (by rw [hset] at h1; exact h1) h3)
theorem fs_bast {q : Nat} {i v : Int32} (C : fn_Cx D dA ad G p s m args meth c cc nL oc rt) (hP : va_P D fn_cl (fn_W ad dA G x) H) (hS : va_S (fn_A ad G) s.heap H locs) (hq : (fn_la G q).1 = 2 + 1) (hin : ¬ (i < 0 ∨ (fn_la G q).2 ≤ i.toNatClampNeg)) (hdg : decode cc pc = .ok (.bastore, 1))
    (kk : ∀ (H1 : Heap) (locs1 : List Loc), va_P D fn_cl (fn_W ad dA G (fn_w x q i.toNatClampNeg v.toInt8.toInt32)) H1 → va_S (fn_A ad G) s.heap H1 locs1 → W p l e R s m args below meth c H1 locs1 cells slots Q (F0 m (pc + 1) ls rest)) : W p l e R s m args below meth c H locs cells slots Q (F0 m pc ls (.int v :: .int i :: .ref (ad q) :: rest)) := by
  obtain ⟨hx, hb, -, -, -, hown, hts, hN, hK, had, -⟩ := C
  have hq' : q < fn_NC G := fn_la_lt (by omega)
  have he : (fn_W ad dA G x)[q]? = some (ad q, .inl (dA 2, (fn_la G q).2, .inl (x q))) := by rw [fn_W_at hq', fn_ce_arr hq]; rfl
  have hset : (fn_W ad dA G x).set q (ad q, .inl (dA 2, (fn_la G q).2, .inl (upd (x q) i.toNatClampNeg (vp_nar .byte v)))) = fn_W ad dA G (fn_w x q i.toNatClampNeg v.toInt8.toInt32) := by
    refine fn_W_set hq' fn_w_ne ?_
    rw [fn_ce_arr hq, fn_w_eq]; rfl
  exact va_bast (D := D) (cl := fn_cl) hx hb hK hP (fn_D had) hS q 2 he rfl hin hdg (fun H1 locs1 h1 _ h3 => kk H1 locs1 (by rw [hset] at h1; exact h1) h3)
def fn_k20 (b : ByteArray) (pc : Nat) (I : fn_I) : Bool := match decode b pc with
  | .ok (.iastore, 1) => decide (I.2.2.1 = pc + 1 ∧ I.2.1 = 0)
  | .ok (.bastore, 1) => decide (I.2.2.1 = pc + 1 ∧ (I.2.1 = 1 ∨ I.2.1 = 2))
  | _ => false
theorem fs_o20 (C : fn_Cx D dA ad G p s m args meth c cc nL oc rt) (hck : fn_k20 cc pc I = true) (hk : ∀ pc lo st x, k pc lo st x = some r → fn_Go D dA ad G p l e R s m args below meth c nL Q pc lo st x) (h : fn_o20 G I lo st x k = some r) : fn_Go D dA ad G p l e R s m args below meth c nL Q pc lo st x := by
  intro H locs ls hl hP hS
  have nx : I.2.2.1 = pc + 1 := by
    unfold fn_k20 at hck
    split at hck
    · exact (of_decide_eq_true hck).1
    · exact (of_decide_eq_true hck).1
    · cases hck
  unfold fn_o20 at h
  rw [nx] at h
  split at h
  · rename_i v i q st0
    obtain ⟨h1, h2⟩ := fn_ite h
    by_cases hq : (fn_la G q).1 = I.2.1 + 1
    · obtain ⟨h3, h4⟩ := fn_ite (h1 hq)
      by_cases hin : i < 0 ∨ (fn_la G q).2 ≤ i.toNatClampNeg
      · cases h3 hin
      · replace h := h4 hin
        unfold fn_k20 at hck
        split at hck
        · rename_i hd
          have z := (of_decide_eq_true hck).2
          rw [z] at hq h
          exact fs_iast C hP hS hq hin hd (fun H1 locs1 hP1 hS1 => hk _ _ _ _ h H1 locs1 ls hl hP1 hS1)
        · rename_i hd
          rcases (of_decide_eq_true hck).2 with z | z
          · rw [z] at hq h
            obtain ⟨h5, h6⟩ := fn_ite h
            by_cases hz : v = 0 ∨ v = 1
            · exact fs_zast C hP hS hq hin hz hd (fun H1 locs1 hP1 hS1 => hk _ _ _ _ (h5 hz) H1 locs1 ls hl hP1 hS1)
            · cases h6 hz
          · rw [z] at hq h
            exact fs_bast C hP hS hq hin hd (fun H1 locs1 hP1 hS1 => hk _ _ _ _ h H1 locs1 ls hl hP1 hS1)
        · cases hck
    · cases h2 hq
  · cases h
theorem fn_or_cv {ad : Nat → Nat} (r : Option Nat) : va_rf (r.map ad) = fn_cv ad (fn_or r) := by cases r <;> rfl
theorem fs_aald {q t : Nat} {i : Int32} (C : fn_Cx D dA ad G p s m args meth c cc nL oc rt) (hP : va_P D fn_cl (fn_W ad dA G x) H) (hq : (fn_la G q).1 = t + 1) (ht : 3 ≤ t ∧ t ≤ 5) (hin : ¬ (i < 0 ∨ (fn_la G q).2 ≤ i.toNatClampNeg)) (hdg : decode cc pc = .ok (.aaload, 1))
    (kk : W p l e R s m args below meth c H locs cells slots Q (F0 m (pc + 1) ls (fn_cv ad (fn_or (fn_ar x q i.toNatClampNeg)) :: rest))) : W p l e R s m args below meth c H locs cells slots Q (F0 m pc ls (.int i :: .ref (ad q) :: rest)) := by
  obtain ⟨hx, hb, -, -, -, hown, hts, hN, hK, -⟩ := C
  have he : (fn_W ad dA G x)[q]? = some (ad q, .inl (dA t, (fn_la G q).2, .inr (.inr (.inr (.inr (fun i => (fn_ar x q i).map ad)))))) := by
    rw [fn_W_at (fn_la_lt (by omega)), fn_ce_arr hq, if_neg (by omega)]
  rw [← fn_or_cv] at kk
  obtain ⟨C0, h0⟩ : ∃ C0, (fn_ty dA)[t]? = some (dA t, .object C0) := by
    obtain rfl | rfl | rfl : t = 3 ∨ t = 4 ∨ t = 5 := by omega
    all_goals exact ⟨_, rfl⟩
  exact va_aldq (D := D) (cl := fn_cl) hx hb hK hP q t he h0 hin hdg kk
def fn_k21 (b : ByteArray) (pc : Nat) (I : fn_I) : Bool := match decode b pc with
  | .ok (.aaload, 1) => decide (I.2.2.1 = pc + 1 ∧ 3 ≤ I.2.1 ∧ I.2.1 ≤ 5)
  | _ => false
theorem fs_o21 (C : fn_Cx D dA ad G p s m args meth c cc nL oc rt) (hck : fn_k21 cc pc I = true) (hk : ∀ pc lo st x, k pc lo st x = some r → fn_Go D dA ad G p l e R s m args below meth c nL Q pc lo st x) (h : fn_o21 G I lo st x k = some r) : fn_Go D dA ad G p l e R s m args below meth c nL Q pc lo st x := by
  intro H locs ls hl hP hS
  unfold fn_k21 at hck
  split at hck
  · rename_i hd
    obtain ⟨e1, e2⟩ := of_decide_eq_true hck
    unfold fn_o21 at h
    rw [e1] at h
    split at h
    · rename_i i q st0
      obtain ⟨h1, h2⟩ := fn_ite h
      by_cases hq : (fn_la G q).1 = I.2.1 + 1
      · obtain ⟨h3, h4⟩ := fn_ite (h1 hq)
        by_cases hin : i < 0 ∨ (fn_la G q).2 ≤ i.toNatClampNeg
        · cases h3 hin
        · refine fs_aald C hP hq e2 hin hd ?_
          obtain ⟨h5, h6⟩ := fn_ite (h4 hin)
          unfold fn_ar
          by_cases hy : fn_dy q = true
          · rw [if_pos hy]
            exact hk _ _ _ _ (h5 hy) H locs ls hl hP hS
          · rw [if_neg hy]
            obtain ⟨h7, h8⟩ := fn_ite (h6 hy)
            by_cases h14 : 1 ≤ i.toNatClampNeg ∧ i.toNatClampNeg ≤ 4
            · rw [if_pos h14]
              exact hk _ _ _ _ (h7 h14) H locs ls hl hP hS
            · rw [if_neg h14]
              exact hk _ _ _ _ (h8 h14) H locs ls hl hP hS
      · cases h2 hq
    · cases h
  · cases hck
/-- frames[i] = a frame -/
theorem fs_aast {q v : Nat} {i : Int32} (C : fn_Cx D dA ad G p s m args meth c cc nL oc rt) (hP : va_P D fn_cl (fn_W ad dA G x) H) (hS : va_S (fn_A ad G) s.heap H locs) (hd : fn_dy q = true) (hq : (fn_la G q).1 = 3 + 1) (hv : fn_lc G v = 1 + 1) (hin : ¬ (i < 0 ∨ (fn_la G q).2 ≤ i.toNatClampNeg)) (hdg : decode cc pc = .ok (.aastore, 1))
    (kk : ∀ (H1 : Heap) (locs1 : List Loc), va_P D fn_cl (fn_W ad dA G (fn_w x q i.toNatClampNeg (nI v))) H1 → va_S (fn_A ad G) s.heap H1 locs1 → W p l e R s m args below meth c H1 locs1 cells slots Q (F0 m (pc + 1) ls rest)) : W p l e R s m args below meth c H locs cells slots Q (F0 m pc ls (.ref (ad v) :: .int i :: .ref (ad q) :: rest)) := by
  obtain ⟨hx, hb, -, -, -, hown, hts, hN, hK, had, -⟩ := C
  have hq' : q < fn_NC G := fn_la_lt (by omega)
  have hv' : v < fn_NC G := fn_lc_lt (by omega)
  have h62 := fn_NC_le G
  have hq2 : q = 2 := by simpa [fn_dy] using hd
  have he : (fn_W ad dA G x)[q]? = some (ad q, .inl (dA 3, (fn_la G q).2, .inr (.inr (.inr (.inr (fun i => (fn_ar x q i).map ad)))))) := by rw [fn_W_at hq', fn_ce_arr hq, if_neg (by omega)]
  have hev : (fn_W ad dA G x)[v]? = some (ad v, .inr (1, fn_fs ad x 1 v)) := by rw [fn_W_at hv', fn_ce_obj hv]
  have hset : (fn_W ad dA G x).set q (ad q, .inl (dA 3, (fn_la G q).2, .inr (.inr (.inr (.inr (va_up (fun i => (fn_ar x q i).map ad) i.toNatClampNeg (some (ad v)))))))) = fn_W ad dA G (fn_w x q i.toNatClampNeg (nI v)) := by
    refine fn_W_set hq' fn_w_ne ?_
    rw [fn_ce_arr hq, if_neg (by omega)]
    subst hq2
    congr 7
    funext j
    unfold va_up fn_ar
    simp only [if_pos hd]
    rw [fn_w_eq]
    unfold upd
    by_cases hj : j = i.toNatClampNeg
    · rw [if_pos hj, if_pos hj, nI_clamp (by omega)]; rfl
    · rw [if_neg hj, if_neg hj]
  exact va_astq (D := D) (cl := fn_cl) (r := (fn_C1, fn_F1, 5)) hx hb hK hP (fn_D had) hS q 3 v 1 he rfl hev rfl hin hdg (fun H1 locs1 h1 _ h3 => kk H1 locs1 (by rw [hset] at h1; exact h1) h3)
def fn_k22 (b : ByteArray) (pc : Nat) (I : fn_I) : Bool := match decode b pc with
  | .ok (.aastore, 1) => decide (I.2.2.1 = pc + 1)
  | _ => false
theorem fs_o22 (C : fn_Cx D dA ad G p s m args meth c cc nL oc rt) (hck : fn_k22 cc pc I = true) (hk : ∀ pc lo st x, k pc lo st x = some r → fn_Go D dA ad G p l e R s m args below meth c nL Q pc lo st x) (h : fn_o22 G I lo st x k = some r) : fn_Go D dA ad G p l e R s m args below meth c nL Q pc lo st x := by
  intro H locs ls hl hP hS
  unfold fn_k22 at hck
  split at hck
  · rename_i hd
    unfold fn_o22 at h
    rw [of_decide_eq_true hck] at h
    split at h
    · rename_i v i q st0
      obtain ⟨h1, h2⟩ := fn_ite h
      by_cases hq : fn_dy q = true ∧ (fn_la G q).1 = 4 ∧ fn_lc G v = 2
      · obtain ⟨h3, h4⟩ := fn_ite (h1 hq)
        by_cases hin : i < 0 ∨ (fn_la G q).2 ≤ i.toNatClampNeg
        · cases h3 hin
        · exact fs_aast C hP hS hq.1 hq.2.1 hq.2.2 hin hd (fun H1 locs1 hP1 hS1 => hk _ _ _ _ (h4 hin) H1 locs1 ls hl hP1 hS1)
      · cases h2 hq
    · cases h
  · cases hck
/-- links of the static fields that are read -/
def fn_SL (oc idx b : Nat) : Prop := ∃ C0 n d : String, Jvm.Cond.fieldLink (fn_on oc) idx C0 n d ∈ fn_tT ∧ ((b = 0 ∧ C0 = "java/lang/String" ∧ n = "COMPACT_STRINGS" ∧ d = "Z") ∨ (b = 1 ∧ C0 = "java/lang/Integer" ∧ n = "DigitOnes" ∧ d = "[B") ∨ (b = 2 ∧ C0 = "java/lang/Integer" ∧ n = "DigitTens" ∧ d = "[B") ∨ (b = 3 ∧ C0 = "jdk/internal/util/Preconditions" ∧ n = "SIOOBE_FORMATTER" ∧ d = "Ljava/util/function/BiFunction;"))
theorem fn_sl0 : fn_SL 9 18 0 := ⟨"java/lang/String", "COMPACT_STRINGS", "Z", (fn_gd (fn_tm1 (k := 230) rfl) rfl), Or.inl ⟨rfl, rfl, rfl, rfl⟩⟩
theorem fn_sl1 : fn_SL 10 38 0 := ⟨"java/lang/String", "COMPACT_STRINGS", "Z", (fn_gd (fn_tm2 (k := 123) rfl) rfl), Or.inl ⟨rfl, rfl, rfl, rfl⟩⟩
theorem fn_sl2 : fn_SL 10 1053 3 := ⟨"jdk/internal/util/Preconditions", "SIOOBE_FORMATTER", "Ljava/util/function/BiFunction;", (fn_gd (fn_tm2 (k := 101) rfl) rfl), Or.inr (Or.inr (Or.inr (⟨rfl, rfl, rfl, rfl⟩)))⟩
theorem fn_sl3 : fn_SL 11 83 1 := ⟨"java/lang/Integer", "DigitOnes", "[B", (fn_gd (fn_tm2 (k := 171) rfl) rfl), Or.inr (Or.inl ⟨rfl, rfl, rfl, rfl⟩)⟩
theorem fn_sl4 : fn_SL 11 87 2 := ⟨"java/lang/Integer", "DigitTens", "[B", (fn_gd (fn_tm2 (k := 173) rfl) rfl), Or.inr (Or.inr (Or.inl ⟨rfl, rfl, rfl, rfl⟩))⟩
def fn_slL : List (Nat × Nat × Nat) := [(9, 18, 0), (10, 38, 0), (10, 1053, 3), (11, 83, 1), (11, 87, 2)]
theorem fn_slok : ∀ q ∈ fn_slL, fn_SL q.1 q.2.1 q.2.2 := List.forall_mem_cons.mpr ⟨fn_sl0, List.forall_mem_cons.mpr ⟨fn_sl1, List.forall_mem_cons.mpr ⟨fn_sl2, List.forall_mem_cons.mpr ⟨fn_sl3, List.forall_mem_cons.mpr ⟨fn_sl4, fun _ h => absurd h List.not_mem_nil⟩⟩⟩⟩⟩
def fn_TL (oc idx b : Nat) : Prop := (b = 0 ∨ b = 1) ∧ (b = 0 → Jvm.Cond.fieldLink (fn_on oc) idx "java/lang/String" "value" "[B" ∈ fn_tT) ∧ (b = 1 → Jvm.Cond.fieldLink (fn_on oc) idx "java/lang/String" "coder" "B" ∈ fn_tT)
theorem fn_tl0 : fn_TL 10 9 0 := ⟨Or.inl rfl, fun _ => (fn_gd (fn_tm5 (k := 238) rfl) rfl), fun h => absurd h (by decide)⟩
theorem fn_tl1 : fn_TL 10 15 1 := ⟨Or.inr rfl, fun h => absurd h (by decide), fun _ => (fn_gd (fn_tm5 (k := 239) rfl) rfl)⟩
def fn_tlL : List (Nat × Nat × Nat) := [(10, 9, 0), (10, 15, 1)]
theorem fn_tlok : ∀ q ∈ fn_tlL, fn_TL q.1 q.2.1 q.2.2 := List.forall_mem_cons.mpr ⟨fn_tl0, List.forall_mem_cons.mpr ⟨fn_tl1, fun _ h => absurd h List.not_mem_nil⟩⟩
def fn_k30 (b : ByteArray) (oc pc : Nat) (I : fn_I) : Bool := match decode b pc with
  | .ok (.getstatic idx, 3) => decide (I.2.1 = pc + 3 ∧ (oc, idx, I.2.2.1) ∈ fn_slL)
  | _ => false
theorem fs_o30 (C : fn_Cx D dA ad G p s m args meth c cc nL oc rt) (hck : fn_k30 cc oc pc I = true) (hk : ∀ pc lo st x, k pc lo st x = some r → fn_Go D dA ad G p l e R s m args below meth c nL Q pc lo st x) (h : fn_o30 I lo st x k = some r) : fn_Go D dA ad G p l e R s m args below meth c nL Q pc lo st x := by
  intro H locs ls hl hP hS
  unfold fn_k30 at hck
  split at hck
  · rename_i idx hd
    obtain ⟨e1, e2⟩ := of_decide_eq_true hck
    unfold fn_o30 at h
    rw [e1] at h
    have kk := hk _ _ _ _ h H locs ls hl hP hS
    obtain ⟨hx, hb, -, -, -, hown, hts, -, -, -, hR⟩ := C
    obtain ⟨z1, z2, z3, z4, -⟩ := hR
    obtain ⟨C0, n, d, hm, hz⟩ := fn_slok _ e2
    rcases hz with ⟨w, rfl, rfl, rfl⟩ | ⟨w, rfl, rfl, rfl⟩ | ⟨w, rfl, rfl, rfl⟩ | ⟨w, rfl, rfl, rfl⟩ <;> simp only at w <;> rw [w] at kk
    · exact va_gets hx hb z1 hS hown (hts _ hm) (fun _ h9 => h9) hd kk
    · exact va_gets hx hb z2 hS hown (hts _ hm) (fun _ h9 => h9) hd kk
    · exact va_gets hx hb z3 hS hown (hts _ hm) (fun _ h9 => h9) hd kk
    · exact va_gets hx hb z4 hS hown (hts _ hm) (fun _ h9 => h9) hd kk
  · cases hck
def fn_k31 (b : ByteArray) (pc : Nat) (I : fn_I) : Bool := match decode b pc with
  | .ok (.arraylength, 1) => decide (I.2.1 = pc + 1)
  | _ => false
theorem fs_o31 (C : fn_Cx D dA ad G p s m args meth c cc nL oc rt) (hck : fn_k31 cc pc I = true) (hk : ∀ pc lo st x, k pc lo st x = some r → fn_Go D dA ad G p l e R s m args below meth c nL Q pc lo st x) (h : fn_o31 G I lo st x k = some r) : fn_Go D dA ad G p l e R s m args below meth c nL Q pc lo st x := by
  intro H locs ls hl hP hS
  unfold fn_k31 at hck
  split at hck
  · rename_i hd
    unfold fn_o31 at h
    rw [of_decide_eq_true hck] at h
    obtain ⟨hx, hb, -, -, -, hown, hts, -, hK, -, hR⟩ := C
    split at h
    · rename_i q st0
      obtain ⟨h1, h2⟩ := fn_ite h
      by_cases hq : (fn_la G q).1 = 0
      · obtain ⟨h3, h4⟩ := fn_ite (h1 hq)
        by_cases h5 : q = 1003
        · subst h5
          obtain ⟨-, -, -, -, -, -, ⟨-, -, -, h10⟩, -⟩ := hR
          exact va_tlen hx hb h10 hS rfl hd (hk _ _ _ _ (h3 rfl) H locs ls hl hP hS)
        · cases h4 h5
      · have kk := hk _ _ _ _ (h2 hq) H locs ls hl hP hS
        have hlt := fn_la_lt hq
        have hsm := (fn_sml hlt).1
        obtain ⟨t, ht⟩ : ∃ t, (fn_la G q).1 = t + 1 := ⟨(fn_la G q).1 - 1, by omega⟩
        have he : (fn_W ad dA G x)[q]? = some (ad q, .inl (dA t, (fn_la G q).2, if t < 3 then .inl (x q) else .inr (.inr (.inr (.inr (fun i => (fn_ar x q i).map ad)))))) := by rw [fn_W_at hlt, fn_ce_arr ht]
        obtain ⟨ty, h0⟩ : ∃ ty, (fn_ty dA)[t]? = some (dA t, ty) := by
          obtain rfl | rfl | rfl | rfl | rfl | rfl : t = 0 ∨ t = 1 ∨ t = 2 ∨ t = 3 ∨ t = 4 ∨ t = 5 := by omega
          all_goals exact ⟨_, rfl⟩
        exact va_alen (D := D) (cl := fn_cl) hx hb hK hP q t he h0 rfl hd kk
    · cases h
  · cases hck
def fn_k37 (b : ByteArray) (oc pc : Nat) (I : fn_I) : Bool := match decode b pc with
  | .ok (.ldc idx, 2) => decide (I.2.1 = pc + 2 ∧ idx = fn_lidx ∧ oc = 4)
  | _ => false
theorem fs_o37 (C : fn_Cx D dA ad G p s m args meth c cc nL oc rt) (hck : fn_k37 cc oc pc I = true) (hk : ∀ pc lo st x, k pc lo st x = some r → fn_Go D dA ad G p l e R s m args below meth c nL Q pc lo st x) (h : fn_o37 I lo st x k = some r) : fn_Go D dA ad G p l e R s m args below meth c nL Q pc lo st x := by
  intro H locs ls hl hP hS
  unfold fn_k37 at hck
  split at hck
  · rename_i idx hd
    obtain ⟨e1, e2, e3⟩ := of_decide_eq_true hck
    unfold fn_o37 at h
    rw [e1] at h
    obtain ⟨hx, hb, -, -, -, hown, hts, -, hK, -, hR⟩ := C
    subst e3
    rw [e2] at hd
    exact va_ldcS (own := "FieldNet$Node") hx hb hown hR.2.2.2.2.2.2.2 hd (hk _ _ _ _ h H locs ls hl hP hS)
  · cases hck
def fn_k39 (b : ByteArray) (oc pc : Nat) (I : fn_I) : Bool := match decode b pc with
  | .ok (.getfield idx, 3) => decide (I.2.1 = pc + 3 ∧ (oc, idx, I.2.2.1) ∈ fn_tlL)
  | _ => false
theorem fs_o39 (C : fn_Cx D dA ad G p s m args meth c cc nL oc rt) (hck : fn_k39 cc oc pc I = true) (hk : ∀ pc lo st x, k pc lo st x = some r → fn_Go D dA ad G p l e R s m args below meth c nL Q pc lo st x) (h : fn_o39 I lo st x k = some r) : fn_Go D dA ad G p l e R s m args below meth c nL Q pc lo st x := by
  intro H locs ls hl hP hS
  unfold fn_k39 at hck
  split at hck
  · rename_i idx hd
    obtain ⟨e1, e2⟩ := of_decide_eq_true hck
    unfold fn_o39 at h
    rw [e1] at h
    obtain ⟨hx, hb, -, -, -, hown, hts, -, hK, -, hR⟩ := C
    obtain ⟨-, -, -, -, -, -, ⟨-, h8, h9, -⟩, -⟩ := hR
    split at h
    · rename_i q st0
      obtain ⟨h1, h2⟩ := fn_ite h
      by_cases hq : q = 1002
      · subst hq
        replace h := h1 rfl
        obtain ⟨z, hz⟩ := fn_tlok _ e2
        rcases z with z | z
        · simp only at z
          rw [z] at h
          exact vk_getf hx hb h9 hS hown (hts _ (hz.1 z)) (fun _ h9 => h9) hd (hk _ _ _ _ h H locs ls hl hP hS)
        · simp only at z
          rw [z] at h
          exact vk_getf hx hb h8 hS hown (hts _ (hz.2 z)) (fun _ h9 => h9) hd (hk _ _ _ _ h H locs ls hl hP hS)
      · cases h2 hq
    · cases h
  · cases hck
def fn_AW : Prop := Jvm.Cond.native arraycopyName ∈ fn_tT ∧ Jvm.Cond.static arraycopyName ∈ fn_tT ∧ Jvm.Cond.initialized "java/lang/System" ∈ fn_tT
theorem fn_aw : fn_AW := ⟨(fn_gd (fn_tm2 (k := 58) rfl) rfl), (fn_gd (fn_tm2 (k := 57) rfl) rfl), (fn_gd (fn_tm1 (k := 15) rfl) rfl)⟩
theorem fn_al0 : Jvm.Cond.methodLink (fn_on 10) 212 arraycopyName ∈ fn_tT := (fn_gd (fn_tm2 (k := 156) rfl) rfl)
def fn_alL : List (Nat × Nat) := [(10, 212)]
theorem fn_alok : ∀ q ∈ fn_alL, Jvm.Cond.methodLink (fn_on q.1) q.2 arraycopyName ∈ fn_tT := List.forall_mem_cons.mpr ⟨fn_al0, fun _ h => absurd h List.not_mem_nil⟩
def fn_k38 (b : ByteArray) (oc pc : Nat) (I : fn_I) : Bool := match decode b pc with
  | .ok (.invokestatic idx, 3) => decide (I.2.1 = pc + 3 ∧ (oc, idx) ∈ fn_alL)
  | _ => false
theorem fn_fit_lit : ∀ j, j < 5 → fits .byte (.int (fn_lit.getD j 0)) = true := by decide +kernel
theorem fs_o38 (C : fn_Cx D dA ad G p s m args meth c cc nL oc rt) (hRm : 1 ≤ R.frames ∧ 8 + (nativeFrameWords "java/lang/System" "arraycopy" 5 + 11) ≤ R.locals) (hck : fn_k38 cc oc pc I = true) (hk : ∀ pc lo st x, k pc lo st x = some r → fn_Go D dA ad G p l e R s m args below meth c nL Q pc lo st x) (h : fn_o38 G I lo st x k = some r) : fn_Go D dA ad G p l e R s m args below meth c nL Q pc lo st x := by
  intro H locs ls hl hP hS
  unfold fn_k38 at hck
  split at hck
  · rename_i idx hd
    obtain ⟨e1, e2⟩ := of_decide_eq_true hck
    unfold fn_o38 at h
    rw [e1] at h
    obtain ⟨hx, hb, hml, -, -, hown, hts, -, hK, had, hR⟩ := C
    obtain ⟨-, -, -, -, -, -, ⟨-, -, -, h10⟩, -⟩ := hR
    split at h
    · rename_i n dp q sp b0 st0
      obtain ⟨h1, h2⟩ := fn_ite h
      by_cases hq : b0 = 1003 ∧ (fn_la G q).1 = 3 ∧ fn_sh st0 = true
      · obtain ⟨h3, h4⟩ := fn_ite (h1 hq)
        obtain ⟨rfl, hq2, hsh⟩ := hq
        by_cases hbad : sp < 0 ∨ dp < 0 ∨ n < 0 ∨ ¬ sp.toNatClampNeg + n.toNatClampNeg ≤ 5 ∨ ¬ dp.toNatClampNeg + n.toNatClampNeg ≤ (fn_la G q).2
        · cases h3 hbad
        · replace h := h4 hbad
          have b1 : ¬ sp < 0 := fun z => hbad (Or.inl z)
          have b2 : ¬ dp < 0 := fun z => hbad (Or.inr (Or.inl z))
          have b3 : ¬ n < 0 := fun z => hbad (Or.inr (Or.inr (Or.inl z)))
          have b4 : sp.toNatClampNeg + n.toNatClampNeg ≤ 5 := Classical.not_not.mp fun z => hbad (Or.inr (Or.inr (Or.inr (Or.inl z))))
          have b5 : dp.toNatClampNeg + n.toNatClampNeg ≤ (fn_la G q).2 := Classical.not_not.mp fun z => hbad (Or.inr (Or.inr (Or.inr (Or.inr z))))
          have hq' : q < fn_NC G := fn_la_lt (by omega)
          have he : (fn_W ad dA G x)[q]? = some (ad q, .inl (dA 2, (fn_la G q).2, .inl (x q))) := by rw [fn_W_at hq', fn_ce_arr (t := 2) hq2]; rfl
          have hset : (fn_W ad dA G x).set q (ad q, .inl (dA 2, (fn_la G q).2, .inl (va_cpy (fun j => fn_lit.getD j 0) (x q) sp.toNatClampNeg dp.toNatClampNeg n.toNatClampNeg))) = fn_W ad dA G (fn_cp x q sp.toNatClampNeg dp.toNatClampNeg n.toNatClampNeg) := by
            refine fn_W_set hq' (fun a h => if_neg h) ?_
            rw [fn_ce_arr (t := 2) hq2]
            unfold fn_cp
            rw [if_pos rfl]; rfl
          have hcat : ((st0.map (fn_cv ad)).map fun v => v.category).sum ≤ 8 := by
            have e5 : (st0.map (fn_cv ad)).map (fun v => v.category) = st0.map (fun v => v.category) := by
              rw [List.map_map]
              exact List.map_congr_left fun v _ => fn_cv_cat ad v
            rw [e5]
            exact Nat.le_of_ble_eq_true hsh
          refine vk_copyt (f := fun j => fn_lit.getD j 0) hx hb (hml.trans hl.1.symm) hown (hts _ (fn_alok _ e2)) (hts _ fn_aw.1) (hts _ fn_aw.2.1) (hts _ fn_aw.2.2) hK hP (fn_D had) hS h10 q 2 he rfl b1 b2 b3 b4 b5 (fun i hi => fn_fit_lit _ (by omega)) hRm.1 (by omega) hd (fun H1 locs1 g1 _ g3 => hk _ _ _ _ h H1 locs1 ls hl (by rw [hset] at g1; exact g1) g3)
      · cases h2 hq
    · cases h
  · cases hck
end FP
