/-! ===== one row for each instruction of the machine: a check against the bytes, and what it is worth ===== -/
def fn_Go (D : va_G) (dA : Nat → ClassId) (ad : Nat → Nat) (G : Nat) (p : Program) (l : Launch) (e : Env) (R : Room) (s : State) (m : MethodId) (args : Array Value) (below : List Frame) (meth : Method) (c : Code) (nL : Nat) (Q : State → Prop) (pc : Nat) (lo : fn_L) (st : List Value) (x : fn_M) : Prop :=
  ∀ (H : Heap) (locs : List Loc) (ls : Array Slot), lv_has ls nL (lo.map (fun q => (q.1, fn_cv ad q.2))) → va_P D fn_cl (fn_W ad dA G x) H → va_S (fn_A ad G) s.heap H locs → W p l e R s m args below meth c H locs 0 0 Q (F0 m pc ls (st.map (fn_cv ad)))
theorem fn_ite {α : Type} {q : Prop} {dq : Decidable q} {A B r : α} (h : @ite α q dq A B = r) : (q → A = r) ∧ (¬ q → B = r) :=
  ⟨fun z => by rw [if_pos z] at h; exact h, fun z => by rw [if_neg z] at h; exact h⟩
theorem fn_rd_mem {i : Nat} {v : Value} : ∀ {lo : fn_L}, fn_rd lo i = some v → (i, v) ∈ lo
  | [], h => by cases h
  | (j, w) :: r, h => by
    unfold fn_rd at h
    obtain ⟨h1, h2⟩ := fn_ite h
    by_cases e : j = i
    · have := h1 e
      cases this
      subst e
      exact List.mem_cons_self
    · exact List.mem_cons_of_mem _ (fn_rd_mem (h2 e))
theorem fn_rd_has {ad : Nat → Nat} {ls : Array Slot} {nL i : Nat} {v : Value} {lo : fn_L} (hl : lv_has ls nL (lo.map (fun q => (q.1, fn_cv ad q.2)))) (h : fn_rd lo i = some v) : ls[i]? = some (.val (fn_cv ad v)) :=
  hl.2.2 (i, fn_cv ad v) (List.mem_map.mpr ⟨(i, v), fn_rd_mem h, rfl⟩)
theorem fn_ins_mem {i : Nat} {v : Value} {q : Nat × Value} : ∀ {l : fn_L}, q ∈ fn_ins i v l → q = (i, v) ∨ q ∈ l
  | [], h => Or.inl (List.mem_singleton.mp h)
  | (j, w) :: r, h => by
    unfold fn_ins at h
    split at h
    · rcases List.mem_cons.mp h with h | h
      · exact Or.inl h
      · exact Or.inr h
    · rcases List.mem_cons.mp h with h | h
      · exact Or.inr (h ▸ List.mem_cons_self)
      · rcases fn_ins_mem h with h | h
        · exact Or.inl h
        · exact Or.inr (List.mem_cons_of_mem _ h)
theorem fn_wr_has {ad : Nat → Nat} {ls : Array Slot} {nL i : Nat} {v : Value} {lo : fn_L} (h : lv_has ls nL ((i, fn_cv ad v) :: (lo.map (fun q => (q.1, fn_cv ad q.2))).filter (fun q => !(q.1 == i) && !(q.1 + 1 == i && q.2.category == 2)))) : lv_has ls nL ((fn_wr lo i v).map (fun q => (q.1, fn_cv ad q.2))) := by
  refine ⟨h.1, h.2.1, fun q hq => h.2.2 q ?_⟩
  obtain ⟨a, ha, rfl⟩ := List.mem_map.mp hq
  rcases fn_ins_mem ha with rfl | ha
  · exact List.mem_cons_self
  · obtain ⟨h1, h2⟩ := List.mem_filter.mp ha
    refine List.mem_cons_of_mem _ (List.mem_filter.mpr ⟨List.mem_map.mpr ⟨a, h1, rfl⟩, ?_⟩)
    rw [fn_cv_cat]
    exact h2
theorem fn_fi_has {ad : Nat → Nat} {ls : Array Slot} {nL : Nat} {f : Nat × Value → Bool} {lo : fn_L} (h : lv_has ls nL (lo.map (fun q => (q.1, fn_cv ad q.2)))) : lv_has ls nL ((lo.filter f).map (fun q => (q.1, fn_cv ad q.2))) := by
  refine ⟨h.1, h.2.1, fun q hq => h.2.2 q ?_⟩
  obtain ⟨a, ha, rfl⟩ := List.mem_map.mp hq
  exact List.mem_map.mpr ⟨a, (List.mem_filter.mp ha).1, rfl⟩
section FO
variable {p : Program} {l : Launch} {e : Env} {R : Room} {s : State} {m : MethodId} {args : Array Value} {below : List Frame} {meth : Method} {c : Code} {Q : State → Prop}
variable {D : va_G} {dA : Nat → ClassId} {ad : Nat → Nat} {G : Nat} {cc : ByteArray} {nL oc : Nat} {rt : Option FieldType} {x : fn_M} {pc : Nat} {I : fn_I} {lo : fn_L} {st : List Value} {k : fn_K} {r : fn_R}
def fn_k0 (b : ByteArray) (pc : Nat) (I : fn_I) : Bool := match decode b pc with
  | .ok (.iconst n, 1) => decide (I.2.1 = pc + 1 ∧ Int32.ofInt n = I.2.2.2.2.1)
  | .ok (.bipush n, 2) => decide (I.2.1 = pc + 2 ∧ (Int8.ofInt n).toInt32 = I.2.2.2.2.1)
  | .ok (.sipush n, 3) => decide (I.2.1 = pc + 3 ∧ (Int16.ofInt n).toInt32 = I.2.2.2.2.1)
  | _ => false
theorem fs_o0 (C : fn_Cx D dA ad G p s m args meth c cc nL oc rt) (hck : fn_k0 cc pc I = true) (hk : ∀ pc lo st x, k pc lo st x = some r → fn_Go D dA ad G p l e R s m args below meth c nL Q pc lo st x) (h : fn_o0 I lo st x k = some r) : fn_Go D dA ad G p l e R s m args below meth c nL Q pc lo st x := by
  intro H locs ls hl hP hS
  obtain ⟨hx, hb, -⟩ := C
  have kk := hk _ _ _ _ h H locs ls hl hP hS
  unfold fn_k0 at hck
  split at hck
  · rename_i n hd
    obtain ⟨e1, e2⟩ := of_decide_eq_true hck
    rw [e1] at kk
    exact lv_iconst hx hb hd e2 kk
  · rename_i n hd
    obtain ⟨e1, e2⟩ := of_decide_eq_true hck
    rw [e1] at kk
    exact lv_bipush hx hb hd e2 kk
  · rename_i n hd
    obtain ⟨e1, e2⟩ := of_decide_eq_true hck
    rw [e1] at kk
    exact lv_sipush hx hb hd e2 kk
  · cases hck
def fn_k1 (b : ByteArray) (pc : Nat) (I : fn_I) : Bool := match decode b pc with
  | .ok (.iload_n j, 1) => decide (I.2.1 = pc + 1 ∧ (j : Nat) = I.2.2.1)
  | .ok (.iload j, 2) => decide (I.2.1 = pc + 2 ∧ j = I.2.2.1)
  | _ => false
theorem fs_o1 (C : fn_Cx D dA ad G p s m args meth c cc nL oc rt) (hck : fn_k1 cc pc I = true) (hk : ∀ pc lo st x, k pc lo st x = some r → fn_Go D dA ad G p l e R s m args below meth c nL Q pc lo st x) (h : fn_o1 I lo st x k = some r) : fn_Go D dA ad G p l e R s m args below meth c nL Q pc lo st x := by
  intro H locs ls hl hP hS
  obtain ⟨hx, hb, -⟩ := C
  unfold fn_o1 at h
  split at h
  · rename_i v hv
    have hv2 := fn_rd_has hl hv
    have kk := hk _ _ _ _ h H locs ls hl hP hS
    unfold fn_k1 at hck
    split at hck
    · rename_i j hd
      obtain ⟨e1, e2⟩ := of_decide_eq_true hck
      rw [e1] at kk
      exact lv_iload_n hx hb hd e2 hv2 kk
    · rename_i j hd
      obtain ⟨e1, e2⟩ := of_decide_eq_true hck
      rw [e1] at kk
      rw [e2] at hd
      exact lv_iload hx hb hd hv2 kk
    · cases hck
  · cases h
def fn_k2 (b : ByteArray) (pc : Nat) (I : fn_I) : Bool := match decode b pc with
  | .ok (.aload_n j, 1) => decide (I.2.1 = pc + 1 ∧ (j : Nat) = I.2.2.1)
  | .ok (.aload j, 2) => decide (I.2.1 = pc + 2 ∧ j = I.2.2.1)
  | _ => false
theorem fs_o2 (C : fn_Cx D dA ad G p s m args meth c cc nL oc rt) (hck : fn_k2 cc pc I = true) (hk : ∀ pc lo st x, k pc lo st x = some r → fn_Go D dA ad G p l e R s m args below meth c nL Q pc lo st x) (h : fn_o2 I lo st x k = some r) : fn_Go D dA ad G p l e R s m args below meth c nL Q pc lo st x := by
  intro H locs ls hl hP hS
  obtain ⟨hx, hb, -⟩ := C
  unfold fn_o2 at h
  split at h
  · rename_i v hv
    have hv2 := fn_rd_has hl hv
    have kk := hk _ _ _ _ h H locs ls hl hP hS
    unfold fn_k2 at hck
    split at hck
    · rename_i j hd
      obtain ⟨e1, e2⟩ := of_decide_eq_true hck
      rw [e1] at kk
      exact lv_aload_n hx hb hd e2 hv2 kk
    · rename_i j hd
      obtain ⟨e1, e2⟩ := of_decide_eq_true hck
      rw [e1] at kk
      rw [e2] at hd
      exact lv_aload hx hb hd hv2 kk
    · cases hck
  · rename_i hv
    have hv2 := fn_rd_has hl hv
    have kk := hk _ _ _ _ h H locs ls hl hP hS
    unfold fn_k2 at hck
    split at hck
    · rename_i j hd
      obtain ⟨e1, e2⟩ := of_decide_eq_true hck
      rw [e1] at kk
      exact lv_aload_nN hx hb hd e2 hv2 kk
    · rename_i j hd
      obtain ⟨e1, e2⟩ := of_decide_eq_true hck
      rw [e1] at kk
      rw [e2] at hd
      exact lv_aloadN hx hb hd hv2 kk
    · cases hck
  · cases h
def fn_k3 (b : ByteArray) (nL pc : Nat) (I : fn_I) : Bool := match decode b pc with
  | .ok (.istore_n j, 1) => decide (I.2.1 = pc + 1 ∧ (j : Nat) = I.2.2.1 ∧ I.2.2.1 < nL)
  | .ok (.istore j, 2) => decide (I.2.1 = pc + 2 ∧ j = I.2.2.1 ∧ I.2.2.1 < nL)
  | _ => false
theorem fs_o3 (C : fn_Cx D dA ad G p s m args meth c cc nL oc rt) (hck : fn_k3 cc nL pc I = true) (hk : ∀ pc lo st x, k pc lo st x = some r → fn_Go D dA ad G p l e R s m args below meth c nL Q pc lo st x) (h : fn_o3 I lo st x k = some r) : fn_Go D dA ad G p l e R s m args below meth c nL Q pc lo st x := by
  intro H locs ls hl hP hS
  obtain ⟨hx, hb, -⟩ := C
  unfold fn_o3 at h
  split at h
  · have kk := fun ls hl => hk _ _ _ _ h H locs ls hl hP hS
    unfold fn_k3 at hck
    split at hck
    · rename_i j hd
      obtain ⟨e1, e2, e3⟩ := of_decide_eq_true hck
      rw [e1] at kk
      exact lv_istore_n hx hb hd e2 hl e3 rfl (fun ls' hl' => kk ls' (fn_wr_has (ad := ad) hl'))
    · rename_i j hd
      obtain ⟨e1, e2, e3⟩ := of_decide_eq_true hck
      rw [e1] at kk
      rw [e2] at hd
      exact lv_istore hx hb hd hl e3 rfl (fun ls' hl' => kk ls' (fn_wr_has (ad := ad) hl'))
    · cases hck
  · cases h
def fn_k4 (b : ByteArray) (nL pc : Nat) (I : fn_I) : Bool := match decode b pc with
  | .ok (.astore_n j, 1) => decide (I.2.1 = pc + 1 ∧ (j : Nat) = I.2.2.1 ∧ I.2.2.1 < nL)
  | .ok (.astore j, 2) => decide (I.2.1 = pc + 2 ∧ j = I.2.2.1 ∧ I.2.2.1 < nL)
  | _ => false
theorem fs_o4 (C : fn_Cx D dA ad G p s m args meth c cc nL oc rt) (hck : fn_k4 cc nL pc I = true) (hk : ∀ pc lo st x, k pc lo st x = some r → fn_Go D dA ad G p l e R s m args below meth c nL Q pc lo st x) (h : fn_o4 I lo st x k = some r) : fn_Go D dA ad G p l e R s m args below meth c nL Q pc lo st x := by
  intro H locs ls hl hP hS
  obtain ⟨hx, hb, -⟩ := C
  unfold fn_o4 at h
  split at h
  · have kk := fun ls hl => hk _ _ _ _ h H locs ls hl hP hS
    unfold fn_k4 at hck
    split at hck
    · rename_i j hd
      obtain ⟨e1, e2, e3⟩ := of_decide_eq_true hck
      rw [e1] at kk
      exact lv_astore_n hx hb hd e2 hl e3 rfl (fun ls' hl' => kk ls' (fn_wr_has (ad := ad) hl'))
    · rename_i j hd
      obtain ⟨e1, e2, e3⟩ := of_decide_eq_true hck
      rw [e1] at kk
      rw [e2] at hd
      exact lv_astore hx hb hd hl e3 rfl (fun ls' hl' => kk ls' (fn_wr_has (ad := ad) hl'))
    · cases hck
  · have kk := fun ls hl => hk _ _ _ _ h H locs ls hl hP hS
    unfold fn_k4 at hck
    split at hck
    · rename_i j hd
      obtain ⟨e1, e2, e3⟩ := of_decide_eq_true hck
      rw [e1] at kk
      exact lv_astore_nN hx hb hd e2 hl e3 rfl (fun ls' hl' => kk ls' (fn_wr_has (ad := ad) hl'))
    · rename_i j hd
      obtain ⟨e1, e2, e3⟩ := of_decide_eq_true hck
      rw [e1] at kk
      rw [e2] at hd
      exact lv_astoreN hx hb hd hl e3 rfl (fun ls' hl' => kk ls' (fn_wr_has (ad := ad) hl'))
    · cases hck
  · cases h
def fn_k5 (b : ByteArray) (nL pc : Nat) (I : fn_I) : Bool := match decode b pc with
  | .ok (.iinc j n, 3) => decide (I.2.1 = pc + 3 ∧ j = I.2.2.1 ∧ I.2.2.1 < nL ∧ Int32.ofInt n = I.2.2.2.2.1)
  | _ => false
theorem fs_o5 (C : fn_Cx D dA ad G p s m args meth c cc nL oc rt) (hck : fn_k5 cc nL pc I = true) (hk : ∀ pc lo st x, k pc lo st x = some r → fn_Go D dA ad G p l e R s m args below meth c nL Q pc lo st x) (h : fn_o5 I lo st x k = some r) : fn_Go D dA ad G p l e R s m args below meth c nL Q pc lo st x := by
  intro H locs ls hl hP hS
  obtain ⟨hx, hb, -⟩ := C
  unfold fn_o5 at h
  split at h
  · rename_i v hv
    have hm : (I.2.2.1, Value.int v) ∈ lo.map (fun q => (q.1, fn_cv ad q.2)) := List.mem_map.mpr ⟨_, fn_rd_mem hv, rfl⟩
    obtain ⟨j0, hj0⟩ := List.getElem?_of_mem hm
    have kk := fun ls hl => hk _ _ _ _ h H locs ls hl hP hS
    unfold fn_k5 at hck
    split at hck
    · rename_i j n hd
      obtain ⟨e1, e2, e3, e4⟩ := of_decide_eq_true hck
      rw [e1, ← e4] at kk
      rw [e2] at hd
      exact lv_iinc hx hb hd hl hj0 rfl e3 rfl (fun ls' hl' => kk ls' (fn_wr_has (ad := ad) (v := .int (v + Int32.ofInt n)) hl'))
    · cases hck
  · cases h
def fn_k6 (b : ByteArray) (pc : Nat) (I : fn_I) : Bool := match decode b pc with
  | .ok (.iadd, 1) => decide (I.2.1 = pc + 1 ∧ I.2.2.1 = 0)
  | .ok (.isub, 1) => decide (I.2.1 = pc + 1 ∧ I.2.2.1 = 1)
  | .ok (.imul, 1) => decide (I.2.1 = pc + 1 ∧ I.2.2.1 = 2)
  | .ok (.iand, 1) => decide (I.2.1 = pc + 1 ∧ I.2.2.1 = 3)
  | .ok (.ior, 1) => decide (I.2.1 = pc + 1 ∧ I.2.2.1 = 4)
  | .ok (.ishl, 1) => decide (I.2.1 = pc + 1 ∧ I.2.2.1 = 5)
  | .ok (.ishr, 1) => decide (I.2.1 = pc + 1 ∧ I.2.2.1 = 6)
  | _ => false
theorem fs_o6 (C : fn_Cx D dA ad G p s m args meth c cc nL oc rt) (hck : fn_k6 cc pc I = true) (hk : ∀ pc lo st x, k pc lo st x = some r → fn_Go D dA ad G p l e R s m args below meth c nL Q pc lo st x) (h : fn_o6 I lo st x k = some r) : fn_Go D dA ad G p l e R s m args below meth c nL Q pc lo st x := by
  intro H locs ls hl hP hS
  obtain ⟨hx, hb, -⟩ := C
  unfold fn_o6 at h
  split at h
  · have kk := hk _ _ _ _ h H locs ls hl hP hS
    unfold fn_k6 at hck
    split at hck
    · rename_i hd
      obtain ⟨e1, e2⟩ := of_decide_eq_true hck
      rw [e1, e2] at kk
      exact lv_iadd hx hb hd kk
    · rename_i hd
      obtain ⟨e1, e2⟩ := of_decide_eq_true hck
      rw [e1, e2] at kk
      exact lv_isub hx hb hd kk
    · rename_i hd
      obtain ⟨e1, e2⟩ := of_decide_eq_true hck
      rw [e1, e2] at kk
      exact lv_imul hx hb hd kk
    · rename_i hd
      obtain ⟨e1, e2⟩ := of_decide_eq_true hck
      rw [e1, e2] at kk
      exact lv_iand hx hb hd kk
    · rename_i hd
      obtain ⟨e1, e2⟩ := of_decide_eq_true hck
      rw [e1, e2] at kk
      exact lv_ior hx hb hd kk
    · rename_i hd
      obtain ⟨e1, e2⟩ := of_decide_eq_true hck
      rw [e1, e2] at kk
      exact lv_ishl hx hb hd kk
    · rename_i hd
      obtain ⟨e1, e2⟩ := of_decide_eq_true hck
      rw [e1, e2] at kk
      exact lv_ishr hx hb hd kk
    · cases hck
  · cases h
def fn_k7 (b : ByteArray) (pc : Nat) (I : fn_I) : Bool := match decode b pc with
  | .ok (.idiv, 1) => decide (I.2.1 = pc + 1)
  | _ => false
theorem fs_o7 (C : fn_Cx D dA ad G p s m args meth c cc nL oc rt) (hck : fn_k7 cc pc I = true) (hk : ∀ pc lo st x, k pc lo st x = some r → fn_Go D dA ad G p l e R s m args below meth c nL Q pc lo st x) (h : fn_o7 I lo st x k = some r) : fn_Go D dA ad G p l e R s m args below meth c nL Q pc lo st x := by
  intro H locs ls hl hP hS
  obtain ⟨hx, hb, -⟩ := C
  unfold fn_o7 at h
  split at h
  · rename_i b0 a0 st0
    by_cases hz : b0 = 0
    · rw [if_pos hz] at h
      cases h
    · rw [if_neg hz] at h
      have kk := hk _ _ _ _ h H locs ls hl hP hS
      unfold fn_k7 at hck
      split at hck
      · rename_i hd
        rw [of_decide_eq_true hck] at kk
        exact lv_idiv hx hb hd hz kk
      · cases hck
  · cases h
def fn_k8 (b : ByteArray) (pc : Nat) (I : fn_I) : Bool := match decode b pc with
  | .ok (.irem, 1) => decide (I.2.1 = pc + 1)
  | _ => false
theorem fs_o8 (C : fn_Cx D dA ad G p s m args meth c cc nL oc rt) (hck : fn_k8 cc pc I = true) (hk : ∀ pc lo st x, k pc lo st x = some r → fn_Go D dA ad G p l e R s m args below meth c nL Q pc lo st x) (h : fn_o8 I lo st x k = some r) : fn_Go D dA ad G p l e R s m args below meth c nL Q pc lo st x := by
  intro H locs ls hl hP hS
  obtain ⟨hx, hb, -⟩ := C
  unfold fn_o8 at h
  split at h
  · rename_i b0 a0 st0
    by_cases hz : b0 = 0
    · rw [if_pos hz] at h
      cases h
    · rw [if_neg hz] at h
      have kk := hk _ _ _ _ h H locs ls hl hP hS
      unfold fn_k8 at hck
      split at hck
      · rename_i hd
        rw [of_decide_eq_true hck] at kk
        exact lv_irem hx hb hd hz kk
      · cases hck
  · cases h
def fn_k9 (b : ByteArray) (pc : Nat) (I : fn_I) : Bool := match decode b pc with
  | .ok (.dup, 1) => decide (I.2.1 = pc + 1)
  | _ => false
theorem fs_o9 (C : fn_Cx D dA ad G p s m args meth c cc nL oc rt) (hck : fn_k9 cc pc I = true) (hk : ∀ pc lo st x, k pc lo st x = some r → fn_Go D dA ad G p l e R s m args below meth c nL Q pc lo st x) (h : fn_o9 I lo st x k = some r) : fn_Go D dA ad G p l e R s m args below meth c nL Q pc lo st x := by
  intro H locs ls hl hP hS
  obtain ⟨hx, hb, -⟩ := C
  unfold fn_k9 at hck
  split at hck
  · rename_i hd
    have e1 := of_decide_eq_true hck
    unfold fn_o9 at h
    rw [e1] at h
    split at h
    · exact lv_dup hx hb hd rfl (hk _ _ _ _ h H locs ls hl hP hS)
    · exact lv_dup hx hb hd rfl (hk _ _ _ _ h H locs ls hl hP hS)
    · cases h
  · cases hck
def fn_k10 (b : ByteArray) (pc : Nat) (I : fn_I) : Bool := match decode b pc with
  | .ok (.dup2, 1) => decide (I.2.1 = pc + 1)
  | _ => false
theorem fs_o10 (C : fn_Cx D dA ad G p s m args meth c cc nL oc rt) (hck : fn_k10 cc pc I = true) (hk : ∀ pc lo st x, k pc lo st x = some r → fn_Go D dA ad G p l e R s m args below meth c nL Q pc lo st x) (h : fn_o10 I lo st x k = some r) : fn_Go D dA ad G p l e R s m args below meth c nL Q pc lo st x := by
  intro H locs ls hl hP hS
  obtain ⟨hx, hb, -⟩ := C
  unfold fn_k10 at hck
  split at hck
  · rename_i hd
    have e1 := of_decide_eq_true hck
    unfold fn_o10 at h
    rw [e1] at h
    split at h
    · exact lv_dup2_11 hx hb hd rfl rfl (hk _ _ _ _ h H locs ls hl hP hS)
    · cases h
  · cases hck
def fn_k11 (b : ByteArray) (pc : Nat) (I : fn_I) : Bool := match decode b pc with
  | .ok (.pop, 1) => decide (I.2.1 = pc + 1)
  | _ => false
theorem fs_o11 (C : fn_Cx D dA ad G p s m args meth c cc nL oc rt) (hck : fn_k11 cc pc I = true) (hk : ∀ pc lo st x, k pc lo st x = some r → fn_Go D dA ad G p l e R s m args below meth c nL Q pc lo st x) (h : fn_o11 I lo st x k = some r) : fn_Go D dA ad G p l e R s m args below meth c nL Q pc lo st x := by
  intro H locs ls hl hP hS
  obtain ⟨hx, hb, -⟩ := C
  unfold fn_k11 at hck
  split at hck
  · rename_i hd
    have e1 := of_decide_eq_true hck
    unfold fn_o11 at h
    rw [e1] at h
    split at h
    · exact lv_pop (va := .int _) hx hb hd rfl (hk _ _ _ _ h H locs ls hl hP hS)
    · exact lv_pop (va := .ref _) hx hb hd rfl (hk _ _ _ _ h H locs ls hl hP hS)
    · cases h
  · cases hck
def fn_k12 (b : ByteArray) (pc : Nat) (I : fn_I) : Bool := match decode b pc with
  | .ok (.ifCond .eq off, 3) => decide (I.2.1 = 0 ∧ (pc : Int) + off = (I.2.2.1 : Int) ∧ I.2.2.2.1 = pc + 3)
  | .ok (.ifCond .ne off, 3) => decide (I.2.1 = 1 ∧ (pc : Int) + off = (I.2.2.1 : Int) ∧ I.2.2.2.1 = pc + 3)
  | .ok (.ifCond .lt off, 3) => decide (I.2.1 = 2 ∧ (pc : Int) + off = (I.2.2.1 : Int) ∧ I.2.2.2.1 = pc + 3)
  | .ok (.ifCond .ge off, 3) => decide (I.2.1 = 3 ∧ (pc : Int) + off = (I.2.2.1 : Int) ∧ I.2.2.2.1 = pc + 3)
  | .ok (.ifCond .gt off, 3) => decide (I.2.1 = 4 ∧ (pc : Int) + off = (I.2.2.1 : Int) ∧ I.2.2.2.1 = pc + 3)
  | .ok (.ifCond .le off, 3) => decide (I.2.1 = 5 ∧ (pc : Int) + off = (I.2.2.1 : Int) ∧ I.2.2.2.1 = pc + 3)
  | _ => false
theorem fs_o12 (C : fn_Cx D dA ad G p s m args meth c cc nL oc rt) (hck : fn_k12 cc pc I = true) (hk : ∀ pc lo st x, k pc lo st x = some r → fn_Go D dA ad G p l e R s m args below meth c nL Q pc lo st x) (h : fn_o12 I lo st x k = some r) : fn_Go D dA ad G p l e R s m args below meth c nL Q pc lo st x := by
  intro H locs ls hl hP hS
  obtain ⟨hx, hb, -⟩ := C
  unfold fn_o12 at h
  split at h
  · unfold fn_k12 at hck
    split at hck
    · rename_i off hd
      obtain ⟨e1, e2, e3⟩ := of_decide_eq_true hck
      rw [e1, e3] at h
      obtain ⟨h1, h2⟩ := fn_ite h
      exact lv_if_eq hx hb hd e2 (fun z => hk _ _ _ _ (h1 z) H locs ls hl hP hS) (fun z => hk _ _ _ _ (h2 z) H locs ls hl hP hS)
    · rename_i off hd
      obtain ⟨e1, e2, e3⟩ := of_decide_eq_true hck
      rw [e1, e3] at h
      obtain ⟨h1, h2⟩ := fn_ite h
      exact lv_if_ne hx hb hd e2 (fun z => hk _ _ _ _ (h2 z) H locs ls hl hP hS) (fun z => hk _ _ _ _ (h1 z) H locs ls hl hP hS)
    · rename_i off hd
      obtain ⟨e1, e2, e3⟩ := of_decide_eq_true hck
      rw [e1, e3] at h
      obtain ⟨h1, h2⟩ := fn_ite h
      exact lv_if_lt hx hb hd e2 (fun z => hk _ _ _ _ (h1 z) H locs ls hl hP hS) (fun z => hk _ _ _ _ (h2 z) H locs ls hl hP hS)
    · rename_i off hd
      obtain ⟨e1, e2, e3⟩ := of_decide_eq_true hck
      rw [e1, e3] at h
      obtain ⟨h1, h2⟩ := fn_ite h
      exact lv_if_ge hx hb hd e2 (fun z => hk _ _ _ _ (h1 z) H locs ls hl hP hS) (fun z => hk _ _ _ _ (h2 z) H locs ls hl hP hS)
    · rename_i off hd
      obtain ⟨e1, e2, e3⟩ := of_decide_eq_true hck
      rw [e1, e3] at h
      obtain ⟨h1, h2⟩ := fn_ite h
      exact lv_if_gt hx hb hd e2 (fun z => hk _ _ _ _ (h1 z) H locs ls hl hP hS) (fun z => hk _ _ _ _ (h2 z) H locs ls hl hP hS)
    · rename_i off hd
      obtain ⟨e1, e2, e3⟩ := of_decide_eq_true hck
      rw [e1, e3] at h
      obtain ⟨h1, h2⟩ := fn_ite h
      exact lv_if_le hx hb hd e2 (fun z => hk _ _ _ _ (h1 z) H locs ls hl hP hS) (fun z => hk _ _ _ _ (h2 z) H locs ls hl hP hS)
    · cases hck
  · cases h
def fn_k13 (b : ByteArray) (pc : Nat) (I : fn_I) : Bool := match decode b pc with
  | .ok (.if_icmp .eq off, 3) => decide (I.2.1 = 0 ∧ (pc : Int) + off = (I.2.2.1 : Int) ∧ I.2.2.2.1 = pc + 3)
  | .ok (.if_icmp .ne off, 3) => decide (I.2.1 = 1 ∧ (pc : Int) + off = (I.2.2.1 : Int) ∧ I.2.2.2.1 = pc + 3)
  | .ok (.if_icmp .lt off, 3) => decide (I.2.1 = 2 ∧ (pc : Int) + off = (I.2.2.1 : Int) ∧ I.2.2.2.1 = pc + 3)
  | .ok (.if_icmp .ge off, 3) => decide (I.2.1 = 3 ∧ (pc : Int) + off = (I.2.2.1 : Int) ∧ I.2.2.2.1 = pc + 3)
  | .ok (.if_icmp .gt off, 3) => decide (I.2.1 = 4 ∧ (pc : Int) + off = (I.2.2.1 : Int) ∧ I.2.2.2.1 = pc + 3)
  | .ok (.if_icmp .le off, 3) => decide (I.2.1 = 5 ∧ (pc : Int) + off = (I.2.2.1 : Int) ∧ I.2.2.2.1 = pc + 3)
  | _ => false
theorem fs_o13 (C : fn_Cx D dA ad G p s m args meth c cc nL oc rt) (hck : fn_k13 cc pc I = true) (hk : ∀ pc lo st x, k pc lo st x = some r → fn_Go D dA ad G p l e R s m args below meth c nL Q pc lo st x) (h : fn_o13 I lo st x k = some r) : fn_Go D dA ad G p l e R s m args below meth c nL Q pc lo st x := by
  intro H locs ls hl hP hS
  obtain ⟨hx, hb, -⟩ := C
  unfold fn_o13 at h
  split at h
  · unfold fn_k13 at hck
    split at hck
    · rename_i off hd
      obtain ⟨e1, e2, e3⟩ := of_decide_eq_true hck
      rw [e1, e3] at h
      obtain ⟨h1, h2⟩ := fn_ite h
      exact lv_icmp_eq hx hb hd e2 (fun z => hk _ _ _ _ (h1 z) H locs ls hl hP hS) (fun z => hk _ _ _ _ (h2 z) H locs ls hl hP hS)
    · rename_i off hd
      obtain ⟨e1, e2, e3⟩ := of_decide_eq_true hck
      rw [e1, e3] at h
      obtain ⟨h1, h2⟩ := fn_ite h
      exact lv_icmp_ne hx hb hd e2 (fun z => hk _ _ _ _ (h2 z) H locs ls hl hP hS) (fun z => hk _ _ _ _ (h1 z) H locs ls hl hP hS)
    · rename_i off hd
      obtain ⟨e1, e2, e3⟩ := of_decide_eq_true hck
      rw [e1, e3] at h
      obtain ⟨h1, h2⟩ := fn_ite h
      exact lv_icmp_lt hx hb hd e2 (fun z => hk _ _ _ _ (h1 z) H locs ls hl hP hS) (fun z => hk _ _ _ _ (h2 z) H locs ls hl hP hS)
    · rename_i off hd
      obtain ⟨e1, e2, e3⟩ := of_decide_eq_true hck
      rw [e1, e3] at h
      obtain ⟨h1, h2⟩ := fn_ite h
      exact lv_icmp_ge hx hb hd e2 (fun z => hk _ _ _ _ (h1 z) H locs ls hl hP hS) (fun z => hk _ _ _ _ (h2 z) H locs ls hl hP hS)
    · rename_i off hd
      obtain ⟨e1, e2, e3⟩ := of_decide_eq_true hck
      rw [e1, e3] at h
      obtain ⟨h1, h2⟩ := fn_ite h
      exact lv_icmp_gt hx hb hd e2 (fun z => hk _ _ _ _ (h1 z) H locs ls hl hP hS) (fun z => hk _ _ _ _ (h2 z) H locs ls hl hP hS)
    · rename_i off hd
      obtain ⟨e1, e2, e3⟩ := of_decide_eq_true hck
      rw [e1, e3] at h
      obtain ⟨h1, h2⟩ := fn_ite h
      exact lv_icmp_le hx hb hd e2 (fun z => hk _ _ _ _ (h1 z) H locs ls hl hP hS) (fun z => hk _ _ _ _ (h2 z) H locs ls hl hP hS)
    · cases hck
  · cases h
def fn_k14 (b : ByteArray) (pc : Nat) (I : fn_I) : Bool := match decode b pc with
  | .ok (.ifnull off, 3) => decide ((pc : Int) + off = (I.2.2.1 : Int) ∧ I.2.2.2.1 = pc + 3)
  | _ => false
theorem fs_o14 (C : fn_Cx D dA ad G p s m args meth c cc nL oc rt) (hck : fn_k14 cc pc I = true) (hk : ∀ pc lo st x, k pc lo st x = some r → fn_Go D dA ad G p l e R s m args below meth c nL Q pc lo st x) (h : fn_o14 I lo st x k = some r) : fn_Go D dA ad G p l e R s m args below meth c nL Q pc lo st x := by
  intro H locs ls hl hP hS
  obtain ⟨hx, hb, -⟩ := C
  unfold fn_k14 at hck
  split at hck
  · rename_i off hd
    obtain ⟨e1, e2⟩ := of_decide_eq_true hck
    unfold fn_o14 at h
    rw [e2] at h
    split at h
    · exact lv_ifnullN hx hb hd e1 (hk _ _ _ _ h H locs ls hl hP hS)
    · exact lv_ifnull hx hb hd (hk _ _ _ _ h H locs ls hl hP hS)
    · cases h
  · cases hck
def fn_k36 (b : ByteArray) (pc : Nat) (I : fn_I) : Bool := match decode b pc with
  | .ok (.ifnonnull off, 3) => decide ((pc : Int) + off = (I.2.2.1 : Int) ∧ I.2.2.2.1 = pc + 3)
  | _ => false
theorem fs_o36 (C : fn_Cx D dA ad G p s m args meth c cc nL oc rt) (hck : fn_k36 cc pc I = true) (hk : ∀ pc lo st x, k pc lo st x = some r → fn_Go D dA ad G p l e R s m args below meth c nL Q pc lo st x) (h : fn_o36 I lo st x k = some r) : fn_Go D dA ad G p l e R s m args below meth c nL Q pc lo st x := by
  intro H locs ls hl hP hS
  obtain ⟨hx, hb, -⟩ := C
  unfold fn_k36 at hck
  split at hck
  · rename_i off hd
    obtain ⟨e1, e2⟩ := of_decide_eq_true hck
    unfold fn_o36 at h
    rw [e2] at h
    split at h
    · exact lv_ifnonnullN hx hb hd (hk _ _ _ _ h H locs ls hl hP hS)
    · exact lv_ifnonnull hx hb hd e1 (hk _ _ _ _ h H locs ls hl hP hS)
    · cases h
  · cases hck
def fn_k15 (b : ByteArray) (pc : Nat) (I : fn_I) : Bool := match decode b pc with
  | .ok (.goto off, 3) => decide ((pc : Int) + off = (I.2.2.1 : Int))
  | _ => false
theorem fs_o15 (C : fn_Cx D dA ad G p s m args meth c cc nL oc rt) (hck : fn_k15 cc pc I = true) (hk : ∀ pc lo st x, k pc lo st x = some r → fn_Go D dA ad G p l e R s m args below meth c nL Q pc lo st x) (h : fn_o15 I lo st x k = some r) : fn_Go D dA ad G p l e R s m args below meth c nL Q pc lo st x := by
  intro H locs ls hl hP hS
  obtain ⟨hx, hb, -⟩ := C
  unfold fn_k15 at hck
  split at hck
  · rename_i off hd
    exact lv_goto hx hb hd (of_decide_eq_true hck) (hk _ _ _ _ h H locs ls hl hP hS)
  · cases hck
theorem fs_o45 (C : fn_Cx D dA ad G p s m args meth c cc nL oc rt) (hck : fn_k15 cc pc I = true) (hk : ∀ pc lo st x, k pc lo st x = some r → fn_Go D dA ad G p l e R s m args below meth c nL Q pc lo st x) (h : fn_o45 I lo st x k = some r) : fn_Go D dA ad G p l e R s m args below meth c nL Q pc lo st x := by
  intro H locs ls hl hP hS
  obtain ⟨hx, hb, -⟩ := C
  unfold fn_k15 at hck
  split at hck
  · rename_i off hd
    exact lv_goto hx hb hd (of_decide_eq_true hck) (hk _ _ _ _ h H locs ls (fn_fi_has hl) hP hS)
  · cases hck
theorem fn_sw_spec {α : Type} {k : Nat → α} {v : Int32} {d : Nat} : ∀ (rs : List (Int32 × Nat)), (∃ (i t : Nat), rs[i]? = some (v, t) ∧ fn_sw k v d rs = k t) ∨ ((∀ q ∈ rs, q.1 ≠ v) ∧ fn_sw k v d rs = k d)
  | [] => Or.inr ⟨fun q h => absurd h List.not_mem_nil, rfl⟩
  | (a, t) :: r => by
    by_cases e : v = a
    · subst e
      exact Or.inl ⟨0, t, rfl, by unfold fn_sw; rw [if_pos rfl]⟩
    · have e2 : fn_sw k v d ((a, t) :: r) = fn_sw k v d r := by
        conv => lhs; unfold fn_sw
        rw [if_neg e]
      rw [e2]
      rcases fn_sw_spec r with ⟨i, t2, h1, h2⟩ | ⟨h1, h2⟩
      · exact Or.inl ⟨i + 1, t2, h1, h2⟩
      · refine Or.inr ⟨fun q hq => ?_, h2⟩
        rcases List.mem_cons.mp hq with rfl | hq
        · exact fun z => e z.symm
        · exact h1 q hq
/-- rows of a tableswitch: the values from lo on, one by one -/
def fn_kt (pc : Nat) (lo : Int) : List (Int32 × Nat) → List Int → Bool
  | [], [] => true
  | (a, t) :: r, o :: os => decide (a.toInt = lo ∧ (pc : Int) + o = (t : Int)) && fn_kt pc (lo + 1) r os
  | _, _ => false
theorem fn_kt_at {pc : Nat} : ∀ {lo : Int} {rs : List (Int32 × Nat)} {os : List Int}, fn_kt pc lo rs os = true → ∀ {i : Nat} {a : Int32} {t : Nat}, rs[i]? = some (a, t) → ∃ o, os[i]? = some o ∧ a.toInt = lo + i ∧ (pc : Int) + o = (t : Int)
  | _, [], _, _, i, a, t, h => by simp at h
  | lo, (a0, t0) :: r, [], hk, _, _, _, _ => by simp [fn_kt] at hk
  | lo, (a0, t0) :: r, o :: os, hk, i, a, t, h => by
    unfold fn_kt at hk
    rw [Bool.and_eq_true] at hk
    obtain ⟨h1, h2⟩ := hk
    obtain ⟨e1, e2⟩ := of_decide_eq_true h1
    cases i with
    | zero =>
      simp only [List.getElem?_cons_zero, Option.some.injEq, Prod.mk.injEq] at h
      obtain ⟨rfl, rfl⟩ := h
      exact ⟨o, rfl, by simpa using e1, e2⟩
    | succ i =>
      obtain ⟨o2, g1, g2, g3⟩ := fn_kt_at h2 (i := i) (a := a) (t := t) (by simpa using h)
      exact ⟨o2, by simpa using g1, by rw [g2]; push_cast; omega, g3⟩
theorem fn_kt_len {pc : Nat} : ∀ {lo : Int} {rs : List (Int32 × Nat)} {os : List Int}, fn_kt pc lo rs os = true → rs.length = os.length
  | _, [], [], _ => rfl
  | _, [], _ :: _, hk => by simp [fn_kt] at hk
  | _, _ :: _, [], hk => by simp [fn_kt] at hk
  | lo, (a0, t0) :: r, o :: os, hk => by
    unfold fn_kt at hk
    rw [Bool.and_eq_true] at hk
    simp [fn_kt_len hk.2]
def fn_kl (pc : Nat) : List (Int32 × Nat) → List (Int × Int) → Bool
  | [], [] => true
  | (a, t) :: r, (b, o) :: os => decide (a.toInt = b ∧ (pc : Int) + o = (t : Int)) && fn_kl pc r os
  | _, _ => false
theorem fn_kl_sw {α : Type} {k : Nat → α} {v : Int32} {d pc : Nat} {df : Int} (hd : (pc : Int) + df = (d : Int)) : ∀ {rs : List (Int32 × Nat)} {os : List (Int × Int)}, fn_kl pc rs os = true → ∃ t, fn_sw k v d rs = k t ∧ (pc : Int) + Op.lookupswitch.offset os df v.toInt = (t : Int)
  | [], [], _ => ⟨d, rfl, hd⟩
  | [], _ :: _, hk => by simp [fn_kl] at hk
  | _ :: _, [], hk => by simp [fn_kl] at hk
  | (a, t) :: r, (b, o) :: os, hk => by
    unfold fn_kl at hk
    rw [Bool.and_eq_true] at hk
    obtain ⟨h1, h2⟩ := hk
    obtain ⟨e1, e2⟩ := of_decide_eq_true h1
    rw [Op.lookupswitch.offset_cons]
    by_cases e : v = a
    · subst e
      refine ⟨t, by unfold fn_sw; rw [if_pos rfl], ?_⟩
      rw [if_pos e1.symm]
      exact e2
    · have e3 : ¬ b = v.toInt := fun z => e (Int32.toInt_inj.mp (by rw [e1, z]))
      rw [if_neg e3]
      have e4 : fn_sw k v d ((a, t) :: r) = fn_sw k v d r := by
        conv => lhs; unfold fn_sw
        rw [if_neg e]
      rw [e4]
      exact fn_kl_sw hd h2
def fn_k16 (b : ByteArray) (pc : Nat) (I : fn_I) : Bool := match decode b pc with
  | .ok (.tableswitch df lo hi offs, _) => decide ((pc : Int) + df = (I.2.2.1 : Int) ∧ hi - lo + 1 = (offs.toList.length : Int)) && fn_kt pc lo I.2.2.2.2.2 offs.toList
  | .ok (.lookupswitch df ps, _) => decide ((pc : Int) + df = (I.2.2.1 : Int)) && (ps.toList.zip (ps.toList.drop 1)).all (fun (a, next) => a.1 < next.1) && fn_kl pc I.2.2.2.2.2 ps.toList
  | _ => false
theorem fs_o16 (C : fn_Cx D dA ad G p s m args meth c cc nL oc rt) (hck : fn_k16 cc pc I = true) (hk : ∀ pc lo st x, k pc lo st x = some r → fn_Go D dA ad G p l e R s m args below meth c nL Q pc lo st x) (h : fn_o16 I lo st x k = some r) : fn_Go D dA ad G p l e R s m args below meth c nL Q pc lo st x := by
  intro H locs ls hl hP hS
  obtain ⟨hx, hb, -⟩ := C
  unfold fn_o16 at h
  split at h
  · rename_i v st0
    unfold fn_k16 at hck
    split at hck
    · rename_i df lo0 hi offs len hd
      rw [Bool.and_eq_true] at hck
      obtain ⟨h1, h2⟩ := hck
      obtain ⟨e1, e2⟩ := of_decide_eq_true h1
      have hlen := fn_kt_len h2
      rcases fn_sw_spec (k := fun t => k t lo st0 x) (v := v) (d := I.2.2.1) I.2.2.2.2.2 with ⟨i, t, g1, g2⟩ | ⟨g1, g2⟩
      · rw [g2] at h
        obtain ⟨o, q1, q2, q3⟩ := fn_kt_at h2 g1
        have hi2 : i < offs.toList.length := (List.getElem?_eq_some_iff.mp q1).1
        refine lv_tableIn (off := o) (tgt := t) hx hb hd (by omega) (by omega) ?_ q3 (hk _ _ _ _ h H locs ls hl hP hS)
        have e3 : (v.toInt - lo0).toNat = i := by omega
        rw [e3, ← Array.getElem?_toList]
        exact q1
      · rw [g2] at h
        refine lv_tableOut hx hb hd ?_ e1 (hk _ _ _ _ h H locs ls hl hP hS)
        apply Classical.byContradiction
        intro hn
        have hlo : lo0 ≤ v.toInt ∧ v.toInt ≤ hi := by omega
        obtain ⟨i, hi2⟩ : ∃ i : Nat, (i : Int) = v.toInt - lo0 := ⟨(v.toInt - lo0).toNat, by omega⟩
        have hi3 : i < I.2.2.2.2.2.length := by omega
        obtain ⟨o, q1, q2, q3⟩ := fn_kt_at h2 (i := i) (a := (I.2.2.2.2.2[i]).1) (t := (I.2.2.2.2.2[i]).2) (List.getElem?_eq_getElem hi3)
        exact g1 _ (List.getElem_mem hi3) (Int32.toInt_inj.mp (by omega))
    · rename_i df ps len hd
      rw [Bool.and_eq_true, Bool.and_eq_true] at hck
      obtain ⟨⟨h1, h2⟩, h3⟩ := hck
      obtain ⟨t, g1, g2⟩ := fn_kl_sw (k := fun t => k t lo st0 x) (v := v) (of_decide_eq_true h1) h3
      rw [g1] at h
      exact lv_lookup hx hb hd h2 rfl g2 (hk _ _ _ _ h H locs ls hl hP hS)
    · cases hck
  · cases h
theorem fn_nz {v : Int32} (h : v = 0 ∨ v = 1) : narrow .boolean (.int v) = .int v := by rcases h with rfl | rfl <;> rfl
theorem fn_nc {v : Int32} (h : 0 ≤ v ∧ v ≤ 65535) : narrow .char (.int v) = .int v := by
  show Value.int (v.toUInt32.toUInt16.toUInt32.toInt32) = .int v
  congr 1
  apply Int32.toInt_inj.mp
  have h1 := Int32.le_iff_toInt_le.mp h.1
  have h2 := Int32.le_iff_toInt_le.mp h.2
  have h3 : (65535 : Int32).toInt = 65535 := rfl
  rw [h3] at h2
  rw [Int32.toInt_zero] at h1
  have e0 : v = Int32.ofNat v.toInt.toNat := by
    apply Int32.toInt_inj.mp
    rw [Int32.toInt_ofNat_small (by omega)]
    omega
  generalize hn : v.toInt.toNat = n at e0
  have hn2 : n < 65536 := by omega
  subst e0
  have : (Int32.ofNat n).toUInt32.toUInt16.toUInt32.toInt32 = Int32.ofNat n := by
    apply Int32.toBitVec_inj.mp
    simp
    apply BitVec.eq_of_toNat_eq
    simp
    omega
  rw [this]
def fn_k25 (b : ByteArray) (rt : Option FieldType) (pc : Nat) (I : fn_I) : Bool := match decode b pc with
  | .ok (.ireturn, 1) => decide ((I.2.1 = 0 ∧ rt = some .int) ∨ (I.2.1 = 1 ∧ rt = some .boolean) ∨ (I.2.1 = 2 ∧ rt = some .char) ∨ (I.2.1 = 3 ∧ rt = some .byte))
  | _ => false
theorem fs_o25 (C : fn_Cx D dA ad G p s m args meth c cc nL oc rt) (hck : fn_k25 cc rt pc I = true) (h : fn_o25 I st x = some r) : fn_Go D dA ad G p l e R s m args below meth c nL (MQ below (fn_Q D dA ad G r) args s 0 0 (fn_A ad G)) pc lo st x := by
  intro H locs ls hl hP hS
  obtain ⟨hx, hb, -, hrt, hlk, -⟩ := C
  unfold fn_k25 at hck
  split at hck
  · rename_i hd
    have hc := of_decide_eq_true hck
    unfold fn_o25 at h
    split at h
    · rename_i v
      have fin : ∀ ty, rt = some ty → narrow ty (.int v) = .int v → r = (x, some (.int v)) → W p l e R s m args below meth c H locs 0 0 (MQ below (fn_Q D dA ad G r) args s 0 0 (fn_A ad G)) (F0 m pc ls [.int v]) := by
        intro ty ht hn hr
        subst hr
        exact W.zret hx hb (hrt.trans ht) hn (fun t ht2 hW => ⟨⟨rfl, by rw [ht2]; exact hP⟩, hS.F ht2⟩) hS.2.2 hd hlk
      rcases hc with ⟨e1, e2⟩ | ⟨e1, e2⟩ | ⟨e1, e2⟩ | ⟨e1, e2⟩
      · rw [e1] at h
        exact fin _ e2 rfl (Option.some.inj h).symm
      · rw [e1] at h
        obtain ⟨h1, h2⟩ := fn_ite h
        by_cases z : v = 0 ∨ v = 1
        · exact fin _ e2 (fn_nz z) (Option.some.inj (h1 z)).symm
        · cases h2 z
      · rw [e1] at h
        obtain ⟨h1, h2⟩ := fn_ite h
        by_cases z : 0 ≤ v ∧ v ≤ 65535
        · exact fin _ e2 (fn_nc z) (Option.some.inj (h1 z)).symm
        · cases h2 z
      · rw [e1] at h
        obtain ⟨h1, h2⟩ := fn_ite h
        by_cases z : v = 0
        · exact fin _ e2 (by subst z; rfl) (Option.some.inj (h1 z)).symm
        · cases h2 z
    · cases h
  · cases hck
def fn_k26 (b : ByteArray) (rt : Option FieldType) (pc : Nat) : Bool := match decode b pc, rt with
  | .ok (.areturn, 1), some (.object _) => true
  | _, _ => false
theorem fs_o26 (C : fn_Cx D dA ad G p s m args meth c cc nL oc rt) (hck : fn_k26 cc rt pc = true) (h : fn_o26 st x = some r) : fn_Go D dA ad G p l e R s m args below meth c nL (MQ below (fn_Q D dA ad G r) args s 0 0 (fn_A ad G)) pc lo st x := by
  intro H locs ls hl hP hS
  obtain ⟨hx, hb, -, hrt, hlk, -⟩ := C
  unfold fn_k26 at hck
  split at hck
  · rename_i nm hd
    unfold fn_o26 at h
    split at h
    · cases h
      exact W.aret hx hb hrt (Or.inl ⟨_, rfl⟩) (Or.inr ⟨_, rfl⟩) (fun t ht2 hW => ⟨⟨rfl, by rw [ht2]; exact hP⟩, hS.F ht2⟩) hS.2.2 hd hlk
    · cases h
      exact W.aret hx hb hrt (Or.inl ⟨_, rfl⟩) (Or.inl rfl) (fun t ht2 hW => ⟨⟨rfl, by rw [ht2]; exact hP⟩, hS.F ht2⟩) hS.2.2 hd hlk
    · cases h
  · cases hck
def fn_k27 (b : ByteArray) (rt : Option FieldType) (pc : Nat) : Bool := match decode b pc, rt with
  | .ok (.return_, 1), none => true
  | _, _ => false
theorem fs_o27 (C : fn_Cx D dA ad G p s m args meth c cc nL oc rt) (hck : fn_k27 cc rt pc = true) (h : fn_o27 st x = some r) : fn_Go D dA ad G p l e R s m args below meth c nL (MQ below (fn_Q D dA ad G r) args s 0 0 (fn_A ad G)) pc lo st x := by
  intro H locs ls hl hP hS
  obtain ⟨hx, hb, -, hrt, hlk, -⟩ := C
  unfold fn_k27 at hck
  split at hck
  · rename_i hd
    unfold fn_o27 at h
    split at h
    · cases h
      exact W.vret hx hb hrt (fun t ht2 hW => ⟨⟨rfl, by rw [ht2]; exact hP⟩, hS.F ht2⟩) hS.2.2 hd hlk
    · cases h
  · cases hck
def fn_k28 (b : ByteArray) (pc : Nat) (I : fn_I) : Bool := match decode b pc with
  | .ok (.aconst_null, 1) => decide (I.2.1 = pc + 1)
  | _ => false
theorem fs_o28 (C : fn_Cx D dA ad G p s m args meth c cc nL oc rt) (hck : fn_k28 cc pc I = true) (hk : ∀ pc lo st x, k pc lo st x = some r → fn_Go D dA ad G p l e R s m args below meth c nL Q pc lo st x) (h : fn_o28 I lo st x k = some r) : fn_Go D dA ad G p l e R s m args below meth c nL Q pc lo st x := by
  intro H locs ls hl hP hS
  obtain ⟨hx, hb, -⟩ := C
  unfold fn_k28 at hck
  split at hck
  · rename_i hd
    unfold fn_o28 at h
    rw [of_decide_eq_true hck] at h
    exact lv_null hx hb hd (hk _ _ _ _ h H locs ls hl hP hS)
  · cases hck
def fn_k32 (b : ByteArray) (pc : Nat) (I : fn_I) : Bool := match decode b pc with
  | .ok (.ineg, 1) => decide (I.2.1 = pc + 1)
  | _ => false
theorem fs_o32 (C : fn_Cx D dA ad G p s m args meth c cc nL oc rt) (hck : fn_k32 cc pc I = true) (hk : ∀ pc lo st x, k pc lo st x = some r → fn_Go D dA ad G p l e R s m args below meth c nL Q pc lo st x) (h : fn_o32 I lo st x k = some r) : fn_Go D dA ad G p l e R s m args below meth c nL Q pc lo st x := by
  intro H locs ls hl hP hS
  obtain ⟨hx, hb, -⟩ := C
  unfold fn_k32 at hck
  split at hck
  · rename_i hd
    have e1 := of_decide_eq_true hck
    unfold fn_o32 at h
    rw [e1] at h
    split at h
    · exact lv_ineg hx hb hd (hk _ _ _ _ h H locs ls hl hP hS)
    · cases h
  · cases hck
def fn_k33 (b : ByteArray) (pc : Nat) (I : fn_I) : Bool := match decode b pc with
  | .ok (.i2b, 1) => decide (I.2.1 = pc + 1)
  | _ => false
theorem fs_o33 (C : fn_Cx D dA ad G p s m args meth c cc nL oc rt) (hck : fn_k33 cc pc I = true) (hk : ∀ pc lo st x, k pc lo st x = some r → fn_Go D dA ad G p l e R s m args below meth c nL Q pc lo st x) (h : fn_o33 I lo st x k = some r) : fn_Go D dA ad G p l e R s m args below meth c nL Q pc lo st x := by
  intro H locs ls hl hP hS
  obtain ⟨hx, hb, -⟩ := C
  unfold fn_k33 at hck
  split at hck
  · rename_i hd
    have e1 := of_decide_eq_true hck
    unfold fn_o33 at h
    rw [e1] at h
    split at h
    · exact lv_i2b hx hb hd rfl (hk _ _ _ _ h H locs ls hl hP hS)
    · cases h
  · cases hck
def fn_k34 (b : ByteArray) (pc : Nat) (I : fn_I) : Bool := match decode b pc with
  | .ok (.i2c, 1) => decide (I.2.1 = pc + 1)
  | _ => false
theorem fs_o34 (C : fn_Cx D dA ad G p s m args meth c cc nL oc rt) (hck : fn_k34 cc pc I = true) (hk : ∀ pc lo st x, k pc lo st x = some r → fn_Go D dA ad G p l e R s m args below meth c nL Q pc lo st x) (h : fn_o34 I lo st x k = some r) : fn_Go D dA ad G p l e R s m args below meth c nL Q pc lo st x := by
  intro H locs ls hl hP hS
  obtain ⟨hx, hb, -⟩ := C
  unfold fn_k34 at hck
  split at hck
  · rename_i hd
    have e1 := of_decide_eq_true hck
    unfold fn_o34 at h
    rw [e1] at h
    split at h
    · exact lv_i2c hx hb hd rfl (hk _ _ _ _ h H locs ls hl hP hS)
    · cases h
  · cases hck
def fn_k35 (b : ByteArray) (pc : Nat) (I : fn_I) : Bool := match decode b pc with
  | .ok (.dup_x1, 1) => decide (I.2.1 = pc + 1)
  | _ => false
theorem fs_o35 (C : fn_Cx D dA ad G p s m args meth c cc nL oc rt) (hck : fn_k35 cc pc I = true) (hk : ∀ pc lo st x, k pc lo st x = some r → fn_Go D dA ad G p l e R s m args below meth c nL Q pc lo st x) (h : fn_o35 I lo st x k = some r) : fn_Go D dA ad G p l e R s m args below meth c nL Q pc lo st x := by
  intro H locs ls hl hP hS
  obtain ⟨hx, hb, -⟩ := C
  unfold fn_k35 at hck
  split at hck
  · rename_i hd
    have e1 := of_decide_eq_true hck
    unfold fn_o35 at h
    rw [e1] at h
    split at h
    · exact lv_dup_x1 hx hb hd rfl rfl (hk _ _ _ _ h H locs ls hl hP hS)
    · cases h
  · cases hck
end FO
