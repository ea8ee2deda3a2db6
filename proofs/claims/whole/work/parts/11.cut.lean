/-! ===== a run up to given places: from there on anything (K); locals and stack are forced on the way ===== -/
def fn_fl {α : Type} : fn_L → (fn_L → α) → α
  | [], k => k []
  | (i, v) :: r, k => fn_fl r (fun r => k ((i, v) :: r))
def fn_fq {α : Type} : List Value → (List Value → α) → α
  | [], k => k []
  | v :: r, k => fn_fq r (fun r => k (v :: r))
theorem fn_fl_eq {α : Type} : ∀ (l : fn_L) (k : fn_L → α), fn_fl l k = k l
  | [], _ => rfl
  | (i, v) :: r, k => fn_fl_eq r (fun r => k ((i, v) :: r))
theorem fn_fq_eq {α : Type} : ∀ (l : List Value) (k : List Value → α), fn_fq l k = k l
  | [], _ => rfl
  | v :: r, k => fn_fq_eq r (fun r => k (v :: r))
def fn_in (pc : Nat) : List Nat → Bool
  | [] => false
  | a :: r => if a = pc then true else fn_in pc r
def fn_runc (G : Nat) (cf : Nat → List Value → fn_M → Option fn_R) (dc : Nat → fn_I) (sp : List Nat) (K : Nat → fn_K) : Nat → fn_K
  | 0, _, _, _, _ => none
  | n + 1, pc, lo, st, x => fn_op G cf (dc pc) lo st x (fun pc lo st x => fn_fl lo (fun lo => fn_fq st (fun st => match fn_in pc sp with
    | true => K n pc lo st x
    | false => fn_runc G cf dc sp K n pc lo st x)))
theorem fn_runc_eq (G : Nat) (cf : Nat → List Value → fn_M → Option fn_R) (dc : Nat → fn_I) (sp : List Nat) : ∀ (n pc : Nat) (lo : fn_L) (st : List Value) (x : fn_M), fn_run G cf dc n pc lo st x = fn_runc G cf dc sp (fn_run G cf dc) n pc lo st x
  | 0, _, _, _, _ => rfl
  | n + 1, pc, lo, st, x => by
    unfold fn_run fn_runc
    congr 1
    funext pc lo st x
    rw [fn_fl_eq, fn_fq_eq]
    cases fn_in pc sp
    · exact fn_runc_eq G cf dc sp n pc lo st x
    · rfl
theorem fn_ev_eq {G n d mi : Nat} {as : List Value} {x : fn_M} {dd : List (Nat × fn_I)} {lo : fn_L} (h : (Nat.blt mi fn_NM && Nat.ble as.length (fn_rec mi).2.2.1 && fn_cat1 as) = true) (hd : fn_dL.getD mi [] = dd) (hl : fn_lo 0 as = lo) : fn_ev G n (d + 1) mi as x = fn_run G (fn_ev G n d) (fn_lk dd) n 0 lo [] x := by
  subst hd
  subst hl
  exact if_pos h
/-- a method's start, and a place within it, by their trees -/
theorem fn_ev_t {G n d mi : Nat} {as : List Value} {x : fn_M} {dd : List (Nat × fn_I)} {lo : fn_L} {sp : List Nat} {t : Option fn_R} (h : (Nat.blt mi fn_NM && Nat.ble as.length (fn_rec mi).2.2.1 && fn_cat1 as) = true) (hd : fn_dL.getD mi [] = dd) (hl : fn_lo 0 as = lo) (ht : fn_runc G (fn_ev G n d) (fn_lk dd) sp (fn_run G (fn_ev G n d) (fn_lk dd)) n 0 lo [] x = t) : fn_ev G n (d + 1) mi as x = t :=
  (fn_ev_eq h hd hl).trans ((fn_runc_eq G (fn_ev G n d) (fn_lk dd) sp n 0 lo [] x).trans ht)
