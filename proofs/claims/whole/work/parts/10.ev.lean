theorem fn_lk_ck {b : ByteArray} {oc nL : Nat} {rt : Option FieldType} (pc : Nat) : ∀ (d : List (Nat × fn_I)), d.all (fun q => fn_ck b oc nL rt q.1 q.2) = true → fn_ck b oc nL rt pc (fn_lk d pc) = true
  | [], _ => rfl
  | (a, i) :: r, h => by
    rw [List.all_cons, Bool.and_eq_true] at h
    unfold fn_lk
    by_cases e : a = pc
    · rw [if_pos e]
      subst e
      exact h.1
    · rw [if_neg e]
      exact fn_lk_ck pc r h.2
/-- what the machine computes is what the methods do -/
theorem fn_sound {l : Launch} {D : va_G} {dA : Nat → ClassId} {ad : Nat → Nat} {G : Nat} (had : fn_ad ad G) (n : Nat) : ∀ (d mi : Nat) (as : List Value) (x : fn_M) (r : fn_R), fn_ev G n d mi as x = some r → fn_MT l D dA ad G d mi as x r
  | 0, mi, as, x, r, h => by cases h
  | d + 1, mi, as, x, r, h => by
    unfold fn_ev at h
    obtain ⟨h1, h2⟩ := fn_ite h
    by_cases hg : (Nat.blt mi fn_NM && Nat.ble as.length (fn_rec mi).2.2.1 && fn_cat1 as) = true
    · replace h := h1 hg
      simp only [Bool.and_eq_true] at hg
      obtain ⟨⟨hlt, hle⟩, hcat⟩ := hg
      replace hlt : mi < fn_NM := Nat.le_of_ble_eq_true hlt
      replace hle := Nat.le_of_ble_eq_true hle
      have hall := fn_alls mi hlt
      unfold fn_all at hall
      rw [Bool.and_eq_true, beq_iff_eq] at hall
      unfold fn_MT
      refine fn_ofW (cc := (fn_rec mi).2.1) (maxL := (fn_rec mi).2.2.1) (ret := (fn_rec mi).2.2.2) (fn_mkp hlt) rfl ?_
      intro p e s m args below meth c s₁ B hml hv
      obtain ⟨rfl, hP, hK, hN, hRO⟩ := hv
      have hts : ∀ w ∈ fn_tT, w.before (as.map (fn_cv ad)).toArray s = true := fun w hw => atoms_spec (ws := fn_cw mi :: fn_tT) B.pre w (List.mem_cons_of_mem _ hw)
      have hown : s.vm.findClass (fn_on (fn_oc mi)) = some m.cls := by
        rw [hall.2]
        exact findClass_of_methodNamed B.named
      have C : fn_Cx D dA ad G p s m (as.map (fn_cv ad)).toArray meth c (fn_rec mi).2.1 (fn_rec mi).2.2.1 (fn_oc mi) (fn_rec mi).2.2.2 := ⟨B.exec, B.bytes, hml, B.returns, B.notSynchronized, hown, hts, hN, hK, had, hRO⟩
      have hl := lv_entry (as.map (fn_cv ad)) (n := (fn_rec mi).2.2.1) (by rw [fn_sl_len as hcat]; exact hle)
      rw [lg_entry_eq]
      rw [fn_lo_args 0 as hcat] at hl
      exact fs_runs (R := fn_rm (d + 1)) (l := l) (e := e) (below := below) C rfl (fun mi as x r h => fn_sound had n d mi as x r h) (fun pc => fn_lk_ck pc _ hall.1) n 0 (fn_lo 0 as) [] x h s.heap [] _ hl hP va_S.rf
    · cases h2 hg
