/-! ===== reading behind writing; what comes back from a call ===== -/
theorem fw_ne {x : fn_M} {q j a b : Nat} {v : Int32} (h : a ≠ q) : fn_w x q j v a b = x a b := by rw [fn_w_ne a h]
theorem fw_nj {x : fn_M} {q j b : Nat} {v : Int32} (h : b ≠ j) : fn_w x q j v q b = x q b := by rw [fn_w_eq]; exact if_neg h
theorem fw_eq {x : fn_M} {q j : Nat} {v : Int32} : fn_w x q j v q j = v := by rw [fn_w_eq]; exact if_pos rfl
theorem fw_row {x : fn_M} {q j a : Nat} {v : Int32} (h : a ≠ q) : fn_w x q j v a = x a := fn_w_ne a h
theorem fb_v {y : fn_M} {k : fn_M → Option fn_R} : fn_bv (some (y, none)) k = k y := rfl
theorem fb_i {y : fn_M} {v : Int32} {k : fn_M → Int32 → Option fn_R} : fn_bi (some (y, some (.int v))) k = k y v := rfl
theorem fb_r {y : fn_M} {p : Nat} {k : fn_M → Nat → Option fn_R} {kn : fn_M → Option fn_R} : fn_br (some (y, some (.ref p))) k kn = k y p := rfl
theorem fb_n {y : fn_M} {k : fn_M → Nat → Option fn_R} {kn : fn_M → Option fn_R} : fn_br (some (y, some .null)) k kn = kn y := rfl
/-- a frame's cell -/
theorem fr_fr : ∀ q, q ≤ 27 → 3 ≤ q → fn_lc 0 q = 2 := by decide +kernel
/-- two ints below a bound -/
theorem fr_ix {c N : Nat} (h : c < N) (hN : N < 2147483648) : ¬ (nI c < 0 ∨ N ≤ (nI c).toNatClampNeg) := nI_in h hN
theorem fr_cl {c : Nat} (h : c < 2147483648) : (nI c).toNatClampNeg = c := nI_clamp h
theorem fr_le {a b : Nat} (ha : a < 2147483648) (hb : b < 2147483648) : nI a ≤ nI b ↔ a ≤ b := nI_leI ha hb
theorem fr_lt {a b : Nat} (ha : a < 2147483648) (hb : b < 2147483648) : nI a < nI b ↔ a < b := nI_ltI ha hb
theorem fr_eq {a b : Nat} (ha : a < 2147483648) (hb : b < 2147483648) : nI a = nI b ↔ a = b := nI_eq ha hb
theorem fr_sub {a b : Nat} (h : b ≤ a) : nI a - nI b = nI (a - b) := by
  have e : a = (a - b) + b := by omega
  conv => lhs; rw [e, ← nI_add]
  rw [Int32.add_sub_cancel]
/-- what a put leaves as it was: all but the bus -/
def fr_keep (p : Nat) (x x' z z' : fn_M) : Prop := (∀ q, (27 < q ∨ q = p) → x' q = x q) ∧ x' 1 1 = x 1 1 ∧ x' 1 6 = x 1 6 ∧ (∀ q, 0 < q → (q < 10 ∨ 14 < q) → z' q = z q) ∧ (∀ j, j ≠ 10 → j ≠ 16 → z' 0 j = z 0 j)
/-- a frame is put -/
theorem fr_put {t c : Nat} {f : Nat → Nat} {x z : fn_M} (h : fr_b t c f x z) (n d n1 d1 : Nat) (a1 a2 a3 a4 a5 b1 : Int32) (hf : fr_from a1 b1) :
    ∃ x' z' c', fn_ev 0 (n + 2000) (d + 1) 55 [.ref 1, .int a1, .int a2, .int a3, .int a4, .int a5] x = some (x', none) ∧ fn_ev 1 (n1 + 2000) (d1 + 1) 87 [.ref 0, .int b1, .int a2, .int a3, .int a4, .int a5] z = some (z', none) ∧ fr_b t c' f x' z' ∧ fr_keep (f 24) x x' z z' := by
  obtain ⟨hc, h1, h2, h3, h4, h5, h6, h7, h8, h9, h10, h11, h12, ht⟩ := h
  rw [ft_Wire_put, ft_Model_put, h1, h2]
  by_cases h24 : c = 24
  · subst h24
    rw [if_neg (by decide +kernel), if_pos (by decide +kernel)]
    refine ⟨_, _, 24, rfl, rfl, ⟨hc, ?_, ?_, ?_, ?_, ?_, ?_, ?_, h8, h9, ?_, ?_, ?_, ht⟩, ?_, ?_, ?_, ?_, ?_⟩
    · rw [fw_nj (by decide)]; exact h1
    · rw [fw_nj (by decide)]; exact h2
    · rw [fw_nj (by decide)]; exact h3
    · rw [fw_nj (by decide)]; exact h4
    · rw [fw_eq, fw_eq, h5]
    · rw [fw_nj (by decide), fw_nj (by decide)]; exact h6
    · rw [fw_nj (by decide), fw_nj (by decide)]; exact h7
    · intro i hi
      rw [fw_ne (by decide)]
      exact h10 i hi
    · rw [fw_nj (by decide)]; exact h11
    · intro i hi
      have := h8 i (by omega)
      rw [fw_ne (by omega), fw_ne (by omega), fw_ne (by omega), fw_ne (by omega), fw_ne (by omega), fw_ne (by omega), fw_ne (by omega), fw_ne (by omega), fw_ne (by omega), fw_ne (by omega)]
      exact h12 i hi
    · intro q hq
      have := h8 24 (by omega)
      exact fw_row (by omega)
    · exact fw_nj (by decide)
    · exact fw_nj (by decide)
    · intro q h0 hq
      exact fw_row (by omega)
    · intro j h10 h16
      exact fw_nj h16
  · have hc2 : c < 24 := by omega
    have hcl : (nI c).toNatClampNeg = c := fr_cl (by omega)
    have hfc := h8 c (by omega)
    have hfl : (nI (f c)).toNatClampNeg = f c := fr_cl (by omega)
    have hlt : nI c < 24 := nI_lt (b := 24) hc2 (by decide)
    have hne : ¬ nI c = 24 := fun e => h24 ((fr_eq (b := 24) (by omega) (by decide)).mp e)
    have hix : ¬ (nI c < 0 ∨ 24 ≤ (nI c).toNatClampNeg) := fr_ix hc2 (by decide)
    rw [hcl] at hix
    simp only [if_pos hlt, if_neg hne, if_neg hix, hcl, h10 c hc2, hfl, if_pos (fr_fr (f c) hfc.2 hfc.1)]
    refine ⟨_, _, c + 1, rfl, rfl, ⟨hc2, ?_, ?_, ?_, ?_, ?_, ?_, ?_, h8, h9, ?_, ?_, ?_, ht⟩, ?_, ?_, ?_, ?_, ?_⟩
    · rw [fw_eq, nI_succ]
      simp (disch := omega) only [fw_ne]
      rw [h1]
    · rw [fw_eq, nI_succ]
    · simp (disch := omega) only [fw_ne, fw_nj]; exact h3
    · simp (disch := omega) only [fw_ne, fw_nj]; exact h4
    · simp (disch := omega) only [fw_ne, fw_nj]; exact h5
    · simp (disch := omega) only [fw_ne, fw_nj]; exact h6
    · simp (disch := omega) only [fw_ne, fw_nj]; exact h7
    · intro i hi
      simp (disch := omega) only [fw_ne]
      exact h10 i hi
    · simp (disch := omega) only [fw_ne, fw_nj]; exact h11
    · intro i hi
      by_cases hic : i = c
      · subst hic
        simp (disch := omega) only [fw_ne, fw_nj, fw_eq]
        exact ⟨trivial, trivial, trivial, trivial, hf⟩
      · have hfi := h8 i (by omega)
        have hne : f i ≠ f c := fun e => hic (h9 i c (by omega) (by omega) e)
        simp (disch := omega) only [fw_ne, fw_nj]
        exact h12 i (by omega)
    · intro q hq
      have h24' := h8 24 (by omega)
      have hne : f 24 ≠ f c := fun e => by have := h9 24 c (by omega) (by omega) e; omega
      have : q ≠ f c := by rcases hq with hq | hq <;> omega
      simp (disch := omega) only [fw_row]
    · simp (disch := omega) only [fw_ne, fw_nj]
    · simp (disch := omega) only [fw_ne, fw_nj]
    · intro q h0 hq
      simp (disch := omega) only [fw_row]
    · intro j h10 h16
      simp (disch := omega) only [fw_ne, fw_nj]
