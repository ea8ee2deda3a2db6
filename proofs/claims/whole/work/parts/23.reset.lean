theorem fw_any {x : fn_M} {q j a b : Nat} {v : Int32} (h : a ≠ q ∨ b ≠ j) : fn_w x q j v a b = x a b := by
  by_cases e : a = q
  · subst e
    exact fw_nj (h.resolve_left (fun q => q rfl))
  · exact fw_ne e
/-- objects 1 to 15 are 0 -/
def fr_blk (x : fn_M) (q b : Nat) : fn_M := (fn_w (fn_w (fn_w (fn_w (fn_w (fn_w (fn_w (fn_w (fn_w (fn_w (fn_w (fn_w (fn_w (fn_w (fn_w x q (b + 1) 0) q (b + 2) 0) q (b + 3) 0) q (b + 4) 0) q (b + 5) 0) q (b + 6) 0) q (b + 7) 0) q (b + 8) 0) q (b + 9) 0) q (b + 10) 0) q (b + 11) 0) q (b + 12) 0) q (b + 13) 0) q (b + 14) 0) q (b + 15) 0)
theorem fr_blk_row {x : fn_M} {q b a : Nat} (h : a ≠ q) : fr_blk x q b a = x a := by
  unfold fr_blk
  simp (disch := omega) only [fw_row]
theorem fr_blk_out {x : fn_M} {q b j : Nat} (h : j ≤ b ∨ b + 16 ≤ j) : fr_blk x q b q j = x q j := by
  unfold fr_blk
  simp (disch := omega) only [fw_any]
theorem fr_blk_in {x : fn_M} {q b j : Nat} (h : 1 ≤ j) (h2 : j < 16) : fr_blk x q b q (b + j) = 0 := by
  unfold fr_blk
  rcases (by omega : j = 1 ∨ j = 2 ∨ j = 3 ∨ j = 4 ∨ j = 5 ∨ j = 6 ∨ j = 7 ∨ j = 8 ∨ j = 9 ∨ j = 10 ∨ j = 11 ∨ j = 12 ∨ j = 13 ∨ j = 14 ∨ j = 15) with rfl | rfl | rfl | rfl | rfl | rfl | rfl | rfl | rfl | rfl | rfl | rfl | rfl | rfl | rfl <;> simp (disch := omega) only [fw_any, fw_eq]
section FR
variable {t c k : Nat} {f : Nat → Nat} {x z : fn_M}
theorem fr_s_reset (h : fr_R t c f x z) (h1 : 1 ≤ k) (h2 : k ≤ 4) : fr_R t c f (fn_w (fn_w (fn_w (fn_w (fn_w (fn_w (fn_w (fr_blk x (32 + k) 0) (28 + k) 3 127) (28 + k) 5 (-1)) (28 + k) 6 0) (28 + k) 7 0) (28 + k) 8 (-1)) (28 + k) 9 0) (28 + k) 4 (nI t)) (fn_w (fn_w (fn_w (fn_w (fn_w (fn_w (fn_w (fr_blk z 2 (16 * k)) 1 k 127) 3 k (-1)) 4 k 0) 5 k 0) 6 k (-1)) 7 k (-1)) 9 k (nI t)) := by
  obtain ⟨a1, a2, a3, a4, a5, a6, a7, a8, a9, a10, a11, a12, a13, a14, a15⟩ := h.2.1 k h1 h2
  refine fr_Rn h h1 h2 (fun q b1 b2 b3 b4 => ?_) (fun q b => ?_) (fun q j b1 b2 b3 b4 => ?_) (fun j b => ?_) ?_
  · simp (disch := omega) only [fw_row, fr_blk_row]
  · simp (disch := omega) only [fw_row, fr_blk_row]
  · simp (disch := omega) only [fw_any, fr_blk_row]
  · simp (disch := omega) only [fw_any, fr_blk_out]
  · unfold fr_n
    simp (disch := omega) only [fw_any, fw_eq, fw_row, fr_blk_row]
    refine ⟨a1, trivial, Or.inr (Or.inr (Or.inr trivial)), fun j hj => ?_, fun j hj => ?_, trivial, ⟨t, Nat.le_refl _, rfl⟩, trivial, Or.inl rfl, trivial, trivial, trivial, Or.inl rfl, ?_, fun v b1 b2 => Or.inl ⟨rfl, rfl⟩⟩
    · by_cases e : j = 0
      · subst e
        rw [fr_blk_out (by omega), fr_blk_out (by omega)]
        exact a4 0 (by decide)
      · rw [fr_blk_in (by omega) hj, show j = 0 + j from (Nat.zero_add j).symm, fr_blk_in (by omega) hj]
    · by_cases e : j = 0
      · subst e
        rw [fr_blk_out (by omega)]
        exact a5 0 (by decide)
      · rw [show j = 0 + j from (Nat.zero_add j).symm, fr_blk_in (by omega) hj, Nat.zero_add]
        rcases (by omega : j = 1 ∨ j = 2 ∨ j = 3 ∨ j = 4 ∨ j = 5 ∨ j = 6 ∨ j = 7 ∨ j = 8 ∨ j = 9 ∨ j = 10 ∨ j = 11 ∨ j = 12 ∨ j = 13 ∨ j = 14 ∨ j = 15) with rfl | rfl | rfl | rfl | rfl | rfl | rfl | rfl | rfl | rfl | rfl | rfl | rfl | rfl | rfl

        · exact trivial
        · exact ⟨0, by decide, rfl⟩
        · exact Or.inl rfl
        · exact ⟨0, by decide, rfl⟩
        · exact ⟨0, by decide, rfl⟩
        · exact Or.inl rfl
        · exact Or.inl rfl
        · exact trivial
        · exact trivial
        · exact trivial
        · exact trivial
        · exact trivial
        · exact trivial
        · exact trivial
        · exact trivial
    · unfold fr_name
      rw [fr_blk_out (by omega)]
      exact a14
/-- a node begins anew -/
theorem fr_reset (h : fr_R t c f x z) (h1 : 1 ≤ k) (h2 : k ≤ 4) (n d n1 d1 : Nat) : fr_vv t f x (fn_ev 0 (n + 2000) (d + 2) 28 [.ref (28 + k), .ref 1] x) (fn_ev 1 (n1 + 2000) (d1 + 2) 91 [.ref 0, .int (nI k)] z) := by
  have h24 := fr_p24 h
  have hcl : (nI k).toNatClampNeg = k := fr_cl (by omega)
  have hix : ¬ (nI k < 0 ∨ 5 ≤ k) := by have := fr_ix (c := k) (N := 5) (by omega) (by decide); rwa [hcl] at this
  have cl : ∀ j, j < 16 → (nI (16 * k + j)).toNatClampNeg = 16 * k + j := fun j hj => fr_cl (by omega)
  have ix : ∀ j, j < 16 → ¬ (nI (16 * k + j) < 0 ∨ 80 ≤ 16 * k + j) := fun j hj => by have := fr_ix (c := 16 * k + j) (N := 80) (by omega) (by decide); rwa [cl j hj] at this
  have e1 : (16 : Int32) * nI k + 1 = nI (16 * k + 1) := fr_16 k 1
  have e2 : (16 : Int32) * nI k + 2 = nI (16 * k + 2) := fr_16 k 2
  have e3 : (16 : Int32) * nI k + 3 = nI (16 * k + 3) := fr_16 k 3
  have e4 : (16 : Int32) * nI k + 4 = nI (16 * k + 4) := fr_16 k 4
  have e5 : (16 : Int32) * nI k + 5 = nI (16 * k + 5) := fr_16 k 5
  have e6 : (16 : Int32) * nI k + 6 = nI (16 * k + 6) := fr_16 k 6
  have e7 : (16 : Int32) * nI k + 7 = nI (16 * k + 7) := fr_16 k 7
  have e8 : (16 : Int32) * nI k + 8 = nI (16 * k + 8) := fr_16 k 8
  have e9 : (16 : Int32) * nI k + 9 = nI (16 * k + 9) := fr_16 k 9
  have e10 : (16 : Int32) * nI k + 10 = nI (16 * k + 10) := fr_16 k 10
  have e11 : (16 : Int32) * nI k + 11 = nI (16 * k + 11) := fr_16 k 11
  have e12 : (16 : Int32) * nI k + 12 = nI (16 * k + 12) := fr_16 k 12
  have e13 : (16 : Int32) * nI k + 13 = nI (16 * k + 13) := fr_16 k 13
  have e14 : (16 : Int32) * nI k + 14 = nI (16 * k + 14) := fr_16 k 14
  have e15 : (16 : Int32) * nI k + 15 = nI (16 * k + 15) := fr_16 k 15
  rw [fk_Node_reset n (d + 1) h1 h2, ft_Model_reset n1 (d1 + 1)]
  rw [ft_Model_reset_at2_1 n1 (d1 + 1), e1, cl 1 (by decide), if_neg (ix 1 (by decide))]
  rw [ft_Model_reset_at2_2 n1 (d1 + 1), e2, cl 2 (by decide), if_neg (ix 2 (by decide))]
  rw [ft_Model_reset_at2_3 n1 (d1 + 1), e3, cl 3 (by decide), if_neg (ix 3 (by decide))]
  rw [ft_Model_reset_at2_4 n1 (d1 + 1), e4, cl 4 (by decide), if_neg (ix 4 (by decide))]
  rw [ft_Model_reset_at2_5 n1 (d1 + 1), e5, cl 5 (by decide), if_neg (ix 5 (by decide))]
  rw [ft_Model_reset_at2_6 n1 (d1 + 1), e6, cl 6 (by decide), if_neg (ix 6 (by decide))]
  rw [ft_Model_reset_at2_7 n1 (d1 + 1), e7, cl 7 (by decide), if_neg (ix 7 (by decide))]
  rw [ft_Model_reset_at2_8 n1 (d1 + 1), e8, cl 8 (by decide), if_neg (ix 8 (by decide))]
  rw [ft_Model_reset_at2_9 n1 (d1 + 1), e9, cl 9 (by decide), if_neg (ix 9 (by decide))]
  rw [ft_Model_reset_at2_10 n1 (d1 + 1), e10, cl 10 (by decide), if_neg (ix 10 (by decide))]
  rw [ft_Model_reset_at2_11 n1 (d1 + 1), e11, cl 11 (by decide), if_neg (ix 11 (by decide))]
  rw [ft_Model_reset_at2_12 n1 (d1 + 1), e12, cl 12 (by decide), if_neg (ix 12 (by decide))]
  rw [ft_Model_reset_at2_13 n1 (d1 + 1), e13, cl 13 (by decide), if_neg (ix 13 (by decide))]
  rw [ft_Model_reset_at2_14 n1 (d1 + 1), e14, cl 14 (by decide), if_neg (ix 14 (by decide))]
  rw [ft_Model_reset_at2_15 n1 (d1 + 1), e15, cl 15 (by decide), if_neg (ix 15 (by decide))]
  rw [ft_Model_reset_at2_16 n1 (d1 + 1)]
  simp only [hcl, if_neg hix]
  simp (disch := decide) only [fw_ne]
  rw [(fr_now h).1, (fr_now h).2, (h.2.1 k h1 h2).1]
  obtain ⟨y, y', c', q1, q2, q3, q4⟩ := fr_Rput (fr_s_reset h h1 h2) n d n1 d1 (nI k) (1792 + nI k) 0 0 0 (nI k) (fr_frk h1 h2)
  unfold fr_blk at q1 q2 q4
  simp only [Nat.zero_add] at q1
  rw [q1, q2, fb_v, fb_v]
  refine ⟨y, y', c', rfl, rfl, q3, ?_⟩
  rw [q4.1 _ (Or.inr rfl)]
  simp (disch := omega) only [fw_row]
end FR
