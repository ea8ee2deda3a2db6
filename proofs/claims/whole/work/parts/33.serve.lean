/-! ===== a node serves ===== -/
section FS
variable {t c k : Nat} {f : Nat → Nat} {x z : fn_M}
/-- the reading of the name begins -/
theorem fr_s_rd0 (h : fr_R t c f x z) (h1 : 1 ≤ k) (h2 : k ≤ 4) : fr_R t c f (fn_w (fn_w (fn_w x (28 + k) 9 1) (28 + k) 10 0) (28 + k) 11 0) (fn_w (fn_w z 7 k 0) 8 k 0) := by
  obtain ⟨a1, a2, a3, a4, a5, a6, a7, a8, a9, a10, a11, a12, a13, a14, a15⟩ := h.2.1 k h1 h2
  refine fr_Rn h h1 h2 (fun q b1 b2 b3 b4 => ?_) (fun q b => ?_) (fun q j b1 b2 b3 b4 => ?_) (fun j b => ?_) ?_
  · simp (disch := omega) only [fw_row]
  · simp (disch := omega) only [fw_row]
  · simp (disch := omega) only [fw_any]
  · simp (disch := omega) only [fw_any]
  · unfold fr_n
    simp (disch := omega) only [fw_any, fw_eq, fw_row]
    refine ⟨a1, a2, a3, a4, a5, a6, a7, a8, a9, a10, a11, a12, a13, a14, fun v b1 b2 => Or.inr ⟨rfl, ⟨0, Or.inl rfl, rfl, rfl, Or.inr (by omega)⟩, rfl, Or.inl rfl⟩⟩
/-- it ends -/
theorem fr_s_rdx (h : fr_R t c f x z) (h1 : 1 ≤ k) (h2 : k ≤ 4) : fr_R t c f (fn_w x (28 + k) 9 0) (fn_w z 7 k (-1)) := by
  obtain ⟨a1, a2, a3, a4, a5, a6, a7, a8, a9, a10, a11, a12, a13, a14, a15⟩ := h.2.1 k h1 h2
  refine fr_Rn h h1 h2 (fun q b1 b2 b3 b4 => ?_) (fun q b => ?_) (fun q j b1 b2 b3 b4 => ?_) (fun j b => ?_) ?_
  · simp (disch := omega) only [fw_row]
  · simp (disch := omega) only [fw_row]
  · simp (disch := omega) only [fw_any]
  · simp (disch := omega) only [fw_any]
  · unfold fr_n
    simp (disch := omega) only [fw_any, fw_eq, fw_row]
    exact ⟨a1, a2, a3, a4, a5, a6, a7, a8, a9, a10, a11, a12, a13, a14, fun v b1 b2 => Or.inl ⟨rfl, rfl⟩⟩
theorem fe_dig (n d : Nat) (z : fn_M) {v : Nat} (hv : v ≤ 9999) : fn_ev 1 (n + 2000) (d + 1) 92 [.int (nI v)] z = some (z, some (.int (nI (fr_dg v)))) := by
  rw [ft_Model_digits]
  unfold fr_dg
  by_cases e3 : v > 999
  · rw [if_pos e3, if_neg (show ¬ nI v ≤ 999 from fun e => by have := (fr_le (b := 999) (by omega) (by decide)).mp e; omega)]
    rfl
  · rw [if_neg e3, if_pos (show nI v ≤ 999 from nI_le (b := 999) (by omega) (by decide))]
    by_cases e2 : v > 99
    · rw [if_pos e2, if_neg (show ¬ nI v ≤ 99 from fun e => by have := (fr_le (b := 99) (by omega) (by decide)).mp e; omega)]
      rfl
    · rw [if_neg e2, if_pos (show nI v ≤ 99 from nI_le (b := 99) (by omega) (by decide))]
      by_cases e1 : v > 9
      · rw [if_pos e1, if_neg (show ¬ nI v ≤ 9 from fun e => by have := (fr_le (b := 9) (by omega) (by decide)).mp e; omega)]
        rfl
      · rw [if_neg e1, if_pos (show nI v ≤ 9 from nI_le (b := 9) (by omega) (by decide))]
        rfl
theorem fr_dg_le (v : Nat) : 1 ≤ fr_dg v ∧ fr_dg v ≤ 4 := by
  unfold fr_dg
  split
  · decide
  · split
    · decide
    · split <;> decide
theorem fe_size (n d : Nat) (z : fn_M) (h2 : k ≤ 4) {v : Nat} (hv : v ≤ 9999) (hz : z 2 (16 * k + 0) = nI v) : fn_ev 1 (n + 2000) (d + 2) 93 [.ref 0, .int (nI k)] z = some (z, some (.int (nI (7 + fr_dg v)))) := by
  rw [ft_Model_nameSize, fe_of (a2 := 0) n d z h2 (j := 0) (by decide) rfl, fb_i, hz, fe_dig n d z hv, fb_i, show (7 : Int32) = nI 7 from rfl, nI_add]
theorem fe_len (n d : Nat) (x : fn_M) (h1 : 1 ≤ k) (h2 : k ≤ 4) : fn_ev 0 (n + 2000) (d + 2) 138 [.ref (36 + k)] x = some (x, some (.int (x (36 + k) 3))) := by
  rw [fk_SB_length n (d + 1) h1 h2, fk_ASB_length n d h1 h2, fb_i]
/-- an answer -/
theorem fr_ans (h : fr_R t c f x z) (h1 : 1 ≤ k) (h2 : k ≤ 4) (n d n1 d1 : Nat) (b1 b2 b3 : Int32) : ∃ x' z' c', fn_ev 0 (n + 2000) (d + 2) 47 [.ref (28 + k), .int b1, .int b2, .int b3, .ref 1] x = some (x', none) ∧ fn_ev 1 (n1 + 2000) (d1 + 1) 87 [.ref 0, .int (nI k), .int (1408 + nI k), .int b1, .int b2, .int b3] z = some (z', none) ∧ fr_R t c' f x' z' ∧ fr_keep (f 24) x x' z z' := by
  rw [fk_Node_answer n (d + 1) h1 h2, (h.2.1 k h1 h2).1]
  obtain ⟨y, y', c', q1, q2, q3, q4⟩ := fr_Rput h n d n1 d1 (nI k) (1408 + nI k) b1 b2 b3 (nI k) (fr_frk h1 h2)
  rw [q1, q2, fb_v]
  exact ⟨y, y', c', rfl, rfl, q3, q4⟩
end FS
