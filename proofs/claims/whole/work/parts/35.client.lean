/-! ===== the client ===== -/
section FCL
variable {t c : Nat} {f : Nat → Nat} {x z : fn_M}
/-- the client is busy with node m -/
def fr_busy (m : Nat) (x z : fn_M) : Prop := x 46 0 = 1 ∧ 1 ≤ m ∧ m ≤ 4 ∧ x 46 2 = nI m ∧ z 0 27 = nI m ∧ (x 46 1 = 0 ∨ (x 46 1 = 1 ∧ (x (48 + m) 2 = 2 ∨ (x (48 + m) 2 = 3 ∧ ∃ w, w ≤ 3 ∧ x (48 + m) 7 = nI w ∧ z 0 32 = nI w)))) ∧ x 46 3 = z 0 28 ∧ x 46 4 = z 0 29 ∧ x 46 5 = z 0 30 ∧ x 46 1 = z 0 31 ∧ x 46 8 = z 0 35 ∧ (x 46 8 = 0 ∨ (x 46 8 = 1 ∧ x 46 9 = z 0 36 ∧ x 46 10 = z 0 37 ∧ (x 46 10 = 0 ∨ x 46 10 = 1)))
theorem fr_busy_of (h : fr_R t c f x z) (hb : ¬ x 46 0 = 0) : ∃ m, fr_busy m x z := by
  obtain ⟨-, -, -, d4⟩ := h.2.2.2.1
  rcases d4 with ⟨e, -⟩ | ⟨e1, ⟨m, m1, m2, m3, m4, m5⟩, e3⟩
  · exact absurd e hb
  · exact ⟨m, e1, m1, m2, m3, m4, m5, e3⟩
/-- a transfer is over, and if it was a boot's the boot goes on -/
theorem fr_over (h : fr_R t c f x z) {m : Nat} (hb : fr_busy m x z) (n d n1 d1 : Nat) (b1 b2 : Int32) : fr_vv t f x (fn_ev 0 (n + 2000) (d + 4) 19 [.ref 45, .ref 1] (fn_w (fn_w (fn_w x 46 0 0) 46 6 b1) 46 7 b2)) (fn_ev 1 (n1 + 2000) (d1 + 5) 112 [.ref 0, .int b1, .int b2] z) := by
  obtain ⟨e0, m1, m2, e2, e27, e1, -, -, -, e31, -⟩ := hb
  have h24 := fr_p24 h
  have hk : (fn_w (fn_w (fn_w x 46 0 0) 46 6 b1) 46 7 b2) (f 24) = x (f 24) := by
    rw [fw_row (by omega), fw_row (by omega), fw_row (by omega)]
  have h3 := fr_s_end h b1 b2
  rw [ft_Model_over n1 (d1 + 4), ← e31, e27]
  rcases e1 with e1 | ⟨e1, ph⟩
  · rw [ft_Master_goOnWithBoot n (d + 3), if_pos e1, if_pos (by simp (disch := omega) only [fw_any]; exact e1)]
    exact ⟨_, _, c, rfl, rfl, h3, hk⟩
  · rw [if_neg (by rw [e1]; decide)]
    obtain ⟨y, y', c', q1, q2, q3, q4⟩ := fr_goon h3 (m := m) m1 m2 (by simp (disch := omega) only [fw_any, fw_eq]) (by simp (disch := omega) only [fw_any, fw_eq]) (by simp (disch := omega) only [fw_any]; exact e2) (by simp (disch := omega) only [fw_any]; exact e1) (by simp (disch := omega) only [fw_any]; exact ph) n d n1 d1
    rw [q1, q2, fb_v]
    exact ⟨y, y', c', rfl, rfl, q3, q4.trans hk⟩
/-- until when the client waits -/
theorem fr_s_until (h : fr_R t c f x z) (v : Int32) : fr_R t c f (fn_w x 46 5 v) (fn_w z 0 30 v) := by
  obtain ⟨d1, d2, ⟨g, g1, g2, g3, g4⟩, d4⟩ := h.2.2.2.1
  refine fr_Rc h (fun q b1 b2 => ?_) (fun q b1 b2 => ?_) (fun j b1 => ?_) ?_
  · simp (disch := omega) only [fw_row]
  · simp (disch := omega) only [fw_row]
  · simp (disch := omega) only [fw_any]
  · unfold fr_c
    simp (disch := omega) only [fw_any, fw_eq, fw_row]
    refine ⟨d1, d2, ⟨g, g1, g2, g3, g4⟩, ?_⟩
    rcases d4 with d4 | ⟨e1, e2, e3, e4, e5, e6⟩
    · exact Or.inl d4
    · exact Or.inr ⟨e1, e2, e3, e4, trivial, e6⟩
/-- the client asks for the next part -/
theorem fr_askon (h : fr_R t c f x z) {m : Nat} (e2 : x 46 2 = nI m) (e27 : z 0 27 = nI m) (n d n1 d1 : Nat) {w : Int32} (hw : x 46 10 = w) : ∃ x' z' c', fn_ev 0 (n + 2000) (d + 2) 8 [.ref 46, .ref 1] x = some (x', none) ∧ fn_ev 1 (n1 + 2000) (d1 + 2) 109 [.ref 0, .int 3, .int w, .int 0] z = some (z', none) ∧ fr_R t c' f x' z' ∧ x' (f 24) = x (f 24) ∧ x' 46 0 = x 46 0 := by
  have h24 := fr_p24 h
  obtain ⟨y, y', c', q1, q2, q3, q4⟩ := fr_Rput h n d n1 d1 0 (1536 + nI m) 3 w 0 0 fr_fr0
  rw [ft_Client_askOn n (d + 1), ft_Model_ask n1 (d1 + 1), e2, e27, hw, q1, q2, fb_v, fb_v, (fr_now q3).1, (fr_now q3).2]
  refine ⟨_, _, c', rfl, rfl, fr_s_until q3 _, ?_, ?_⟩
  · rw [fw_row (by omega)]
    exact q4.1 _ (Or.inr rfl)
  · rw [fw_nj (by decide), q4.1 46 (Or.inl (by decide))]
end FCL
