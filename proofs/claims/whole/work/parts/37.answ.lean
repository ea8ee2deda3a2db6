section FAN
variable {t c : Nat} {f : Nat → Nat} {x z : fn_M}
theorem fr_size (h : fr_R t c f x z) : x 46 12 = z 0 38 := by
  obtain ⟨-, -, ⟨g, g1, g2, g3, g4⟩, -⟩ := h.2.2.2.1
  rw [g2, g3]
/-- an end of the client's transfer, as the master sees it -/
theorem fr_end (h : fr_R t c f x z) {m : Nat} (hb : fr_busy m x z) (n d dd n1 d1 : Nat) (b1 b2 : Int32) : ∃ y, fn_ev 0 (n + 2000) (d + 1) 4 [.ref 46, .int b1, .int b2] x = some (y, none) ∧ fr_vv t f x (fr_go n dd y) (fn_ev 1 (n1 + 2000) (d1 + 5) 112 [.ref 0, .int b1, .int b2] z) := by
  rw [ft_Client_end]
  refine ⟨_, rfl, ?_⟩
  unfold fr_go
  rw [if_pos (by simp (disch := omega) only [fw_any, fw_eq])]
  exact fr_over h hb n dd n1 d1 b1 b2
theorem fr_vv_some {o : Option fn_R} {y : fn_M} (h : fr_vv t f x (some (y, none)) o) (hy : ¬ y 46 0 = 0) (n d : Nat) : fr_vv t f x (fr_go n d y) o := by
  unfold fr_go
  rw [if_neg hy]
  exact h
theorem fr_bvv {o1 o2 : Option fn_R} (h : fr_vv t f x o1 o2) : fr_vv t f x o1 (fn_bv o2 (fun y => some (y, none))) := by
  obtain ⟨a, b, c', e1, e2, e3⟩ := h
  exact ⟨a, b, c', e1, by rw [e2, fb_v], e3⟩
theorem fr_ex (h : fr_R t c f x z) {m : Nat} (hb : fr_busy m x z) (h8 : ¬ x 46 8 = 0) (n d dd n1 d1 : Nat) (b : Int32) : ∃ y, fr_exc n (d + 2) b x = some (y, none) ∧ fr_vv t f x (fr_go n dd y) (fr_exm n1 (d1 + 5) b z) := by
  have hb' := hb
  obtain ⟨e0, m1, m2, e2, e27, e1, a3, a4, a5, a1, a8, a9⟩ := hb
  obtain ⟨b1, b2, b3, b4⟩ := a9.resolve_left h8
  have hs := fr_size h
  have h24 := fr_p24 h
  unfold fr_exc fr_exm
  rw [← b2, ← hs]
  obtain ⟨y, q1, q2⟩ := fr_end h hb' n (d + 1) dd n1 d1 0 (x 46 12)
  by_cases g : x 46 9 ≤ x 46 12
  · rw [if_pos g, if_pos g, q1, fb_v]
    exact ⟨y, rfl, fr_bvv q2⟩
  · rw [if_neg g, if_neg g]
    by_cases g2 : 2 ≤ b
    · rw [if_pos g2, if_pos g2]
      have h3 := fr_s_tog h hb' h8
      obtain ⟨s, s', c', r1, r2, r3, r4, r5⟩ := fr_askon h3 (m := m) (w := 1 - z 0 37) (by rw [fw_nj (by decide)]; exact e2) (by rw [fw_nj (by decide)]; exact e27) n d n1 (d1 + 3) (by rw [fw_eq, b3])
      rw [r1, r2, fb_v, fb_v]
      refine ⟨s, rfl, fr_vv_some ⟨s, s', c', rfl, rfl, r3, ?_⟩ ?_ n dd⟩
      · rw [r4, fw_row (by omega)]
      · rw [r5, fw_nj (by decide), e0]
        decide
    · rw [if_neg g2, if_neg g2, q1, fb_v]
      exact ⟨y, rfl, fr_bvv q2⟩
theorem fr_vv_tr {x' : fn_M} {o1 o2 : Option fn_R} (h : fr_vv t f x' o1 o2) (e : x' (f 24) = x (f 24)) : fr_vv t f x o1 o2 := by
  obtain ⟨a, b, c', e1, e2, e3, e4⟩ := h
  exact ⟨a, b, c', e1, e2, e3, e4.trans e⟩
/-- a part of a text -/
theorem fr_part (h : fr_R t c f x z) {m : Nat} (hb : fr_busy m x z) (h8 : ¬ x 46 8 = 0) (n d dd n1 d1 : Nat) (b w : Int32) : ∃ y, fn_ev 0 (n + 2000) (d + 3) 7 [.ref 46, .int b, .int w, .ref 1] x = some (y, none) ∧ fr_vv t f x (fr_go n dd y) (fn_ev 1 (n1 + 2000) (d1 + 6) 111 [.ref 0, .int b, .int w] z) := by
  rw [ft_Client_takePart n (d + 2), ft_Math_min n (d + 1), ft_Model_collect n1 (d1 + 5)]
  generalize hq : ((b >>> ((1 : Int32) &&& 31)) &&& 7) = q
  have key : ∀ (L : Int32), L ≤ 4 → ∀ j, j = 1987 ∨ j = 1986 → ∃ y, fn_run 0 (fn_ev 0 (n + 2000) (d + 2)) (fn_lk fn_d7) (n + 1990) 15 [(0, .ref 46), (1, .int b), (2, .int w), (3, .ref 1), (4, .int L), (5, .int 0)] [] x = some (y, none) ∧ fr_vv t f x (fr_go n dd y) (fn_run 1 (fn_ev 1 (n1 + 2000) (d1 + 5)) (fn_lk fn_d111) (n1 + j) 21 [(0, .ref 0), (1, .int b), (2, .int w), (3, .int L), (4, .int 0)] [] z) := by
    intro L hL j hj
    obtain ⟨x', z', p1, p2, p3, p4, p5, p6⟩ := fr_loop (t := t) (c := c) (f := f) n (d + 2) n1 (d1 + 5) b w L hL (m0 := m) 4 0 (n + 1855) (n1 + (j - 140)) x z (by decide) h hb
    rw [show n + 1855 + 27 * (4 + 1) = n + 1990 by omega, show nI 0 = 0 from rfl] at p1
    rw [show n1 + (j - 140) + 28 * (4 + 1) = n1 + j by omega, show nI 0 = 0 from rfl] at p2
    obtain ⟨y, q1, q2⟩ := fr_ex p3 p4 (by rw [p5]; exact h8) n d dd n1 d1 b
    rw [p1, p2, q1]
    exact ⟨y, rfl, fr_vv_tr q2 p6⟩
  by_cases g : q < 4
  · have g4 : q ≤ 4 := Int32.le_of_lt g
    rw [if_pos g, fb_i, if_pos g4]
    exact key q g4 1987 (Or.inl rfl)
  · rw [if_neg g, fb_i]
    by_cases g4 : q ≤ 4
    · have e4 : q = 4 := by
        rw [Int32.lt_iff_toInt_lt] at g
        rw [Int32.le_iff_toInt_le] at g4
        apply Int32.toInt_inj.mp
        omega
      rw [if_pos g4, e4]
      exact key 4 (by decide) 1987 (Or.inl rfl)
    · rw [if_neg g4]
      exact key 4 (by decide) 1986 (Or.inr rfl)
end FAN
