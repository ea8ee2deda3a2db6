section FMB
variable {t c : Nat} {f : Nat → Nat} {x z : fn_M}
theorem fr_s_fb (h : fr_R t c f x z) (i1 : x 46 0 = 0) (i2 : z 0 27 = 0) (v : Int32) : fr_R t c f (fn_w x 46 1 v) z := by
  obtain ⟨d1, d2, d3, -⟩ := h.2.2.2.1
  refine fr_Rc h (fun q b1 b2 => ?_) (fun q b1 b2 => rfl) (fun j b1 => rfl) ?_
  · simp (disch := omega) only [fw_row]
  · unfold fr_c
    simp (disch := omega) only [fw_any, fw_row]
    exact ⟨d1, d2, d3, Or.inl ⟨i1, i2⟩⟩
theorem fr_idle27 (h : fr_R t c f x z) (b0 : x 46 0 = 0) : z 0 27 = 0 := by
  obtain ⟨-, -, -, d4⟩ := h.2.2.2.1
  rcases d4 with d4 | d4
  · exact d4.2
  · exact absurd (b0.symm.trans d4.1) (by decide)
/-- the client is late -/
theorem fr_late (h : fr_R t c f x z) (n d n1 d1 u v : Nat) : ∃ x' z' c' u' v', fn_run 0 (fn_ev 0 (n + 2000) (d + 4)) (fn_lk fn_d15) (u + 27) 70 [(0, .ref 45), (1, .ref 1), (2, .int 4)] [] x = fn_run 0 (fn_ev 0 (n + 2000) (d + 4)) (fn_lk fn_d15) (u' + 8) 105 [(0, .ref 45), (1, .ref 1), (2, .int 5)] [] x' ∧
    fn_run 1 (fn_ev 1 (n1 + 2000) (d1 + 5)) (fn_lk fn_d115) (v + 80) 89 [(0, .ref 0), (1, .int 4)] [] z = fn_run 1 (fn_ev 1 (n1 + 2000) (d1 + 5)) (fn_lk fn_d115) (v' + 63) 120 [(0, .ref 0), (1, .int 5)] [] z' ∧ fr_R t c' f x' z' ∧ x' (f 24) = x (f 24) := by
  rw [ft_Master_live_at70_4 n (d + 4), ft_Model_lead_at89_4 n1 (d1 + 5), ft_Client_isLate n (d + 3), (fr_now h).1, (fr_now h).2]
  by_cases b0 : x 46 0 = 0
  · rw [if_pos b0, fb_i, if_pos rfl, fr_idle27 h b0, if_pos (by decide)]
    exact ⟨x, z, c, u + 8, v + 9, rfl, rfl, h, rfl⟩
  · obtain ⟨m, hb⟩ := fr_busy_of h b0
    have hm1 : 1 ≤ m := hb.2.1
    have hm4 : m ≤ 4 := hb.2.2.1
    have h5 : x 46 5 = z 0 30 := hb.2.2.2.2.2.2.2.2.1
    rw [if_neg b0, hb.2.2.2.2.1, if_neg (nI_nle (by omega) (by omega)), h5]
    by_cases g : nI t < z 0 30
    · rw [if_pos g, if_pos g, fb_i, if_pos rfl]
      exact ⟨x, z, c, u + 8, v + 4, rfl, rfl, h, rfl⟩
    · rw [if_neg g, if_neg g, fb_i, if_neg fr_10, ft_Client_end n (d + 3), fb_v]
      obtain ⟨y, y', c', q1, q2, q3, q4⟩ := fr_over h hb n d n1 d1 7 0
      rw [q1, q2, fb_v, fb_v]
      exact ⟨y, y', c', u, v, rfl, rfl, q3, q4⟩
theorem fr_bb1 (h : fr_R t c f x z) (i1 : x 46 0 = 0) (n d n1 d1 v : Nat) : fr_vv t f x (fn_bv (fn_ev 0 (n + 2000) (d + 2) 0 [.ref 46, .int 1, .int 0, .ref 1] (fn_w (fn_w x 49 2 2) 46 1 1)) (fun y4 => some (y4, none)))
    (fn_run 1 (fn_ev 1 (n1 + 2000) (d1 + 3)) (fn_lk fn_d115) (v + 19) 143 [(0, .ref 0), (1, .int 1)] [] z) := by
  have i2 := fr_idle27 h i1
  have h24 := fr_p24 h
  have r1 : fr_R t c f (fn_w x 49 2 2) (fn_w z 20 1 2) := fr_s_phase h (m := 1) (by decide) (by decide) i1 i2 2
  have r2 := fr_s_fb r1 (by simp (disch := omega) only [fw_any]; exact i1) (by simp (disch := omega) only [fw_any]; exact i2) 1
  rw [ft_Model_lead_at143_1 n1 (d1 + 3), if_pos i2, ft_Client_beginRead n (d + 1)]
  obtain ⟨y, y', c', q1, q2, q3, q4⟩ := fr_beg r2 (m := 1) (by decide) (by decide) n d n1 d1 0 0 0 2 1 (Or.inl ⟨rfl, rfl⟩) fw_eq (Or.inr ⟨rfl, Or.inl (by simp (disch := omega) only [fw_any, fw_eq])⟩)
  simp only [show nI 1 = 1 from rfl] at q1 q2
  rw [q1, q2, fb_v, fb_v, ft_Model_lead_at171_1 n1 (d1 + 3)]
  refine ⟨y, y', c', rfl, rfl, q3, ?_⟩
  rw [q4, fw_row (by omega), fw_row (by omega)]
theorem fr_bb2 (h : fr_R t c f x z) (i1 : x 46 0 = 0) (n d n1 d1 v : Nat) : fr_vv t f x (fn_bv (fn_ev 0 (n + 2000) (d + 2) 0 [.ref 46, .int 2, .int 0, .ref 1] (fn_w (fn_w x 50 2 2) 46 1 1)) (fun y4 => some (y4, none)))
    (fn_run 1 (fn_ev 1 (n1 + 2000) (d1 + 3)) (fn_lk fn_d115) (v + 19) 143 [(0, .ref 0), (1, .int 2)] [] z) := by
  have i2 := fr_idle27 h i1
  have h24 := fr_p24 h
  have r1 : fr_R t c f (fn_w x 50 2 2) (fn_w z 20 2 2) := fr_s_phase h (m := 2) (by decide) (by decide) i1 i2 2
  have r2 := fr_s_fb r1 (by simp (disch := omega) only [fw_any]; exact i1) (by simp (disch := omega) only [fw_any]; exact i2) 1
  rw [ft_Model_lead_at143_2 n1 (d1 + 3), if_pos i2, ft_Client_beginRead n (d + 1)]
  obtain ⟨y, y', c', q1, q2, q3, q4⟩ := fr_beg r2 (m := 2) (by decide) (by decide) n d n1 d1 0 0 0 2 1 (Or.inl ⟨rfl, rfl⟩) fw_eq (Or.inr ⟨rfl, Or.inl (by simp (disch := omega) only [fw_any, fw_eq])⟩)
  simp only [show nI 2 = 2 from rfl] at q1 q2
  rw [q1, q2, fb_v, fb_v, ft_Model_lead_at171_2 n1 (d1 + 3)]
  refine ⟨y, y', c', rfl, rfl, q3, ?_⟩
  rw [q4, fw_row (by omega), fw_row (by omega)]
theorem fr_bb3 (h : fr_R t c f x z) (i1 : x 46 0 = 0) (n d n1 d1 v : Nat) : fr_vv t f x (fn_bv (fn_ev 0 (n + 2000) (d + 2) 0 [.ref 46, .int 3, .int 0, .ref 1] (fn_w (fn_w x 51 2 2) 46 1 1)) (fun y4 => some (y4, none)))
    (fn_run 1 (fn_ev 1 (n1 + 2000) (d1 + 3)) (fn_lk fn_d115) (v + 19) 143 [(0, .ref 0), (1, .int 3)] [] z) := by
  have i2 := fr_idle27 h i1
  have h24 := fr_p24 h
  have r1 : fr_R t c f (fn_w x 51 2 2) (fn_w z 20 3 2) := fr_s_phase h (m := 3) (by decide) (by decide) i1 i2 2
  have r2 := fr_s_fb r1 (by simp (disch := omega) only [fw_any]; exact i1) (by simp (disch := omega) only [fw_any]; exact i2) 1
  rw [ft_Model_lead_at143_3 n1 (d1 + 3), if_pos i2, ft_Client_beginRead n (d + 1)]
  obtain ⟨y, y', c', q1, q2, q3, q4⟩ := fr_beg r2 (m := 3) (by decide) (by decide) n d n1 d1 0 0 0 2 1 (Or.inl ⟨rfl, rfl⟩) fw_eq (Or.inr ⟨rfl, Or.inl (by simp (disch := omega) only [fw_any, fw_eq])⟩)
  simp only [show nI 3 = 3 from rfl] at q1 q2
  rw [q1, q2, fb_v, fb_v, ft_Model_lead_at171_3 n1 (d1 + 3)]
  refine ⟨y, y', c', rfl, rfl, q3, ?_⟩
  rw [q4, fw_row (by omega), fw_row (by omega)]
theorem fr_bb4 (h : fr_R t c f x z) (i1 : x 46 0 = 0) (n d n1 d1 v : Nat) : fr_vv t f x (fn_bv (fn_ev 0 (n + 2000) (d + 2) 0 [.ref 46, .int 4, .int 0, .ref 1] (fn_w (fn_w x 52 2 2) 46 1 1)) (fun y4 => some (y4, none)))
    (fn_run 1 (fn_ev 1 (n1 + 2000) (d1 + 3)) (fn_lk fn_d115) (v + 19) 143 [(0, .ref 0), (1, .int 4)] [] z) := by
  have i2 := fr_idle27 h i1
  have h24 := fr_p24 h
  have r1 : fr_R t c f (fn_w x 52 2 2) (fn_w z 20 4 2) := fr_s_phase h (m := 4) (by decide) (by decide) i1 i2 2
  have r2 := fr_s_fb r1 (by simp (disch := omega) only [fw_any]; exact i1) (by simp (disch := omega) only [fw_any]; exact i2) 1
  rw [ft_Model_lead_at143_4 n1 (d1 + 3), if_pos i2, ft_Client_beginRead n (d + 1)]
  obtain ⟨y, y', c', q1, q2, q3, q4⟩ := fr_beg r2 (m := 4) (by decide) (by decide) n d n1 d1 0 0 0 2 1 (Or.inl ⟨rfl, rfl⟩) fw_eq (Or.inr ⟨rfl, Or.inl (by simp (disch := omega) only [fw_any, fw_eq])⟩)
  simp only [show nI 4 = 4 from rfl] at q1 q2
  rw [q1, q2, fb_v, fb_v, ft_Model_lead_at171_4 n1 (d1 + 3)]
  refine ⟨y, y', c', rfl, rfl, q3, ?_⟩
  rw [q4, fw_row (by omega), fw_row (by omega)]
/-- the master's part of a tick -/
theorem fr_mlive (h : fr_R t c f x z) (n d n1 d1 : Nat) : fr_vv t f x (fn_ev 0 (n + 2000) (d + 5) 15 [.ref 45, .ref 1] x) (fn_ev 1 (n1 + 2000) (d1 + 6) 115 [.ref 0] z) := by
  have h24 := fr_p24 h
  have start : ∃ x' z' c' u v, fn_ev 0 (n + 2000) (d + 5) 15 [.ref 45, .ref 1] x = fn_run 0 (fn_ev 0 (n + 2000) (d + 4)) (fn_lk fn_d15) (u + 123) 30 [(0, .ref 45), (1, .ref 1)] [] x' ∧ fn_ev 1 (n1 + 2000) (d1 + 6) 115 [.ref 0] z = fn_run 1 (fn_ev 1 (n1 + 2000) (d1 + 5)) (fn_lk fn_d115) (v + 228) 30 [(0, .ref 0)] [] z' ∧ fr_R t c' f x' z' ∧ x' (f 24) = x (f 24) := by
    obtain ⟨p1, ⟨p, p2, p3⟩, -⟩ := h.2.2.2.2
    rw [ft_Master_live n (d + 4), ft_Model_lead n1 (d1 + 5), ← p1, p3, (fr_now h).1, (fr_now h).2]
    by_cases p0 : p = 0
    · subst p0
      rw [if_pos (by decide), if_pos (by decide)]
      exact ⟨x, z, c, n + 1874, n1 + 1769, rfl, rfl, h, rfl⟩
    · have hp : ¬ nI p ≤ 0 := nI_nle (by omega) (by omega)
      have hp2 : ¬ nI p = 0 := nI_ne0 (by omega) (by omega)
      rw [if_neg hp, if_neg hp, if_neg hp2, if_neg hp2]
      by_cases g : nI t - nI t / nI p * nI p = 0
      · obtain ⟨y, y', c', q1, q2, q3, q4⟩ := fr_Rput h n (d + 3) n1 (d1 + 4) 0 128 0 0 0 0 fr_fr0
        rw [if_pos g, if_pos g, q1, q2, fb_v, fb_v]
        exact ⟨y, y', c', n + 1861, n1 + 1756, rfl, rfl, q3, q4.1 _ (Or.inr rfl)⟩
      · rw [if_neg g, if_neg g]
        exact ⟨x, z, c, n + 1868, n1 + 1763, rfl, rfl, h, rfl⟩
  obtain ⟨x0, z0, c0, u0, v0, s1, s2, s3, s4⟩ := start
  obtain ⟨x1, z1, u1, v1, a1, a2, a3, a4⟩ := fr_ms1 s3 n (d + 3) n1 (d1 + 4) u0 v0
  obtain ⟨x2, z2, u2, v2, b1, b2, b3, b4⟩ := fr_ms2 a3 n (d + 3) n1 (d1 + 4) u1 v1
  obtain ⟨x3, z3, u3, v3, e1, e2, e3, e4⟩ := fr_ms3 b3 n (d + 3) n1 (d1 + 4) u2 v2
  obtain ⟨x4, z4, u4, v4, g1, g2, g3, g4⟩ := fr_ms4 e3 n (d + 3) n1 (d1 + 4) u3 v3
  obtain ⟨x5, z5, c5, u5, v5, k1, k2, k3, k4⟩ := fr_late g3 n d n1 d1 u4 v4
  rw [s1, s2, a1, a2, b1, b2, e1, e2, g1, g2, k1, k2]
  have hx : x5 (f 24) = x (f 24) := k4.trans (g4.trans (e4.trans (b4.trans (a4.trans s4))))
  refine fr_vv_tr ?_ hx
  rw [ft_Master_live_at105_5 n (d + 4), ft_Model_lead_at120_5 n1 (d1 + 5)]
  have ph : ∀ k, 1 ≤ k → k ≤ 4 → x5 (48 + k) 2 = z5 20 k := fun k q1 q2 => (k3.2.2.1 k q1 q2).2.2.2.2.1
  rw [← ph 1 (by decide) (by decide), ← ph 2 (by decide) (by decide), ← ph 3 (by decide) (by decide), ← ph 4 (by decide) (by decide)]
  by_cases i1 : x5 46 0 = 0
  · have i2 := fr_idle27 k3 i1
    rw [if_pos i1, ft_Master_beginBoot n (d + 3)]
    simp only [Nat.reduceAdd]
    by_cases w1 : x5 49 2 = 1
    · rw [if_pos w1, if_pos w1]
      obtain ⟨s, s', c', r1, r2, r3⟩ := fr_bb1 k3 i1 n (d + 1) n1 (d1 + 2) (v5 + 33)
      rw [r1, fb_v, ft_Master_live_at120_5 n (d + 4), r2]
      exact ⟨s, s', c', rfl, rfl, r3⟩
    · rw [if_neg w1, if_neg w1]
      by_cases w2 : x5 50 2 = 1
      · rw [if_pos w2, if_pos w2]
        obtain ⟨s, s', c', r1, r2, r3⟩ := fr_bb2 k3 i1 n (d + 1) n1 (d1 + 2) (v5 + 22)
        rw [r1, fb_v, ft_Master_live_at120_5 n (d + 4), r2]
        exact ⟨s, s', c', rfl, rfl, r3⟩
      · rw [if_neg w2, if_neg w2]
        by_cases w3 : x5 51 2 = 1
        · rw [if_pos w3, if_pos w3]
          obtain ⟨s, s', c', r1, r2, r3⟩ := fr_bb3 k3 i1 n (d + 1) n1 (d1 + 2) (v5 + 11)
          rw [r1, fb_v, ft_Master_live_at120_5 n (d + 4), r2]
          exact ⟨s, s', c', rfl, rfl, r3⟩
        · rw [if_neg w3, if_neg w3]
          by_cases w4 : x5 52 2 = 1
          · rw [if_pos w4, if_pos w4]
            obtain ⟨s, s', c', r1, r2, r3⟩ := fr_bb4 k3 i1 n (d + 1) n1 (d1 + 2) v5
            rw [r1, fb_v, ft_Master_live_at120_5 n (d + 4), r2]
            exact ⟨s, s', c', rfl, rfl, r3⟩
          · rw [if_neg w4, if_neg w4, fb_v, ft_Master_live_at120_5 n (d + 4), ft_Model_lead_at143_5 n1 (d1 + 5), if_pos i2, ft_Model_lead_at171_5 n1 (d1 + 5)]
            exact ⟨x5, z5, c5, rfl, rfl, k3, rfl⟩
  · obtain ⟨m, hb⟩ := fr_busy_of k3 i1
    have hm4 : m ≤ 4 := hb.2.2.1
    have hm1 : 1 ≤ m := hb.2.1
    have z27 : ¬ z5 0 27 = 0 := by rw [hb.2.2.2.2.1]; exact nI_ne0 (by omega) (by omega)
    rw [if_neg i1, ft_Master_live_at120_5 n (d + 4)]
    simp only [Nat.reduceAdd]
    have fin : fr_vv t f x5 (some (x5, none)) (some (z5, none)) := ⟨x5, z5, c5, rfl, rfl, k3, rfl⟩
    by_cases w1 : x5 49 2 = 1
    · rw [if_pos w1, ft_Model_lead_at143_1 n1 (d1 + 5), if_neg z27, ft_Model_lead_at171_1 n1 (d1 + 5)]
      exact fin
    · rw [if_neg w1]
      by_cases w2 : x5 50 2 = 1
      · rw [if_pos w2, ft_Model_lead_at143_2 n1 (d1 + 5), if_neg z27, ft_Model_lead_at171_2 n1 (d1 + 5)]
        exact fin
      · rw [if_neg w2]
        by_cases w3 : x5 51 2 = 1
        · rw [if_pos w3, ft_Model_lead_at143_3 n1 (d1 + 5), if_neg z27, ft_Model_lead_at171_3 n1 (d1 + 5)]
          exact fin
        · rw [if_neg w3]
          by_cases w4 : x5 52 2 = 1
          · rw [if_pos w4, ft_Model_lead_at143_4 n1 (d1 + 5), if_neg z27, ft_Model_lead_at171_4 n1 (d1 + 5)]
            exact fin
          · rw [if_neg w4, ft_Model_lead_at143_5 n1 (d1 + 5), if_neg z27, ft_Model_lead_at171_5 n1 (d1 + 5)]
            exact fin
end FMB
