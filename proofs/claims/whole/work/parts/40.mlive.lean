/-! ===== the master's part of a tick ===== -/
section FML
variable {t c : Nat} {f : Nat → Nat} {x z : fn_M}
/-- whether a node is missed -/
theorem fe_mis (h : fr_R t c f x z) {k : Nat} (h1 : 1 ≤ k) (h2 : k ≤ 4) (n d : Nat) : (fn_ev 0 (n + 2000) (d + 1) 25 [.ref (48 + k), .int (x 1 6)] x = some (x, some (.int 0)) ∧ (z 16 k ≤ 0 ∨ (¬ z 16 k ≤ 0 ∧ z 21 k < 0) ∨ (¬ z 16 k ≤ 0 ∧ ¬ z 21 k < 0 ∧ z 0 0 < z 21 k + z 16 k))) ∨
    (fn_ev 0 (n + 2000) (d + 1) 25 [.ref (48 + k), .int (x 1 6)] x = some (x, some (.int 1)) ∧ ¬ z 16 k ≤ 0 ∧ ¬ z 21 k < 0 ∧ ¬ z 0 0 < z 21 k + z 16 k) := by
  obtain ⟨a1, a2, a3, ⟨p, p1, p2⟩, a5, a6, a7, -⟩ := h.2.2.1 k h1 h2
  have ht := fr_t h
  rw [fk_Member_isMissed n d h1 h2, ← a3, ← a6, p2, (fr_now h).1, (fr_now h).2]
  by_cases p0 : p = 0
  · subst p0
    rw [if_pos (by decide)]
    exact Or.inl ⟨rfl, Or.inl (by decide)⟩
  · have hp : ¬ nI p ≤ 0 := nI_nle (by omega) (by omega)
    rw [if_neg hp]
    rcases a7 with e | ⟨b, b1, b2⟩
    · rw [e, if_pos rfl]
      exact Or.inl ⟨rfl, Or.inr (Or.inl ⟨hp, by decide⟩)⟩
    · rw [b2, if_neg (fr_neg1 (by omega)), fr_sub b1, nI_add]
      have hb : ¬ nI b < 0 := nI_pos (by omega)
      by_cases g : t - b < p
      · rw [if_pos (nI_lt g (by omega))]
        exact Or.inl ⟨rfl, Or.inr (Or.inr ⟨hp, hb, nI_lt (by omega) (by omega)⟩)⟩
      · rw [if_neg (nI_nlt (by omega) (by omega))]
        exact Or.inr ⟨rfl, hp, hb, nI_nlt (by omega) (by omega)⟩
theorem fr_ms1 (h : fr_R t c f x z) (n d n1 d1 u v : Nat) : ∃ x' z' u' v', fn_run 0 (fn_ev 0 (n + 2000) (d + 1)) (fn_lk fn_d15) (u + 123) 30 [(0, .ref 45), (1, .ref 1)] [] x = fn_run 0 (fn_ev 0 (n + 2000) (d + 1)) (fn_lk fn_d15) (u' + 99) 70 [(0, .ref 45), (1, .ref 1), (2, .int 1)] [] x' ∧
    fn_run 1 (fn_ev 1 (n1 + 2000) (d1 + 1)) (fn_lk fn_d115) (v + 228) 30 [(0, .ref 0)] [] z = fn_run 1 (fn_ev 1 (n1 + 2000) (d1 + 1)) (fn_lk fn_d115) (v' + 191) 89 [(0, .ref 0), (1, .int 1)] [] z' ∧ fr_R t c f x' z' ∧ x' (f 24) = x (f 24) := by
  have h24 := fr_p24 h
  have e := fe_mis h (k := 1) (by decide) (by decide) n d
  simp only [Nat.reduceAdd] at e
  rw [ft_Master_live_at30 n (d + 1), ft_Model_lead_at30 n1 (d1 + 1)]
  rcases e with ⟨e1, e2⟩ | ⟨e1, g1, g2, g3⟩
  · rw [e1, fb_i, if_pos rfl]
    rcases e2 with g1 | ⟨g1, g2⟩ | ⟨g1, g2, g3⟩
    · rw [if_pos g1]
      exact ⟨x, z, u + 11, v + 27, rfl, rfl, h, rfl⟩
    · rw [if_neg g1, if_pos g2]
      exact ⟨x, z, u + 11, v + 22, rfl, rfl, h, rfl⟩
    · rw [if_neg g1, if_neg g2, if_pos g3]
      exact ⟨x, z, u + 11, v + 10, rfl, rfl, h, rfl⟩
  · have r : fr_R t c f (fn_w x 49 3 (-1)) (fn_w z 21 1 (-1)) := fr_s_mheard h (m := 1) (by decide) (by decide) (Or.inl rfl)
    obtain ⟨y, y', q1, q2, q3, q4, q5, q6⟩ := fr_note r n d n1 d1 4 1 0
    rw [e1, fb_i, if_neg fr_10, if_neg g1, if_neg g2, if_neg g3, q1, q2, fb_v, fb_v]
    refine ⟨y, y', u, v, rfl, rfl, q3, ?_⟩
    rw [q4 _ (by omega) (by omega), fw_row (by omega)]
theorem fr_ms2 (h : fr_R t c f x z) (n d n1 d1 u v : Nat) : ∃ x' z' u' v', fn_run 0 (fn_ev 0 (n + 2000) (d + 1)) (fn_lk fn_d15) (u + 99) 70 [(0, .ref 45), (1, .ref 1), (2, .int 1)] [] x = fn_run 0 (fn_ev 0 (n + 2000) (d + 1)) (fn_lk fn_d15) (u' + 75) 70 [(0, .ref 45), (1, .ref 1), (2, .int 2)] [] x' ∧
    fn_run 1 (fn_ev 1 (n1 + 2000) (d1 + 1)) (fn_lk fn_d115) (v + 191) 89 [(0, .ref 0), (1, .int 1)] [] z = fn_run 1 (fn_ev 1 (n1 + 2000) (d1 + 1)) (fn_lk fn_d115) (v' + 154) 89 [(0, .ref 0), (1, .int 2)] [] z' ∧ fr_R t c f x' z' ∧ x' (f 24) = x (f 24) := by
  have h24 := fr_p24 h
  have e := fe_mis h (k := 2) (by decide) (by decide) n d
  simp only [Nat.reduceAdd] at e
  rw [ft_Master_live_at70_1 n (d + 1), ft_Model_lead_at89_1 n1 (d1 + 1)]
  rcases e with ⟨e1, e2⟩ | ⟨e1, g1, g2, g3⟩
  · rw [e1, fb_i, if_pos rfl]
    rcases e2 with g1 | ⟨g1, g2⟩ | ⟨g1, g2, g3⟩
    · rw [if_pos g1]
      exact ⟨x, z, u + 11, v + 27, rfl, rfl, h, rfl⟩
    · rw [if_neg g1, if_pos g2]
      exact ⟨x, z, u + 11, v + 22, rfl, rfl, h, rfl⟩
    · rw [if_neg g1, if_neg g2, if_pos g3]
      exact ⟨x, z, u + 11, v + 10, rfl, rfl, h, rfl⟩
  · have r : fr_R t c f (fn_w x 50 3 (-1)) (fn_w z 21 2 (-1)) := fr_s_mheard h (m := 2) (by decide) (by decide) (Or.inl rfl)
    obtain ⟨y, y', q1, q2, q3, q4, q5, q6⟩ := fr_note r n d n1 d1 4 2 0
    rw [e1, fb_i, if_neg fr_10, if_neg g1, if_neg g2, if_neg g3, q1, q2, fb_v, fb_v]
    refine ⟨y, y', u, v, rfl, rfl, q3, ?_⟩
    rw [q4 _ (by omega) (by omega), fw_row (by omega)]
theorem fr_ms3 (h : fr_R t c f x z) (n d n1 d1 u v : Nat) : ∃ x' z' u' v', fn_run 0 (fn_ev 0 (n + 2000) (d + 1)) (fn_lk fn_d15) (u + 75) 70 [(0, .ref 45), (1, .ref 1), (2, .int 2)] [] x = fn_run 0 (fn_ev 0 (n + 2000) (d + 1)) (fn_lk fn_d15) (u' + 51) 70 [(0, .ref 45), (1, .ref 1), (2, .int 3)] [] x' ∧
    fn_run 1 (fn_ev 1 (n1 + 2000) (d1 + 1)) (fn_lk fn_d115) (v + 154) 89 [(0, .ref 0), (1, .int 2)] [] z = fn_run 1 (fn_ev 1 (n1 + 2000) (d1 + 1)) (fn_lk fn_d115) (v' + 117) 89 [(0, .ref 0), (1, .int 3)] [] z' ∧ fr_R t c f x' z' ∧ x' (f 24) = x (f 24) := by
  have h24 := fr_p24 h
  have e := fe_mis h (k := 3) (by decide) (by decide) n d
  simp only [Nat.reduceAdd] at e
  rw [ft_Master_live_at70_2 n (d + 1), ft_Model_lead_at89_2 n1 (d1 + 1)]
  rcases e with ⟨e1, e2⟩ | ⟨e1, g1, g2, g3⟩
  · rw [e1, fb_i, if_pos rfl]
    rcases e2 with g1 | ⟨g1, g2⟩ | ⟨g1, g2, g3⟩
    · rw [if_pos g1]
      exact ⟨x, z, u + 11, v + 27, rfl, rfl, h, rfl⟩
    · rw [if_neg g1, if_pos g2]
      exact ⟨x, z, u + 11, v + 22, rfl, rfl, h, rfl⟩
    · rw [if_neg g1, if_neg g2, if_pos g3]
      exact ⟨x, z, u + 11, v + 10, rfl, rfl, h, rfl⟩
  · have r : fr_R t c f (fn_w x 51 3 (-1)) (fn_w z 21 3 (-1)) := fr_s_mheard h (m := 3) (by decide) (by decide) (Or.inl rfl)
    obtain ⟨y, y', q1, q2, q3, q4, q5, q6⟩ := fr_note r n d n1 d1 4 3 0
    rw [e1, fb_i, if_neg fr_10, if_neg g1, if_neg g2, if_neg g3, q1, q2, fb_v, fb_v]
    refine ⟨y, y', u, v, rfl, rfl, q3, ?_⟩
    rw [q4 _ (by omega) (by omega), fw_row (by omega)]
theorem fr_ms4 (h : fr_R t c f x z) (n d n1 d1 u v : Nat) : ∃ x' z' u' v', fn_run 0 (fn_ev 0 (n + 2000) (d + 1)) (fn_lk fn_d15) (u + 51) 70 [(0, .ref 45), (1, .ref 1), (2, .int 3)] [] x = fn_run 0 (fn_ev 0 (n + 2000) (d + 1)) (fn_lk fn_d15) (u' + 27) 70 [(0, .ref 45), (1, .ref 1), (2, .int 4)] [] x' ∧
    fn_run 1 (fn_ev 1 (n1 + 2000) (d1 + 1)) (fn_lk fn_d115) (v + 117) 89 [(0, .ref 0), (1, .int 3)] [] z = fn_run 1 (fn_ev 1 (n1 + 2000) (d1 + 1)) (fn_lk fn_d115) (v' + 80) 89 [(0, .ref 0), (1, .int 4)] [] z' ∧ fr_R t c f x' z' ∧ x' (f 24) = x (f 24) := by
  have h24 := fr_p24 h
  have e := fe_mis h (k := 4) (by decide) (by decide) n d
  simp only [Nat.reduceAdd] at e
  rw [ft_Master_live_at70_3 n (d + 1), ft_Model_lead_at89_3 n1 (d1 + 1)]
  rcases e with ⟨e1, e2⟩ | ⟨e1, g1, g2, g3⟩
  · rw [e1, fb_i, if_pos rfl]
    rcases e2 with g1 | ⟨g1, g2⟩ | ⟨g1, g2, g3⟩
    · rw [if_pos g1]
      exact ⟨x, z, u + 11, v + 27, rfl, rfl, h, rfl⟩
    · rw [if_neg g1, if_pos g2]
      exact ⟨x, z, u + 11, v + 22, rfl, rfl, h, rfl⟩
    · rw [if_neg g1, if_neg g2, if_pos g3]
      exact ⟨x, z, u + 11, v + 10, rfl, rfl, h, rfl⟩
  · have r : fr_R t c f (fn_w x 52 3 (-1)) (fn_w z 21 4 (-1)) := fr_s_mheard h (m := 4) (by decide) (by decide) (Or.inl rfl)
    obtain ⟨y, y', q1, q2, q3, q4, q5, q6⟩ := fr_note r n d n1 d1 4 4 0
    rw [e1, fb_i, if_neg fr_10, if_neg g1, if_neg g2, if_neg g3, q1, q2, fb_v, fb_v]
    refine ⟨y, y', u, v, rfl, rfl, q3, ?_⟩
    rw [q4 _ (by omega) (by omega), fw_row (by omega)]
end FML
