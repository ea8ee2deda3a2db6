section FL
variable {t c k : Nat} {f : Nat → Nat} {x z : fn_M}
theorem fr_neg1 {b : Nat} (h : b < 2147483648) : ¬ nI b = -1 := fun e => by
  have := congrArg Int32.toInt e
  rw [nI_toInt (by omega), show (-1 : Int32).toInt = -1 from rfl] at this
  omega
/-- the beat, if it is due -/
theorem fr_beat (h : fr_R t c f x z) (h1 : 1 ≤ k) (h2 : k ≤ 4) (n d n1 d1 : Nat) : ∃ x' z' c' m, fn_ev 0 (n + 2000) (d + 2) 38 [.ref (28 + k), .ref 1] x = some (x', none) ∧
    fn_ev 1 (n1 + 2000) (d1 + 3) 104 [.ref 0, .int (nI k)] z = fn_run 1 (fn_ev 1 (n1 + 2000) (d1 + 2)) (fn_lk fn_d104) (m + 85) 57 [(0, .ref 0), (1, .int (nI k))] [] z' ∧ fr_R t c' f x' z' ∧ x' (f 24) = x (f 24) := by
  obtain ⟨a1, a2, a3, a4, a5, a6, a7, a8, a9, a10, a11, a12, a13, a14, a15⟩ := h.2.1 k h1 h2
  have hcl : (nI k).toNatClampNeg = k := fr_cl (by omega)
  have hix : ¬ (nI k < 0 ∨ 5 ≤ k) := by have := fr_ix (c := k) (N := 5) (by omega) (by decide); rwa [hcl] at this
  have h24 := fr_p24 h
  have ht := fr_t h
  obtain ⟨p, p1, p2⟩ := a5 2 (by decide)
  obtain ⟨b, b1, b2⟩ := a7
  rw [fk_Node_beatIfDue n (d + 1) h1 h2, ft_Model_step n1 (d1 + 2), fe_of (a2 := 2) n1 (d1 + 1) z h2 (j := 2) (by decide) rfl, fb_i, a4 2 (by decide), p2]
  simp only [hcl, if_neg hix]
  by_cases p0 : p = 0
  · subst p0
    rw [if_pos (by decide), if_pos (by decide)]
    exact ⟨x, z, c, n1 + 1910, rfl, rfl, h, rfl⟩
  · rw [if_neg (nI_nle (by omega) (by omega)), if_neg (nI_nle (by omega) (by omega)), fe_of (a2 := 2) n1 (d1 + 1) z h2 (j := 2) (by decide) rfl, fb_i, a4 2 (by decide), p2, (fr_now h).1, (fr_now h).2, ← a6, b2, fr_sub b1, nI_add]
    by_cases g : t - b < p
    · rw [if_pos (nI_lt g (by omega)), if_pos (nI_lt (by omega) (by omega))]
      exact ⟨x, z, c, n1 + 1898, rfl, rfl, h, rfl⟩
    · rw [if_neg (nI_nlt (by omega) (by omega)), if_neg (nI_nlt (by omega) (by omega)), ← a2, a1]
      obtain ⟨y, y', c', q1, q2, q3, q4⟩ := fr_Rput h n d n1 (d1 + 1) (nI k) (1792 + nI k) (x (28 + k) 3) 0 0 (nI k) (fr_frk h1 h2)
      rw [q1, q2, fb_v, fb_v]
      refine ⟨_, _, c', n1 + 1880, rfl, rfl, ?_, ?_⟩
      · rw [(fr_now q3).1, (fr_now q3).2]
        exact fr_s_beat q3 h1 h2 ⟨t, Nat.le_refl _, rfl⟩
      · rw [fw_row (by omega)]
        exact q4.1 _ (Or.inr rfl)
/-- the watched one is missed -/
theorem fr_miss (h : fr_R t c f x z) (h1 : 1 ≤ k) (h2 : k ≤ 4) (n d n1 d1 m : Nat) : ∃ x' z' c' m', fn_ev 0 (n + 2000) (d + 2) 39 [.ref (28 + k), .ref 1] x = some (x', none) ∧
    fn_run 1 (fn_ev 1 (n1 + 2000) (d1 + 2)) (fn_lk fn_d104) (m + 85) 57 [(0, .ref 0), (1, .int (nI k))] [] z = fn_run 1 (fn_ev 1 (n1 + 2000) (d1 + 2)) (fn_lk fn_d104) (m' + 24) 151 [(0, .ref 0), (1, .int (nI k))] [] z' ∧ fr_R t c' f x' z' ∧ x' (f 24) = x (f 24) := by
  obtain ⟨a1, a2, a3, a4, a5, a6, a7, a8, a9, a10, a11, a12, a13, a14, a15⟩ := h.2.1 k h1 h2
  have hcl : (nI k).toNatClampNeg = k := fr_cl (by omega)
  have hix : ¬ (nI k < 0 ∨ 5 ≤ k) := by have := fr_ix (c := k) (N := 5) (by omega) (by decide); rwa [hcl] at this
  have h24 := fr_p24 h
  have ht := fr_t h
  have e16 : (16 : Int32) * nI k + 1 = nI (16 * k + 1) := fr_16 k 1
  have hcl2 : (nI (16 * k + 1)).toNatClampNeg = 16 * k + 1 := fr_cl (by omega)
  have hix2 : ¬ (nI (16 * k + 1) < 0 ∨ 80 ≤ 16 * k + 1) := by have := fr_ix (c := 16 * k + 1) (N := 80) (by omega) (by decide); rwa [hcl2] at this
  rw [fk_Node_missWatched n (d + 1) h1 h2, ft_Model_step_at57 n1 (d1 + 2), fe_of (a2 := 3) n1 (d1 + 1) z h2 (j := 3) (by decide) rfl, fb_i, a4 3 (by decide)]
  simp only [hcl, if_neg hix, e16, hcl2, if_neg hix2]
  rcases a5 3 (by decide) with e | ⟨a, b, g1, g2, g3, g4, g5, g6⟩
  · rw [e, if_pos rfl, if_pos (by decide)]
    exact ⟨x, z, c, m + 56, rfl, rfl, h, rfl⟩
  · obtain ⟨v1, v2⟩ := fr_div (a := a) (b := b) (by omega) (by omega)
    rw [g6, if_neg (nI_ne0 (by omega) (by omega)), if_neg (nI_nle (by omega) (by omega)), ← a12]
    rcases a13 with e | ⟨w, w1, w2⟩
    · rw [e, if_pos rfl, if_pos (by decide)]
      exact ⟨x, z, c, m + 51, rfl, rfl, h, rfl⟩
    · rw [w2, if_neg (fr_neg1 (by omega)), if_neg (nI_pos (by omega)), fe_of (a2 := 3) n1 (d1 + 1) z h2 (j := 3) (by decide) rfl, fb_i, a4 3 (by decide), g6, v2, (fr_now h).1, (fr_now h).2, fr_sub w1, nI_add]
      by_cases g : b ≤ t - w
      · rw [if_pos (nI_le g (by omega)), if_neg (nI_nlt (by omega) (by omega)), a1]
        have h3 := fr_s_obj (j := 1) (v := x (32 + k) 1 ||| 1) (fr_s_heard (v := -1) h h1 h2 (Or.inl rfl)) h1 h2 (by decide) (by decide) trivial
        rw [a4 1 (by decide)]
        obtain ⟨y, y', c', q1, q2, q3, q4⟩ := fr_Rput h3 n d n1 (d1 + 1) (nI k) (128 + nI k) 1 0 0 (nI k) (fr_frk h1 h2)
        rw [q1, q2, fb_v, fb_v, ← (q3.2.1 k h1 h2).2.1]
        have hk : y (f 24) = x (f 24) := by
          rw [q4.1 _ (Or.inr rfl), fw_row (by omega), fw_row (by omega)]
        by_cases h5 : y (28 + k) 3 = 5
        · rw [if_pos h5, if_pos h5]
          refine ⟨_, _, c', m, rfl, rfl, fr_s_state q3 h1 h2 (Or.inr (Or.inr rfl)) (by rw [h5]; decide), ?_⟩
          rw [fw_row (by omega)]
          exact hk
        · rw [if_neg h5, if_neg h5]
          exact ⟨y, y', c', m + 5, rfl, rfl, q3, hk⟩
      · rw [if_neg (fun q => g ((fr_le (by omega) (by omega)).mp q)), if_pos (nI_lt (by omega) (by omega))]
        exact ⟨x, z, c, m + 37, rfl, rfl, h, rfl⟩
/-- a node's part of a tick -/
theorem fr_live (h : fr_R t c f x z) (h1 : 1 ≤ k) (h2 : k ≤ 4) (hon : x (28 + k) 3 ≠ 0) (n d n1 d1 : Nat) : fr_vv t f x (fn_ev 0 (n + 2000) (d + 4) 37 [.ref (28 + k), .ref 1] x) (fn_ev 1 (n1 + 2000) (d1 + 3) 104 [.ref 0, .int (nI k)] z) := by
  have hcl : (nI k).toNatClampNeg = k := fr_cl (by omega)
  have hix : ¬ (nI k < 0 ∨ 5 ≤ k) := by have := fr_ix (c := k) (N := 5) (by omega) (by decide); rwa [hcl] at this
  rw [fk_Node_live n (d + 3) h1 h2, fk_Node_isOn n (d + 2) h1 h2, if_neg hon, fb_i, if_neg (by decide)]
  obtain ⟨x1, z1, c1, m1, p1, p2, p3, p4⟩ := fr_beat h h1 h2 n (d + 1) n1 d1
  rw [p1, p2, fb_v]
  obtain ⟨x2, z2, c2, m2, q1, q2, q3, q4⟩ := fr_miss p3 h1 h2 n (d + 1) n1 d1 m1
  rw [q1, q2, fb_v, fk_Node_sendsOnChange n (d + 2) h1 h2, ft_Model_step_at151 n1 (d1 + 2)]
  simp only [hcl, if_neg hix]
  obtain ⟨a1, a2, a3, a4, a5, a6, a7, a8, a9, a10, a11, a12, a13, a14, a15⟩ := q3.2.1 k h1 h2
  rw [← a2]
  by_cases s5 : x2 (28 + k) 3 = 5
  · rw [if_pos s5, if_pos s5, fe_of (a2 := 4) n1 (d1 + 1) z2 h2 (j := 4) (by decide) rfl, fb_i, a4 4 (by decide)]
    by_cases t0 : x2 (32 + k) 4 = 0
    · rw [if_pos t0, if_pos t0, fb_i, if_neg (by decide), ← a10]
      by_cases hh : x2 (28 + k) 6 = 0
      · rw [if_pos hh, if_pos hh, ft_Model_step_at192 n1 (d1 + 2)]
        exact ⟨x2, z2, c2, rfl, rfl, q3, q4.trans p4⟩
      · obtain ⟨b, hb, r1, r2⟩ := fe_rest q3 h1 h2 n (d + 2) n1 d1
        rw [if_neg hh, if_neg hh, r1, r2, fb_i, fb_i]
        rcases hb with rfl | rfl
        · rw [if_pos rfl, if_pos rfl, ft_Model_step_at192 n1 (d1 + 2)]
          exact ⟨x2, z2, c2, rfl, rfl, q3, q4.trans p4⟩
        · rw [if_neg (by decide), if_neg (by decide)]
          obtain ⟨x3, z3, c3, s1, s2, s3, s4⟩ := fr_send q3 h1 h2 n d n1 d1
          rw [s1, s2, fb_v, fb_v, ft_Model_step_at192 n1 (d1 + 2)]
          exact ⟨x3, z3, c3, rfl, rfl, s3, s4.trans (q4.trans p4)⟩
    · rw [if_neg t0, if_neg t0, fb_i, if_pos rfl, ft_Model_step_at192 n1 (d1 + 2)]
      exact ⟨x2, z2, c2, rfl, rfl, q3, q4.trans p4⟩
  · rw [if_neg s5, if_neg s5, fb_i, if_pos rfl, ft_Model_step_at192 n1 (d1 + 2)]
    exact ⟨x2, z2, c2, rfl, rfl, q3, q4.trans p4⟩
end FL
