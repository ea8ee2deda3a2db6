section FSR
variable {t c k : Nat} {f : Nat → Nat} {x z : fn_M}
/-- a node answers a read -/
theorem fr_sread (h : fr_R t c f x z) (h1 : 1 ≤ k) (h2 : k ≤ 4) (hs : ¬ x (28 + k) 3 = 4) (ha : x (f 24) 2 = 2) (n d n1 d1 : Nat) : fr_vv t f x (fn_ev 0 (n + 2000) (d + 4) 46 [.ref (28 + k), .ref (f 24), .ref 1] x) (fn_ev 1 (n1 + 2000) (d1 + 4) 102 [.ref 0, .int (nI k), .int (x (f 24) 2), .int (x (f 24) 3), .int (x (f 24) 4)] z) := by
  have h24 := fr_p24 h
  have hlc : fn_lc 0 (f 24) = 2 := fr_fr _ h24.2 h24.1
  have hcl : (nI k).toNatClampNeg = k := fr_cl (by omega)
  have hix : ¬ (nI k < 0 ∨ 5 ≤ k) := by have := fr_ix (c := k) (N := 5) (by omega) (by decide); rwa [hcl] at this
  obtain ⟨a1, a2, a3, a4, a5, a6, a7, a8, a9, a10, a11, a12, a13, a14, a15⟩ := h.2.1 k h1 h2
  rw [fk_Node_serve n (d + 3) h1 h2, ft_Model_request n1 (d1 + 3), if_neg hs]
  simp only [if_pos hlc, hcl, if_neg hix]
  rw [ha, if_neg (show ¬ (2 : Int32) = 1 by decide), if_pos (show (2 : Int32) = 2 from rfl), fe_w1, fb_i, show fr_w 2 1 3 = 1 from rfl, if_neg fr_10, if_neg (show ¬ (2 : Int32) = 3 by decide), ft_Model_refusal n1 (d1 + 2), fe_w1, fb_i, fk_Node_serveRead n (d + 2) h1 h2, fe_w0, fb_i]
  by_cases w0 : fr_w (x (f 24) 3) 0 16 = 0
  · obtain ⟨y, y', c', q1, q2, q3, q4⟩ := fr_ans h h1 h2 n d n1 (d1 + 2) 9 (x (f 24) 3) 1
    rw [if_pos w0, if_pos w0, fb_i, if_neg (show ¬ (1 : Int32) ≤ 0 by decide), q1, q2, fb_v, fb_v, fb_v, ft_Model_request_at200 n1 (d1 + 3)]
    exact ⟨y, y', c', rfl, rfl, q3, q4.1 _ (Or.inr rfl)⟩
  · rw [if_neg w0, if_neg w0, if_pos (show (2 : Int32) = 2 from rfl), fb_i, if_pos (show (0 : Int32) ≤ 0 by decide), if_neg (show ¬ (2 : Int32) = 3 by decide), if_neg (show ¬ (2 : Int32) = 1 by decide)]
    by_cases e16 : x (f 24) 3 = 16
    · rw [if_pos e16, if_pos e16]
      have h3 := fr_s_rd0 h h1 h2
      obtain ⟨v, v1, v2, v3, v4, v5⟩ := a14
      have hz : (fn_w (fn_w z 7 k 0) 8 k 0) 2 (16 * k + 0) = nI v := by
        simp (disch := omega) only [fw_any]
        rw [a4 0 (by decide), v2]
      rw [fe_size n1 (d1 + 1) _ h2 v1 hz, fb_i, fe_len n d _ h1 h2, fb_i]
      have hl : (fn_w (fn_w (fn_w x (28 + k) 9 1) (28 + k) 10 0) (28 + k) 11 0) (36 + k) 3 = nI (7 + fr_dg v) := by
        simp (disch := omega) only [fw_any]
        exact v3
      rw [hl]
      obtain ⟨y, y', c', q1, q2, q3, q4⟩ := fr_ans h3 h1 h2 n d n1 (d1 + 2) 3 16 (nI (7 + fr_dg v))
      rw [q1, q2, fb_v, fb_v, fb_v, ft_Model_request_at200 n1 (d1 + 3)]
      refine ⟨y, y', c', rfl, rfl, q3, ?_⟩
      rw [q4.1 _ (Or.inr rfl), fw_row (by omega), fw_row (by omega), fw_row (by omega)]
    · rw [if_neg e16, if_neg e16]
      obtain ⟨j, j1, j2, j3⟩ := fr_bt (lo := 0) (hi := 16) (by decide) (by decide) (fr_no1 (fr_w01 _ _ _) w0)
      have j16 : j < 16 := by
        rcases Nat.lt_or_ge j 16 with q | q
        · exact q
        · exact absurd (by rw [j3, show j = 16 by omega]; rfl) e16
      have cj : (nI j).toNatClampNeg = j := fr_cl (by omega)
      have xj : ¬ (nI j < 0 ∨ 16 ≤ j) := by have := fr_ix (c := j) (N := 16) (by omega) (by decide); rwa [cj] at this
      rw [j3, fe_of n1 (d1 + 2) z h2 j16 rfl, fb_i, a4 j j16]
      simp only [cj, if_neg xj]
      obtain ⟨y, y', c', q1, q2, q3, q4⟩ := fr_ans h h1 h2 n d n1 (d1 + 2) 2 (nI j) (x (32 + k) j)
      rw [q1, q2, fb_v, fb_v, fb_v, ft_Model_request_at200 n1 (d1 + 3)]
      exact ⟨y, y', c', rfl, rfl, q3, q4.1 _ (Or.inr rfl)⟩
/-- a node refuses what it doesn't know -/
theorem fr_sother (h : fr_R t c f x z) (h1 : 1 ≤ k) (h2 : k ≤ 4) (hs : ¬ x (28 + k) 3 = 4) (ha1 : ¬ x (f 24) 2 = 1) (ha2 : ¬ x (f 24) 2 = 2) (ha3 : ¬ x (f 24) 2 = 3) (n d n1 d1 : Nat) : fr_vv t f x (fn_ev 0 (n + 2000) (d + 4) 46 [.ref (28 + k), .ref (f 24), .ref 1] x) (fn_ev 1 (n1 + 2000) (d1 + 4) 102 [.ref 0, .int (nI k), .int (x (f 24) 2), .int (x (f 24) 3), .int (x (f 24) 4)] z) := by
  have h24 := fr_p24 h
  have hlc : fn_lc 0 (f 24) = 2 := fr_fr _ h24.2 h24.1
  have w0 : fr_w (x (f 24) 2) 1 3 = 0 := by
    rcases fr_w01 (x (f 24) 2) 1 3 with e | e
    · exact e
    · obtain ⟨j, j1, j2, j3⟩ := fr_bt (lo := 1) (hi := 3) (by decide) (by decide) e
      exfalso
      rcases (by omega : j = 1 ∨ j = 2 ∨ j = 3) with rfl | rfl | rfl
      · exact ha1 j3
      · exact ha2 j3
      · exact ha3 j3
  rw [fk_Node_serve n (d + 3) h1 h2, ft_Model_request n1 (d1 + 3), if_neg hs]
  simp only [if_pos hlc]
  rw [if_neg ha1, if_neg ha2, if_neg ha3, fe_w1, fb_i, if_pos w0]
  obtain ⟨y, y', c', q1, q2, q3, q4⟩ := fr_ans h h1 h2 n (d + 1) n1 (d1 + 2) 9 (x (f 24) 3) 6
  rw [q1, q2, fb_v, fb_v, ft_Model_request_at200_6 n1 (d1 + 3)]
  exact ⟨y, y', c', rfl, rfl, q3, q4.1 _ (Or.inr rfl)⟩
end FSR
