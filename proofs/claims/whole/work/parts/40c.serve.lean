section FSV
variable {t c k : Nat} {f : Nat → Nat} {x z : fn_M}
/-- a node answers a write -/
theorem fr_swrite (h : fr_R t c f x z) (h1 : 1 ≤ k) (h2 : k ≤ 4) (hs : ¬ x (28 + k) 3 = 4) (ha : x (f 24) 2 = 1) (n d n1 d1 : Nat) : fr_vv t f x (fn_ev 0 (n + 2000) (d + 4) 46 [.ref (28 + k), .ref (f 24), .ref 1] x) (fn_ev 1 (n1 + 2000) (d1 + 4) 102 [.ref 0, .int (nI k), .int (x (f 24) 2), .int (x (f 24) 3), .int (x (f 24) 4)] z) := by
  have h24 := fr_p24 h
  have hlc : fn_lc 0 (f 24) = 2 := fr_fr _ h24.2 h24.1
  have hcl : (nI k).toNatClampNeg = k := fr_cl (by omega)
  have hix : ¬ (nI k < 0 ∨ 5 ≤ k) := by have := fr_ix (c := k) (N := 5) (by omega) (by decide); rwa [hcl] at this
  rw [fk_Node_serve n (d + 3) h1 h2, ft_Model_request n1 (d1 + 3), if_neg hs]
  simp only [if_pos hlc]
  rw [ha, if_pos (show (1 : Int32) = 1 from rfl), fe_w1, fb_i, show fr_w 1 1 3 = 1 from rfl, if_neg fr_10, if_neg (show ¬ (1 : Int32) = 3 by decide)]
  obtain ⟨b, b0, e1, e2, e3⟩ := fe_code h h1 h2 n d n1 d1 (x (f 24) 3) (x (f 24) 4)
  rw [e1, e2, fb_i, fb_i]
  by_cases bz : b = 0
  · subst bz
    obtain ⟨j, j1, j2, j3⟩ := e3 rfl
    have j16 : j < 16 := by omega
    have cj : (nI j).toNatClampNeg = j := fr_cl (by omega)
    have xj : ¬ (nI j < 0 ∨ 16 ≤ j) := by have := fr_ix (c := j) (N := 16) (by omega) (by decide); rwa [cj] at this
    have cl : (nI (16 * k + j)).toNatClampNeg = 16 * k + j := fr_cl (by omega)
    have ix : ¬ (nI (16 * k + j) < 0 ∨ 80 ≤ 16 * k + j) := by have := fr_ix (c := 16 * k + j) (N := 80) (by omega) (by decide); rwa [cl] at this
    rw [if_pos rfl, if_pos (show (0 : Int32) ≤ 0 by decide), if_neg (show ¬ (1 : Int32) = 3 by decide), if_pos (show (1 : Int32) = 1 from rfl), j1, fk_Node_store n (d + 2) h1 h2, fr_16]
    simp only [cj, if_neg xj, cl, if_neg ix, hcl, if_neg hix, if_true]
    have h3 := fr_s_obj (v := x (f 24) 4) h h1 h2 (j := j) (by omega) j16 j3
    have fin : ∀ (s s' : fn_M) (u : Nat), fr_R t c f s s' → s (f 24) = x (f 24) → fr_vv t f x (fn_bv (some (s, none)) (fun y8 => (fn_bv (fn_ev 0 (n + 2000) (d + 3) 47 [.ref (28 + k), .int 1, .int (y8 (f 24) 3), .int 0, .ref 1] y8) (fun y10 => some (y10, none)))))
        (fn_run 1 (fn_ev 1 (n1 + 2000) (d1 + 3)) (fn_lk fn_d102) (u + 9) 134 [(0, .ref 0), (1, .int (nI k)), (2, .int 1), (3, .int (nI j)), (4, .int (x (f 24) 4)), (5, .int (1408 + nI k)), (6, .int 0)] [] s') := by
      intro s s' u g1 g2
      obtain ⟨y, y', c', q1, q2, q3, q4⟩ := fr_ans g1 h1 h2 n (d + 1) n1 (d1 + 2) 1 (nI j) 0
      rw [fb_v, g2, j1, q1, ft_Model_request_at134_0 n1 (d1 + 3), q2, fb_v, fb_v, ft_Model_request_at200_0 n1 (d1 + 3)]
      exact ⟨y, y', c', rfl, rfl, q3, (q4.1 _ (Or.inr rfl)).trans g2⟩
    have hk : (fn_w x (32 + k) j (x (f 24) 4)) (f 24) = x (f 24) := fw_row (by omega)
    rw [(fr_now h).1, (fr_now h).2]
    have n2 : nI j = 2 ↔ j = 2 := fr_eq (b := 2) (by omega) (by decide)
    have n3 : nI j = 3 ↔ j = 3 := fr_eq (b := 3) (by omega) (by decide)
    have n4 : nI j = 4 ↔ j = 4 := fr_eq (b := 4) (by omega) (by decide)
    by_cases e2 : j = 2
    · rw [if_pos (n2.mpr e2), if_pos (n2.mpr e2), ft_Model_request_at110_0 n1 (d1 + 3), if_neg (fun q => by have := n3.mp q; omega), ft_Model_request_at122_0 n1 (d1 + 3), if_neg (fun q => by have := n4.mp q; omega)]
      exact fin _ _ _ (fr_s_beat h3 h1 h2 ⟨t, Nat.le_refl _, rfl⟩) (by rw [fw_row (by omega)]; exact hk)
    · rw [if_neg (fun q => e2 (n2.mp q)), if_neg (fun q => e2 (n2.mp q)), ft_Model_request_at110_0 n1 (d1 + 3)]
      by_cases e3' : j = 3
      · rw [if_pos (n3.mpr e3'), if_pos (n3.mpr e3'), ft_Model_request_at122_0 n1 (d1 + 3)]
        simp only [hcl, if_neg hix]
        rw [if_neg (show ¬ nI j = 4 from fun q => by have := n4.mp q; omega)]
        exact fin _ _ _ (fr_s_heard h3 h1 h2 (Or.inl rfl)) (by rw [fw_row (by omega)]; exact hk)
      · rw [if_neg (fun q => e3' (n3.mp q)), if_neg (fun q => e3' (n3.mp q)), ft_Model_request_at122_0 n1 (d1 + 3)]
        by_cases e4 : j = 4
        · rw [if_pos (n4.mpr e4), if_pos (n4.mpr e4)]
          simp only [hcl, if_neg hix]
          exact fin _ _ _ (fr_s_syncs h3 h1 h2) (by rw [fw_row (by omega)]; exact hk)
        · rw [if_neg (fun q => e4 (n4.mp q)), if_neg (fun q => e4 (n4.mp q))]
          exact fin _ _ _ h3 hk
  · have bp : ¬ b ≤ 0 := by
      rcases b0 with e | e | e | e | e
      · exact absurd e bz
      · rw [e]; decide
      · rw [e]; decide
      · rw [e]; decide
      · rw [e]; decide
    rw [if_neg bz, if_neg bz, if_neg bp]
    obtain ⟨y, y', c', q1, q2, q3, q4⟩ := fr_ans h h1 h2 n (d + 1) n1 (d1 + 2) 9 (x (f 24) 3) b
    rw [q1, q2, fb_v, fb_v, ft_Model_request_at200 n1 (d1 + 3)]
    exact ⟨y, y', c', rfl, rfl, q3, q4.1 _ (Or.inr rfl)⟩
end FSV
