/-! ===== what the master hears ===== -/
section FMH
variable {t c : Nat} {f : Nat → Nat} {x z : fn_M}
theorem fr_idk {a b : Int32} {j : Nat} (h : a - b = nI j) : a = nI j + b := by
  rw [← h, Int32.sub_add_cancel]
theorem fr_nn128 : ∀ j, j ≤ 4 → 1 ≤ j → (nI j + 128 - 1792 < 1) ∧ (nI j + 128 - 1408 < 1) := by decide +kernel
theorem fr_nn1792 : ∀ j, j ≤ 4 → 1 ≤ j → (4 < nI j + 1792 - 1408) ∧ (4 < nI j + 1792 - 128) := by decide +kernel
theorem fr_nn1408 : ∀ j, j ≤ 4 → 1 ≤ j → 1408 + nI j - 1408 = nI j := by decide +kernel
/-- behind isEndedBy -/
theorem fr_ebgo (n d : Nat) (y : fn_M) : fn_bi (fr_eb y) (fun y5 v6 => (if v6 = 0 then some (y5, none) else (fn_bv (fn_ev 0 (n + 2000) (d + 4) 19 [.ref 45, .ref 1] y5) (fun y7 => some (y7, none))))) = fn_bv (fr_go n d y) (fun y7 => some (y7, none)) := by
  unfold fr_eb fr_go
  rw [fb_i]
  by_cases e : y 46 0 = 0
  · rw [if_pos e, if_pos e, if_neg fr_10]
  · rw [if_neg e, if_neg e, if_pos rfl, fb_v]
theorem fr_bvv1 {o1 o2 : Option fn_R} (h : fr_vv t f x o1 o2) : fr_vv t f x (fn_bv o1 (fun y => some (y, none))) o2 := by
  obtain ⟨a, b, c', e1, e2, e3⟩ := h
  exact ⟨a, b, c', by rw [e1, fb_v], e2, e3⟩
theorem fr_mhear (h : fr_R t c f x z) (n d n1 d1 : Nat) : fr_vv t f x (fn_ev 0 (n + 2000) (d + 5) 17 [.ref 45, .ref (f 24), .ref 1] x) (fn_ev 1 (n1 + 2000) (d1 + 8) 106 [.ref 0, .int (x (f 24) 1), .int (x (f 24) 2), .int (x (f 24) 3), .int (x (f 24) 4)] z) := by
  have h24 := fr_p24 h
  have hlc : fn_lc 0 (f 24) = 2 := fr_fr _ h24.2 h24.1
  rw [ft_Master_hear n (d + 4), ft_Model_toMaster n1 (d1 + 7)]
  simp only [if_pos hlc]
  by_cases n128 : fr_nn (x (f 24) 1 - 128)
  · rw [fe_node0 n (d + 3) x n128, fb_i, if_pos rfl]
    by_cases n1792 : fr_nn (x (f 24) 1 - 1792)
    · rw [fe_node0 n (d + 3) x n1792, fb_i, if_pos rfl, fe_send0 n1 (d1 + 5) z n1792, fb_i, fe_send0 n1 (d1 + 5) z n128, fb_i]
      by_cases n1408 : fr_nn (x (f 24) 1 - 1408)
      · rw [fe_send0 n1 (d1 + 5) z n1408, fb_i, if_pos (by decide), ft_Model_toMaster_at43 n1 (d1 + 7), if_pos (by decide), ft_Model_toMaster_at63 n1 (d1 + 7), if_pos (by decide), ft_Model_toMaster_at78 n1 (d1 + 7), if_pos (by decide), ft_Model_toMaster_at100 n1 (d1 + 7), ft_Client_isEndedBy n (d + 3)]
        simp only [if_pos hlc]
        by_cases b0 : x 46 0 = 0
        · rw [if_pos b0, ft_Client_isEndedBy_at22 n (d + 3), fb_i, if_pos rfl]
          exact ⟨x, z, c, rfl, rfl, h, rfl⟩
        · obtain ⟨m, hb⟩ := fr_busy_of h b0
          have hm4 : m ≤ 4 := hb.2.2.1
          have hne : ¬ x (f 24) 1 = 1408 + x 46 2 := fun e => by
            rw [e, hb.2.2.2.1, fr_nn1408 m hb.2.2.1 hb.2.1] at n1408
            rcases n1408 with q | q
            · exact nI_nlt (b := 1) hb.2.1 (by omega) q
            · exact nI_nlt (a := 4) hb.2.2.1 (by decide) q
          rw [if_neg b0, if_neg hne, ft_Client_isEndedBy_at22 n (d + 3), fb_i, if_pos rfl]
          exact ⟨x, z, c, rfl, rfl, h, rfl⟩
      · obtain ⟨j, j1, j2, j3⟩ := fr_1to4 n1408
        rw [fe_send1 n1 (d1 + 5) z n1408, fb_i, if_pos (by decide), ft_Model_toMaster_at43 n1 (d1 + 7), if_pos (by decide), ft_Model_toMaster_at63 n1 (d1 + 7), if_pos (by decide), ft_Model_toMaster_at78 n1 (d1 + 7), j3, if_neg (nI_nle (by omega) (by omega))]
        by_cases b0 : x 46 0 = 0
        · have z27 : z 0 27 = 0 := by
            obtain ⟨-, -, -, d4⟩ := h.2.2.2.1
            rcases d4 with d4 | d4
            · exact d4.2
            · exact absurd (b0.symm.trans d4.1) (by decide)
          have hne : ¬ z 0 27 = nI j := fun e => nI_ne0 (n := j) (by omega) (by omega) (by rw [← e, z27])
          rw [if_neg hne, ft_Model_toMaster_at100 n1 (d1 + 7), ft_Client_isEndedBy n (d + 3), if_pos b0, ft_Client_isEndedBy_at22 n (d + 3), fb_i, if_pos rfl]
          exact ⟨x, z, c, rfl, rfl, h, rfl⟩
        · obtain ⟨m, hb⟩ := fr_busy_of h b0
          have hm4 : m ≤ 4 := hb.2.2.1
          have hid : x (f 24) 1 = 1408 + nI j := by rw [fr_idk j3, Int32.add_comm]
          rw [hb.2.2.2.2.1]
          by_cases e : m = j
          · subst e
            rw [if_pos rfl]
            obtain ⟨y, q1, q2⟩ := fr_ended h hb hid n d d n1 d1
            obtain ⟨s, s', c', r1, r2, r3⟩ := q2
            rw [q1, fr_ebgo, r1, r2, fb_v, fb_v, ft_Model_toMaster_at100 n1 (d1 + 7)]
            exact ⟨s, s', c', rfl, rfl, r3⟩
          · have hne : ¬ nI m = nI j := fun q => e ((fr_eq (by omega) (by omega)).mp q)
            have hne2 : ¬ x (f 24) 1 = 1408 + x 46 2 := fun q => by
              rw [hid, hb.2.2.2.1] at q
              have this : 1408 + nI j - 1408 = 1408 + nI m - 1408 := by rw [q]
              rw [fr_nn1408 j j2 j1, fr_nn1408 m hb.2.2.1 hb.2.1] at this
              exact hne this.symm
            rw [if_neg hne, ft_Model_toMaster_at100 n1 (d1 + 7), ft_Client_isEndedBy n (d + 3)]
            simp only [if_pos hlc]
            rw [if_neg b0, if_neg hne2, ft_Client_isEndedBy_at22 n (d + 3), fb_i, if_pos rfl]
            exact ⟨x, z, c, rfl, rfl, h, rfl⟩
    · obtain ⟨j, j1, j2, j3⟩ := fr_1to4 n1792
      have hid := fr_idk j3
      have n1408 : fr_nn (x (f 24) 1 - 1408) := by rw [hid]; exact Or.inr (fr_nn1792 j j2 j1).1
      have hcl : (nI j).toNatClampNeg = j := fr_cl (by omega)
      have hix : ¬ (nI j < 0 ∨ 5 ≤ j) := by have := fr_ix (c := j) (N := 5) (by omega) (by decide); rwa [hcl] at this
      rw [fe_node1 n (d + 3) x n1792, fb_i, if_neg fr_10, fe_send1 n1 (d1 + 5) z n1792, fb_i, fe_send0 n1 (d1 + 5) z n128, fb_i, fe_send0 n1 (d1 + 5) z n1408, fb_i, if_pos (show (0 : Int32) ≤ 0 by decide), ft_Model_toMaster_at43 n1 (d1 + 7), j3, if_neg (nI_nle (by omega) (by omega))]
      simp only [hcl, if_neg hix]
      by_cases a0 : x (f 24) 2 = 0
      · rw [if_pos a0, ft_Model_toMaster_at63 n1 (d1 + 7), if_neg (nI_nle (by omega) (by omega)), if_pos a0, a0]
        obtain ⟨s, s', c', r1, r2, r3, r4⟩ := fr_hb0 h j1 j2 n (d + 2) n1 (d1 + 5) (x 1 6)
        rw [r1, r2, fb_v, fb_v, ft_Model_toMaster_at78 n1 (d1 + 7), if_pos (show (0 : Int32) ≤ 0 by decide), ft_Model_toMaster_at100 n1 (d1 + 7)]
        exact ⟨s, s', c', rfl, rfl, r3, r4⟩
      · rw [if_neg a0, ft_Model_toMaster_at63 n1 (d1 + 7), if_neg (nI_nle (by omega) (by omega)), if_neg a0, ft_Model_toMaster_at78 n1 (d1 + 7), if_pos (show (0 : Int32) ≤ 0 by decide), ft_Model_toMaster_at100 n1 (d1 + 7)]
        obtain ⟨s, r1, r2, r3⟩ := fr_hb1 h j1 j2 n (d + 3) (x (f 24) 2) a0
        rw [r1, fb_v]
        exact ⟨s, _, c, rfl, rfl, r2, r3⟩
  · obtain ⟨j, j1, j2, j3⟩ := fr_1to4 n128
    have hid := fr_idk j3
    have n1792 : fr_nn (x (f 24) 1 - 1792) := by rw [hid]; exact Or.inl (fr_nn128 j j2 j1).1
    have n1408 : fr_nn (x (f 24) 1 - 1408) := by rw [hid]; exact Or.inl (fr_nn128 j j2 j1).2
    rw [fe_node1 n (d + 3) x n128, fb_i, if_neg fr_10, fe_send0 n1 (d1 + 5) z n1792, fb_i, fe_send1 n1 (d1 + 5) z n128, fb_i, fe_send0 n1 (d1 + 5) z n1408, fb_i, j3, if_neg (nI_nle (by omega) (by omega))]
    obtain ⟨y, y', q1, q2, q3, q4, q5, q6⟩ := fr_note h n (d + 3) n1 (d1 + 6) 5 (nI j) (x (f 24) 2 &&& 63)
    rw [q1, q2, fb_v, fb_v, ft_Model_toMaster_at43 n1 (d1 + 7), if_pos (show (0 : Int32) ≤ 0 by decide), ft_Model_toMaster_at63 n1 (d1 + 7), if_pos (show (0 : Int32) ≤ 0 by decide), ft_Model_toMaster_at78 n1 (d1 + 7), if_pos (show (0 : Int32) ≤ 0 by decide), ft_Model_toMaster_at100 n1 (d1 + 7)]
    exact ⟨y, y', c, rfl, rfl, q3, q4 _ (by omega) (by omega)⟩
end FMH
