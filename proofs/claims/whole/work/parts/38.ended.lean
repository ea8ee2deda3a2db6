section FEN
variable {t c : Nat} {f : Nat → Nat} {x z : fn_M}
/-- what isEndedBy says -/
def fr_eb (y : fn_M) : Option fn_R := some (y, some (.int (if y 46 0 = 0 then 1 else 0)))
theorem fe_197_0 (n d m p : Nat) (y : fn_M) : fn_run 0 (fn_ev 0 (n + 2000) d) (fn_lk fn_d5) (m + 6) 197 [(0, .ref 46), (1, .ref p), (2, .ref 1), (3, .int 0)] [] y = fr_eb y := by
  rw [ft_Client_isEndedBy_at197_0]
  unfold fr_eb
  by_cases e : y 46 0 = 0
  · rw [if_pos e, if_pos e]
  · rw [if_neg e, if_neg e]
theorem fe_197_1 (n d m p : Nat) (y : fn_M) : fn_run 0 (fn_ev 0 (n + 2000) d) (fn_lk fn_d5) (m + 6) 197 [(0, .ref 46), (1, .ref p), (2, .ref 1), (3, .int 1)] [] y = fr_eb y := by
  rw [ft_Client_isEndedBy_at197_1]
  unfold fr_eb
  by_cases e : y 46 0 = 0
  · rw [if_pos e, if_pos e]
  · rw [if_neg e, if_neg e]
/-- nothing happens -/
theorem fr_nil (h : fr_R t c f x z) {m : Nat} (hb : fr_busy m x z) (n dd : Nat) : ∃ y, fr_eb x = fr_eb y ∧ fr_vv t f x (fr_go n dd y) (some (z, none)) := by
  refine ⟨x, rfl, ?_⟩
  unfold fr_go
  rw [if_neg (show ¬ x 46 0 = 0 by rw [hb.1]; decide)]
  exact ⟨x, z, c, rfl, rfl, h, rfl⟩
/-- a part of the text, or nothing -/
theorem fe_156_0 (h : fr_R t c f x z) {m : Nat} (hb : fr_busy m x z) (n d dd n1 d1 u v : Nat) : ∃ y, fn_run 0 (fn_ev 0 (n + 2000) (d + 3)) (fn_lk fn_d5) (u + 27) 156 [(0, .ref 46), (1, .ref (f 24)), (2, .ref 1), (3, .int 0)] [] x = fr_eb y ∧ fr_vv t f x (fr_go n dd y) (fn_run 1 (fn_ev 1 (n1 + 2000) (d1 + 6)) (fn_lk fn_d110) (v + 17) 134 [(0, .ref 0), (1, .int (x (f 24) 2)), (2, .int (x (f 24) 3)), (3, .int (x (f 24) 4)), (4, .int 0)] [] z) := by
  have h24 := fr_p24 h
  have hlc : fn_lc 0 (f 24) = 2 := fr_fr _ h24.2 h24.1
  obtain ⟨e0, m1, m2, e2, e27, e1, a3, a4, a5, a1, a8, a9⟩ := hb
  have hb : fr_busy m x z := ⟨e0, m1, m2, e2, e27, e1, a3, a4, a5, a1, a8, a9⟩
  rw [ft_Client_isEndedBy_at156_0 n (d + 3), ft_Model_answered_at134_0 n1 (d1 + 6), ← a8]
  simp only [if_pos hlc]
  by_cases e4 : x (f 24) 2 = 4
  · rw [if_pos e4, if_pos e4]
    by_cases h8 : x 46 8 = 0
    · rw [if_pos h8, if_pos h8, fe_197_0, ft_Model_answered_at162_0 n1 (d1 + 6)]
      exact fr_nil h hb n dd
    · obtain ⟨b1, b2, b3, b4⟩ := a9.resolve_left h8
      rw [if_neg h8, if_neg h8, ← b3]
      by_cases g : x (f 24) 3 &&& 1 = x 46 10
      · rw [if_pos g, if_pos g]
        obtain ⟨y, q1, s, s', c', q2, q3, q4⟩ := fr_part h hb h8 n d dd n1 d1 (x (f 24) 3) (x (f 24) 4)
        rw [q1, q3, fb_v, fb_v, fe_197_0, ft_Model_answered_at162_0 n1 (d1 + 6)]
        exact ⟨y, rfl, s, s', c', q2, rfl, q4⟩
      · rw [if_neg g, if_neg g, fe_197_0, ft_Model_answered_at162_0 n1 (d1 + 6)]
        exact fr_nil h hb n dd
  · rw [if_neg e4, if_neg e4, fe_197_0, ft_Model_answered_at162_0 n1 (d1 + 6)]
    exact fr_nil h hb n dd
/-- a part of the text, or nothing -/
theorem fe_156_1 (h : fr_R t c f x z) {m : Nat} (hb : fr_busy m x z) (n d dd n1 d1 u v : Nat) : ∃ y, fn_run 0 (fn_ev 0 (n + 2000) (d + 3)) (fn_lk fn_d5) (u + 27) 156 [(0, .ref 46), (1, .ref (f 24)), (2, .ref 1), (3, .int 1)] [] x = fr_eb y ∧ fr_vv t f x (fr_go n dd y) (fn_run 1 (fn_ev 1 (n1 + 2000) (d1 + 6)) (fn_lk fn_d110) (v + 17) 134 [(0, .ref 0), (1, .int (x (f 24) 2)), (2, .int (x (f 24) 3)), (3, .int (x (f 24) 4)), (4, .int 1)] [] z) := by
  have h24 := fr_p24 h
  have hlc : fn_lc 0 (f 24) = 2 := fr_fr _ h24.2 h24.1
  obtain ⟨e0, m1, m2, e2, e27, e1, a3, a4, a5, a1, a8, a9⟩ := hb
  have hb : fr_busy m x z := ⟨e0, m1, m2, e2, e27, e1, a3, a4, a5, a1, a8, a9⟩
  rw [ft_Client_isEndedBy_at156_1 n (d + 3), ft_Model_answered_at134_1 n1 (d1 + 6), ← a8]
  simp only [if_pos hlc]
  by_cases e4 : x (f 24) 2 = 4
  · rw [if_pos e4, if_pos e4]
    by_cases h8 : x 46 8 = 0
    · rw [if_pos h8, if_pos h8, fe_197_1, ft_Model_answered_at162_1 n1 (d1 + 6)]
      exact fr_nil h hb n dd
    · obtain ⟨b1, b2, b3, b4⟩ := a9.resolve_left h8
      rw [if_neg h8, if_neg h8, ← b3]
      by_cases g : x (f 24) 3 &&& 1 = x 46 10
      · rw [if_pos g, if_pos g]
        obtain ⟨y, q1, s, s', c', q2, q3, q4⟩ := fr_part h hb h8 n d dd n1 d1 (x (f 24) 3) (x (f 24) 4)
        rw [q1, q3, fb_v, fb_v, fe_197_1, ft_Model_answered_at162_1 n1 (d1 + 6)]
        exact ⟨y, rfl, s, s', c', q2, rfl, q4⟩
      · rw [if_neg g, if_neg g, fe_197_1, ft_Model_answered_at162_1 n1 (d1 + 6)]
        exact fr_nil h hb n dd
  · rw [if_neg e4, if_neg e4, fe_197_1, ft_Model_answered_at162_1 n1 (d1 + 6)]
    exact fr_nil h hb n dd
/-- an answer to the client -/
theorem fr_ended (h : fr_R t c f x z) {m : Nat} (hb : fr_busy m x z) (hid : x (f 24) 1 = 1408 + nI m) (n d dd n1 d1 : Nat) : ∃ y, fn_ev 0 (n + 2000) (d + 4) 5 [.ref 46, .ref (f 24), .ref 1] x = fr_eb y ∧ fr_vv t f x (fr_go n dd y) (fn_ev 1 (n1 + 2000) (d1 + 7) 110 [.ref 0, .int (x (f 24) 2), .int (x (f 24) 3), .int (x (f 24) 4)] z) := by
  have h24 := fr_p24 h
  have hlc : fn_lc 0 (f 24) = 2 := fr_fr _ h24.2 h24.1
  obtain ⟨e0, m1, m2, e2, e27, e1, a3, a4, a5, a1, a8, a9⟩ := hb
  have hb : fr_busy m x z := ⟨e0, m1, m2, e2, e27, e1, a3, a4, a5, a1, a8, a9⟩
  have over : ∀ (b1 b2 : Int32) (u v : Nat), ∃ y, fn_bv (fn_ev 0 (n + 2000) (d + 3) 4 [.ref 46, .int b1, .int b2] x) (fun y1 => fn_run 0 (fn_ev 0 (n + 2000) (d + 3)) (fn_lk fn_d5) (u + 6) 197 [(0, .ref 46), (1, .ref (f 24)), (2, .ref 1), (3, .int 1)] [] y1) = fr_eb y ∧
      fr_vv t f x (fr_go n dd y) (fn_bv (fn_ev 1 (n1 + 2000) (d1 + 6) 112 [.ref 0, .int b1, .int b2] z) (fun y1 => fn_run 1 (fn_ev 1 (n1 + 2000) (d1 + 6)) (fn_lk fn_d110) (v + 1) 162 [(0, .ref 0), (1, .int (x (f 24) 2)), (2, .int (x (f 24) 3)), (3, .int (x (f 24) 4)), (4, .int 1)] [] y1)) := by
    intro b1 b2 u v
    obtain ⟨y, q1, s, s', c', q2, q3, q4⟩ := fr_end h hb n (d + 2) dd n1 (d1 + 1) b1 b2
    rw [q1, q3, fb_v, fb_v, fe_197_1, ft_Model_answered_at162_1 n1 (d1 + 6)]
    exact ⟨y, rfl, s, s', c', q2, rfl, q4⟩
  rw [ft_Client_isEndedBy n (d + 3), ft_Model_answered n1 (d1 + 6), if_neg (show ¬ x 46 0 = 0 by rw [e0]; decide), e2, ← a3]
  simp only [if_pos hlc]
  rw [if_pos hid]
  by_cases sm : x (f 24) 3 = x 46 3
  · rw [if_pos sm, if_pos sm]
    by_cases q9 : x (f 24) 2 = 9
    · rw [if_pos q9, if_pos q9]
      exact over _ 0 _ _
    · rw [if_neg q9, if_neg q9, ft_Client_isEndedBy_at66_1 n (d + 3), ft_Model_answered_at35_1 n1 (d1 + 6), ← a4]
      simp only [if_pos hlc]
      have k156 := fe_156_1 h hb n d dd n1 d1
      have k125 : ∀ u v, ¬ (x (f 24) 2 = 3 ∧ x 46 4 = 0) → ∃ y, fn_run 0 (fn_ev 0 (n + 2000) (d + 3)) (fn_lk fn_d5) (u + 36) 125 [(0, .ref 46), (1, .ref (f 24)), (2, .ref 1), (3, .int 1)] [] x = fr_eb y ∧ fr_vv t f x (fr_go n dd y) (fn_run 1 (fn_ev 1 (n1 + 2000) (d1 + 6)) (fn_lk fn_d110) (v + 27) 87 [(0, .ref 0), (1, .int (x (f 24) 2)), (2, .int (x (f 24) 3)), (3, .int (x (f 24) 4)), (4, .int 1)] [] z) := by
        intro u v hno
        rw [ft_Client_isEndedBy_at125_1 n (d + 3), ft_Model_answered_at87_1 n1 (d1 + 6), ← a4]
        simp only [if_pos hlc]
        by_cases q3 : x (f 24) 2 = 3
        · have w4 : ¬ x 46 4 = 0 := fun q => hno ⟨q3, q⟩
          rw [if_pos q3, if_pos q3, if_neg w4, if_neg w4]
          exact k156 u (v + 2)
        · rw [if_neg q3, if_neg q3]
          exact k156 (u + 5) (v + 7)
      have k94 : ∀ u v, ¬ (x (f 24) 2 = 2 ∧ x 46 4 = 0) → ¬ (x (f 24) 2 = 3 ∧ x 46 4 = 0) → ∃ y, fn_run 0 (fn_ev 0 (n + 2000) (d + 3)) (fn_lk fn_d5) (u + 45) 94 [(0, .ref 46), (1, .ref (f 24)), (2, .ref 1), (3, .int 1)] [] x = fr_eb y ∧ fr_vv t f x (fr_go n dd y) (fn_run 1 (fn_ev 1 (n1 + 2000) (d1 + 6)) (fn_lk fn_d110) (v + 35) 61 [(0, .ref 0), (1, .int (x (f 24) 2)), (2, .int (x (f 24) 3)), (3, .int (x (f 24) 4)), (4, .int 1)] [] z) := by
        intro u v hno hno3
        rw [ft_Client_isEndedBy_at94_1 n (d + 3), ft_Model_answered_at61_1 n1 (d1 + 6), ← a4]
        simp only [if_pos hlc]
        by_cases q2 : x (f 24) 2 = 2
        · have w4 : ¬ x 46 4 = 0 := fun q => hno ⟨q2, q⟩
          rw [if_pos q2, if_pos q2, if_neg w4, if_neg w4]
          exact k125 u v hno3
        · rw [if_neg q2, if_neg q2]
          exact k125 (u + 5) (v + 5) hno3
      by_cases q1 : x (f 24) 2 = 1
      · rw [if_pos q1, if_pos q1]
        by_cases w4 : x 46 4 = 0
        · rw [if_pos w4, if_pos w4]
          exact k94 (n + 1969 - 45) (n1 + 1982 - 35) (fun q => absurd q.1 (by rw [q1]; decide)) (fun q => absurd q.1 (by rw [q1]; decide))
        · rw [if_neg w4, if_neg w4]
          exact over 0 0 _ _
      · rw [if_neg q1, if_neg q1]
        by_cases c2 : x (f 24) 2 = 2 ∧ x 46 4 = 0
        · rw [ft_Client_isEndedBy_at94_1 n (d + 3), ft_Model_answered_at61_1 n1 (d1 + 6), ← a4]
          simp only [if_pos hlc]
          rw [if_pos c2.1, if_pos c2.1, if_pos c2.2, if_pos c2.2]
          exact over 0 _ _ _
        · by_cases c3 : x (f 24) 2 = 3 ∧ x 46 4 = 0
          · rw [ft_Client_isEndedBy_at94_1 n (d + 3), ft_Model_answered_at61_1 n1 (d1 + 6)]
            simp only [if_pos hlc]
            rw [if_neg (show ¬ x (f 24) 2 = 2 by rw [c3.1]; decide), if_neg (show ¬ x (f 24) 2 = 2 by rw [c3.1]; decide), ft_Client_isEndedBy_at125_1 n (d + 3), ft_Model_answered_at87_1 n1 (d1 + 6), ← a4]
            simp only [if_pos hlc]
            rw [if_pos c3.1, if_pos c3.1, if_pos c3.2, if_pos c3.2, ft_Client_beginText n (d + 2)]
            have h3 := fr_s_text h hb (x (f 24) 4)
            obtain ⟨s, s', c', r1, r2, r3, r4, r5⟩ := fr_askon h3 (m := m) (w := 0) (by simp (disch := omega) only [fw_any]; exact e2) (by simp (disch := omega) only [fw_any]; exact e27) n d n1 (d1 + 4) (by rw [fw_eq])
            rw [r1, r2, fb_v, fb_v, fb_v, fe_197_1, ft_Model_answered_at162_1 n1 (d1 + 6)]
            refine ⟨s, rfl, fr_vv_some ⟨s, s', c', rfl, rfl, r3, ?_⟩ ?_ n dd⟩
            · rw [r4]
              simp (disch := omega) only [fw_row]
            · rw [r5]
              simp (disch := omega) only [fw_any]
              rw [e0]
              decide
          · exact k94 (n + 1929) (n1 + 1952) c2 c3
  · rw [if_neg sm, if_neg sm]
    have kc : ∀ u, ∃ u', fn_run 0 (fn_ev 0 (n + 2000) (d + 3)) (fn_lk fn_d5) (u + 45) 66 [(0, .ref 46), (1, .ref (f 24)), (2, .ref 1), (3, .int 0)] [] x = fn_run 0 (fn_ev 0 (n + 2000) (d + 3)) (fn_lk fn_d5) (u' + 27) 156 [(0, .ref 46), (1, .ref (f 24)), (2, .ref 1), (3, .int 0)] [] x := by
      intro u
      have k3 : ∀ u, ∃ u', fn_run 0 (fn_ev 0 (n + 2000) (d + 3)) (fn_lk fn_d5) (u + 33) 125 [(0, .ref 46), (1, .ref (f 24)), (2, .ref 1), (3, .int 0)] [] x = fn_run 0 (fn_ev 0 (n + 2000) (d + 3)) (fn_lk fn_d5) (u' + 27) 156 [(0, .ref 46), (1, .ref (f 24)), (2, .ref 1), (3, .int 0)] [] x := by
        intro u
        rw [ft_Client_isEndedBy_at125_0 n (d + 3), if_pos hlc]
        by_cases q : x (f 24) 2 = 3
        · rw [if_pos q]
          exact ⟨u, rfl⟩
        · rw [if_neg q]
          exact ⟨u + 2, rfl⟩
      have k2 : ∀ u, ∃ u', fn_run 0 (fn_ev 0 (n + 2000) (d + 3)) (fn_lk fn_d5) (u + 39) 94 [(0, .ref 46), (1, .ref (f 24)), (2, .ref 1), (3, .int 0)] [] x = fn_run 0 (fn_ev 0 (n + 2000) (d + 3)) (fn_lk fn_d5) (u' + 27) 156 [(0, .ref 46), (1, .ref (f 24)), (2, .ref 1), (3, .int 0)] [] x := by
        intro u
        rw [ft_Client_isEndedBy_at94_0 n (d + 3), if_pos hlc]
        by_cases q : x (f 24) 2 = 2
        · rw [if_pos q]
          exact k3 u
        · rw [if_neg q]
          exact k3 (u + 2)
      rw [ft_Client_isEndedBy_at66_0 n (d + 3), if_pos hlc]
      by_cases q : x (f 24) 2 = 1
      · rw [if_pos q]
        exact k2 u
      · rw [if_neg q]
        exact k2 (u + 2)
    have km : ∀ v, ∃ v', fn_run 1 (fn_ev 1 (n1 + 2000) (d1 + 6)) (fn_lk fn_d110) (v + 32) 35 [(0, .ref 0), (1, .int (x (f 24) 2)), (2, .int (x (f 24) 3)), (3, .int (x (f 24) 4)), (4, .int 0)] [] z = fn_run 1 (fn_ev 1 (n1 + 2000) (d1 + 6)) (fn_lk fn_d110) (v' + 17) 134 [(0, .ref 0), (1, .int (x (f 24) 2)), (2, .int (x (f 24) 3)), (3, .int (x (f 24) 4)), (4, .int 0)] [] z := by
      intro v
      have k3 : ∀ v, ∃ v', fn_run 1 (fn_ev 1 (n1 + 2000) (d1 + 6)) (fn_lk fn_d110) (v + 22) 87 [(0, .ref 0), (1, .int (x (f 24) 2)), (2, .int (x (f 24) 3)), (3, .int (x (f 24) 4)), (4, .int 0)] [] z = fn_run 1 (fn_ev 1 (n1 + 2000) (d1 + 6)) (fn_lk fn_d110) (v' + 17) 134 [(0, .ref 0), (1, .int (x (f 24) 2)), (2, .int (x (f 24) 3)), (3, .int (x (f 24) 4)), (4, .int 0)] [] z := by
        intro v
        rw [ft_Model_answered_at87_0 n1 (d1 + 6)]
        by_cases q : x (f 24) 2 = 3
        · rw [if_pos q]
          exact ⟨v, rfl⟩
        · rw [if_neg q]
          exact ⟨v + 2, rfl⟩
      have k2 : ∀ v, ∃ v', fn_run 1 (fn_ev 1 (n1 + 2000) (d1 + 6)) (fn_lk fn_d110) (v + 27) 61 [(0, .ref 0), (1, .int (x (f 24) 2)), (2, .int (x (f 24) 3)), (3, .int (x (f 24) 4)), (4, .int 0)] [] z = fn_run 1 (fn_ev 1 (n1 + 2000) (d1 + 6)) (fn_lk fn_d110) (v' + 17) 134 [(0, .ref 0), (1, .int (x (f 24) 2)), (2, .int (x (f 24) 3)), (3, .int (x (f 24) 4)), (4, .int 0)] [] z := by
        intro v
        rw [ft_Model_answered_at61_0 n1 (d1 + 6)]
        by_cases q : x (f 24) 2 = 2
        · rw [if_pos q]
          exact k3 v
        · rw [if_neg q]
          exact k3 (v + 2)
      rw [ft_Model_answered_at35_0 n1 (d1 + 6)]
      by_cases q : x (f 24) 2 = 1
      · rw [if_pos q]
        exact k2 v
      · rw [if_neg q]
        exact k2 (v + 2)
    by_cases q9 : x (f 24) 2 = 9
    · rw [if_pos q9, if_pos q9]
      obtain ⟨u, hu⟩ := kc (n + 1932)
      obtain ⟨v, hv⟩ := km (n1 + 1957)
      rw [show n + 1977 = n + 1932 + 45 from rfl, show n1 + 1989 = n1 + 1957 + 32 from rfl, hu, hv]
      exact fe_156_0 h hb n d dd n1 d1 u v
    · rw [if_neg q9, if_neg q9]
      obtain ⟨u, hu⟩ := kc (n + 1934)
      obtain ⟨v, hv⟩ := km (n1 + 1959)
      rw [show n + 1979 = n + 1934 + 45 from rfl, show n1 + 1991 = n1 + 1959 + 32 from rfl, hu, hv]
      exact fe_156_0 h hb n d dd n1 d1 u v
end FEN
