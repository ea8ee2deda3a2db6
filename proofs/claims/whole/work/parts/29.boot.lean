/-! ===== a boot goes on ===== -/
section FBT
variable {t c : Nat} {f : Nat → Nat} {x z : fn_M}
/-- a transfer is over -/
theorem fr_s_end (h : fr_R t c f x z) (b1 b2 : Int32) : fr_R t c f (fn_w (fn_w (fn_w x 46 0 0) 46 6 b1) 46 7 b2) (fn_w (fn_w (fn_w (fn_w (fn_w z 0 27 0) 0 31 0) 0 35 0) 0 33 b1) 0 34 b2) := by
  obtain ⟨d1, d2, ⟨g, g1, g2, g3, g4⟩, -⟩ := h.2.2.2.1
  refine fr_Rc h (fun q b1 b2 => ?_) (fun q b1 b2 => ?_) (fun j b1 => ?_) ?_
  · simp (disch := omega) only [fw_row]
  · simp (disch := omega) only [fw_row]
  · simp (disch := omega) only [fw_any]
  · unfold fr_c
    simp (disch := omega) only [fw_any, fw_eq, fw_row]
    exact ⟨trivial, trivial, ⟨g, g1, g2, g3, g4⟩, Or.inl ⟨trivial, trivial⟩⟩
/-- while the client is idle a phase may change -/
theorem fr_s_phase (h : fr_R t c f x z) {m : Nat} (m1 : 1 ≤ m) (m2 : m ≤ 4) (i1 : x 46 0 = 0) (i2 : z 0 27 = 0) (v : Int32) : fr_R t c f (fn_w x (48 + m) 2 v) (fn_w z 20 m v) := by
  obtain ⟨d1, d2, d3, -⟩ := h.2.2.2.1
  refine fr_Rm h m1 m2 (fun q b1 b2 b3 => fw_row b1) (fun q b => fw_row (by omega)) (fun q j b1 b2 => ?_) (fun j b => ?_) ?_ ?_
  · simp (disch := omega) only [fw_any]
  · simp (disch := omega) only [fw_any]
    exact ⟨trivial, trivial⟩
  · obtain ⟨a1, a2, a3, a4, a5, a6, a7, w, a8, a9, a10, a11⟩ := h.2.2.1 m m1 m2
    unfold fr_m
    simp (disch := omega) only [fw_any, fw_eq, fw_row]
    exact ⟨a1, a2, a3, a4, trivial, a6, a7, w, a8, a9, a10, a11⟩
  · unfold fr_c
    simp (disch := omega) only [fw_any, fw_row]
    exact ⟨d1, d2, d3, Or.inl ⟨i1, i2⟩⟩
/-- while the client is idle nobody asks how many writes are behind -/
theorem fr_s_wr (h : fr_R t c f x z) {m : Nat} (m1 : 1 ≤ m) (m2 : m ≤ 4) (i1 : x 46 0 = 0) (i2 : z 0 27 = 0) (v w : Int32) : fr_R t c f (fn_w x (48 + m) 7 v) (fn_w z 0 32 w) := by
  obtain ⟨d1, d2, d3, -⟩ := h.2.2.2.1
  refine ⟨fr_b_cg h.1 (fun q b1 b2 => fw_row (by omega)) (fun j b => fw_nj (by omega)) (fun q b1 b2 => fw_row (by omega)), fun k b1 b2 => ?_, fun k b1 b2 => ?_, ?_, ?_⟩
  · exact fr_n_cg (h.2.1 k b1 b2) (fw_row (by omega)) (fw_row (by omega)) (fw_row (by omega)) (fw_row (by omega)) (fun q b1 b2 b3 => fw_ne b1) (fun j hj => fw_ne (by decide))
  · have := h.2.2.1 k b1 b2
    unfold fr_m at this ⊢
    simp (disch := omega) only [fw_any]
    exact this
  · unfold fr_c
    simp (disch := omega) only [fw_any, fw_row]
    exact ⟨d1, d2, d3, Or.inl ⟨i1, i2⟩⟩
  · have := h.2.2.2.2
    unfold fr_p at this ⊢
    simp (disch := omega) only [fw_any, fw_row]
    exact this
/-- a boot has failed -/
theorem fr_fail (h : fr_R t c f x z) {m : Nat} (m1 : 1 ≤ m) (m2 : m ≤ 4) (i1 : x 46 0 = 0) (i2 : z 0 27 = 0) (hm : x 46 2 = nI m) (n d n1 d1 : Nat) (v : Int32) : fr_vv t f x (fn_ev 0 (n + 2000) (d + 2) 20 [.ref 45, .int v] x) (fn_ev 1 (n1 + 2000) (d1 + 2) 113 [.ref 0, .int (nI m), .int v] z) := by
  have hcl : (nI m).toNatClampNeg = m := fr_cl (by omega)
  have hix : ¬ (nI m < 0 ∨ 5 ≤ m) := by have := fr_ix (c := m) (N := 5) (by omega) (by decide); rwa [hcl] at this
  have h24 := fr_p24 h
  have h14 : 1 ≤ m ∧ m ≤ 4 := ⟨m1, m2⟩
  rw [ft_Master_giveUp n (d + 1), ft_Model_fails n1 (d1 + 1), hm]
  simp only [hcl, if_neg hix, if_pos h14, if_pos (fr_mb m m2 m1)]
  rw [fw_ne (show 46 ≠ 48 + m by omega), hm]
  obtain ⟨y, y', q1, q2, q3, q4, q5, q6⟩ := fr_note (fr_s_phase h m1 m2 i1 i2 v) n d n1 d1 3 (nI m) v
  rw [q1, q2, fb_v, fb_v]
  refine ⟨y, y', c, rfl, rfl, q3, ?_⟩
  rw [q4 _ (by omega) (by omega), fw_row (by omega)]
theorem fr_3 (m u : Nat) : (3 : Int32) * nI m + nI u = nI (3 * m + u) := by
  rw [show (3 : Int32) = nI 3 from rfl, fr_mul, nI_add]
/-- the next write of the list, or the end of the boot -/
theorem fr_wn (h : fr_R t c f x z) {m u : Nat} (m1 : 1 ≤ m) (m2 : m ≤ 4) (i1 : x 46 0 = 0) (i2 : z 0 27 = 0) (hm : x 46 2 = nI m) (hb : x 46 1 = 1) (hp : x (48 + m) 2 = 3) (hu : u ≤ 4) (u1 : x (48 + m) 7 = nI u) (u2 : z 0 32 = nI u) (n d n1 d1 : Nat) :
    fr_vv t f x (fn_ev 0 (n + 2000) (d + 3) 21 [.ref 45, .ref (48 + m), .ref 1] x)
      (if z 17 m ≤ nI u then (fn_bv (fn_ev 1 (n1 + 2000) (d1 + 3) 87 [.ref 0, .int 0, .int 0, .int 1, .int (nI m), .int 0] (fn_w z 20 m 4)) (fun y1 => (fn_bv (fn_ev 1 (n1 + 2000) (d1 + 3) 105 [.ref 0, .int 2, .int (nI m), .int 0] y1) (fun y2 => some (y2, none))))) else
        (fn_bv (fn_ev 1 (n1 + 2000) (d1 + 3) 108 [.ref 0, .int (nI m), .int (z 18 (3 * m + u)), .int 1, .int (z 19 (3 * m + u)), .int 1] z) (fun y3 => some (y3, none)))) := by
  obtain ⟨a1, a2, a3, a4, a5, a6, a7, w, a8, a9, a10, a11⟩ := h.2.2.1 m m1 m2
  have h24 := fr_p24 h
  rw [fk_Master_writeNext n (d + 2) m1 m2, u1, a9, a10, hm]
  by_cases g : w ≤ u
  · rw [if_pos (nI_le g (by omega)), if_pos (nI_le g (by omega))]
    obtain ⟨y, y', c', q1, q2, q3, q4⟩ := fr_Rput (fr_s_phase h m1 m2 i1 i2 4) n (d + 1) n1 (d1 + 2) 0 0 1 (nI m) 0 0 fr_fr0
    rw [q1, q2, fb_v, fb_v]
    have e46 : y 46 2 = nI m := by
      rw [q4.1 46 (Or.inl (by decide)), fw_ne (show 46 ≠ 48 + m by omega), hm]
    rw [e46]
    obtain ⟨s, s', r1, r2, r3, r4, r5, r6⟩ := fr_note q3 n (d + 1) n1 (d1 + 2) 2 (nI m) 0
    rw [r1, r2, fb_v, fb_v]
    refine ⟨s, s', c', rfl, rfl, r3, ?_⟩
    rw [r4 _ (by omega) (by omega), q4.1 _ (Or.inr rfl), fw_row (by omega)]
  · have hcl : (nI u).toNatClampNeg = u := fr_cl (by omega)
    have hix : ¬ (nI u < 0 ∨ 3 ≤ u) := by have := fr_ix (c := u) (N := 3) (by omega) (by decide); rwa [hcl] at this
    have hge : ¬ nI w ≤ nI u := nI_ge (by omega) (by omega)
    rw [if_neg hge, if_neg hge]
    simp only [hcl, if_neg hix]
    obtain ⟨l1, l2⟩ := a11 u (by omega)
    rw [ft_Client_beginWrite n (d + 1), ← l1, ← l2]
    obtain ⟨y, y', c', q1, q2, q3, q4⟩ := fr_beg h m1 m2 n d n1 d1 (x (52 + m) u) (x (56 + m) u) 1 1 1 (Or.inr ⟨rfl, rfl⟩) hb (Or.inr ⟨rfl, Or.inr ⟨hp, u, by omega, u1, u2⟩⟩)
    rw [q1, q2, fb_v, fb_v]
    exact ⟨y, y', c', rfl, rfl, q3, q4⟩
/-- a transfer of a boot is over: the boot goes on -/
theorem fr_goon (h : fr_R t c f x z) {m : Nat} (m1 : 1 ≤ m) (m2 : m ≤ 4) (i1 : x 46 0 = 0) (i2 : z 0 27 = 0) (hm : x 46 2 = nI m) (hb : x 46 1 = 1) (hp : x (48 + m) 2 = 2 ∨ (x (48 + m) 2 = 3 ∧ ∃ u, u ≤ 3 ∧ x (48 + m) 7 = nI u ∧ z 0 32 = nI u)) (n d n1 d1 : Nat) :
    fr_vv t f x (fn_ev 0 (n + 2000) (d + 4) 19 [.ref 45, .ref 1] x) (fn_ev 1 (n1 + 2000) (d1 + 4) 114 [.ref 0, .int (nI m)] z) := by
  have hcl : (nI m).toNatClampNeg = m := fr_cl (by omega)
  have hix : ¬ (nI m < 0 ∨ 5 ≤ m) := by have := fr_ix (c := m) (N := 5) (by omega) (by decide); rwa [hcl] at this
  have h24 := fr_p24 h
  have h14 : 1 ≤ m ∧ m ≤ 4 := ⟨m1, m2⟩
  obtain ⟨a1, a2, a3, a4, a5, a6, a7, w, a8, a9, a10, a11⟩ := h.2.2.1 m m1 m2
  obtain ⟨d1', d2', -, -⟩ := h.2.2.2.1
  rw [ft_Master_goOnWithBoot n (d + 3), ft_Model_goOn n1 (d1 + 3), hb, hm, if_neg fr_10]
  simp only [hcl, if_neg hix, if_pos h14, if_pos (fr_mb m m2 m1)]
  rw [← d1', ← d2', ← a5, ← a1]
  have fin : ∀ v : Int32, fr_vv t f x (fn_bv (fn_ev 0 (n + 2000) (d + 3) 20 [.ref 45, .int v] x) (fun y => some (y, none))) (fn_bv (fn_ev 1 (n1 + 2000) (d1 + 3) 113 [.ref 0, .int (nI m), .int v] z) (fun y => some (y, none))) := by
    intro v
    obtain ⟨y, y', c', q1, q2, q3, q4⟩ := fr_fail h m1 m2 i1 i2 hm n (d + 1) n1 (d1 + 1) v
    rw [q1, q2, fb_v, fb_v]
    exact ⟨y, y', c', rfl, rfl, q3, q4⟩
  by_cases c0 : x 46 6 = 0
  · rw [if_neg (show ¬ x 46 6 = 7 by rw [c0]; decide), if_pos c0, if_pos c0]
    rcases hp with p2 | ⟨p3, u, u0, u1, u2⟩
    · rw [if_neg (show ¬ x (48 + m) 2 = 3 by rw [p2]; decide), if_pos p2]
      by_cases r : x 46 7 = x (48 + m) 0
      · rw [if_pos r, if_pos r]
        have h3 := fr_s_wr (fr_s_phase h m1 m2 i1 i2 3) m1 m2 (by rw [fw_ne (show 46 ≠ 48 + m by omega)]; exact i1) (by rw [fw_ne (by decide)]; exact i2) 0 0
        have key := fr_wn h3 (m := m) (u := 0) m1 m2 (by simp (disch := omega) only [fw_any]; exact i1) (by simp (disch := omega) only [fw_any]; exact i2) (by simp (disch := omega) only [fw_any]; exact hm) (by simp (disch := omega) only [fw_any]; exact hb) (by simp (disch := omega) only [fw_any, fw_eq]) (by decide) (by rw [fw_eq]; rfl) (by rw [fw_eq]; rfl) n d n1 d1
        obtain ⟨y, y', c', q1, q2, q3, q4⟩ := key
        rw [q1, fb_v]
        have e30 : (3 : Int32) * nI m + 0 = nI (3 * m + 0) := fr_3 m 0
        have cl3 : (nI (3 * m + 0)).toNatClampNeg = 3 * m + 0 := fr_cl (by omega)
        have ix3 : ¬ (nI (3 * m + 0) < 0 ∨ 15 ≤ 3 * m + 0) := by have := fr_ix (c := 3 * m + 0) (N := 15) (by omega) (by decide); rwa [cl3] at this
        simp only [e30, cl3, if_neg ix3]
        simp (disch := omega) only [fw_any] at q2
        rw [show nI 0 = 0 from rfl] at q2
        by_cases g : z 17 m ≤ 0
        · rw [if_pos g] at q2 ⊢
          rw [q2]
          refine ⟨y, y', c', rfl, rfl, q3, ?_⟩
          rw [q4, fw_row (by omega), fw_row (by omega)]
        · rw [if_neg g] at q2 ⊢
          rw [q2]
          refine ⟨y, y', c', rfl, rfl, q3, ?_⟩
          rw [q4, fw_row (by omega), fw_row (by omega)]
      · rw [if_neg r, if_neg r]
        exact fin 5
    · rw [if_pos p3, if_neg (show ¬ x (48 + m) 2 = 2 by rw [p3]; decide), u1, u2, nI_1]
      have h3 := fr_s_wr h m1 m2 i1 i2 (nI (u + 1)) (nI (u + 1))
      obtain ⟨y, y', c', q1, q2, q3, q4⟩ := fr_wn h3 (m := m) (u := u + 1) m1 m2 (by simp (disch := omega) only [fw_any]; exact i1) (by simp (disch := omega) only [fw_any]; exact i2) (by simp (disch := omega) only [fw_any]; exact hm) (by simp (disch := omega) only [fw_any]; exact hb) (by simp (disch := omega) only [fw_any]; exact p3) (by omega) fw_eq fw_eq n d n1 d1
      rw [q1, fb_v]
      have cl3 : (nI (3 * m + (u + 1))).toNatClampNeg = 3 * m + (u + 1) := fr_cl (by omega)
      simp only [fr_3, cl3]
      simp (disch := omega) only [fw_any] at q2
      by_cases g : z 17 m ≤ nI (u + 1)
      · rw [if_pos g] at q2 ⊢
        rw [q2]
        refine ⟨y, y', c', rfl, rfl, q3, ?_⟩
        rw [q4, fw_row (by omega)]
      · rw [if_neg g] at q2 ⊢
        have hw : u + 1 < w := by
          rw [a10] at g
          exact Nat.lt_of_not_le fun q => g (nI_le q (by omega))
        have ix3 : ¬ (nI (3 * m + (u + 1)) < 0 ∨ 15 ≤ 3 * m + (u + 1)) := by have := fr_ix (c := 3 * m + (u + 1)) (N := 15) (by omega) (by decide); rwa [cl3] at this
        rw [if_neg ix3, if_neg ix3, q2]
        refine ⟨y, y', c', rfl, rfl, q3, ?_⟩
        rw [q4, fw_row (by omega)]
  · rw [if_neg c0, if_neg c0]
    by_cases c7 : x 46 6 = 7
    · rw [if_pos c7, if_pos c7]
      exact fin 7
    · rw [if_neg c7, if_neg c7]
      exact fin 6
end FBT
