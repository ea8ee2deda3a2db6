/-! ===== the master hears a beat ===== -/
section FHB
variable {t c : Nat} {f : Nat → Nat} {x z : fn_M}
/-- what the master last heard of a node -/
theorem fr_s_mheard (h : fr_R t c f x z) {m : Nat} (m1 : 1 ≤ m) (m2 : m ≤ 4) {v : Int32} (hv : fr_ever t v) : fr_R t c f (fn_w x (48 + m) 3 v) (fn_w z 21 m v) := by
  refine fr_Rm h m1 m2 (fun q b1 b2 b3 => fw_row b1) (fun q b => fw_row (by omega)) (fun q j b1 b2 => ?_) (fun j b => ?_) ?_ ?_
  · simp (disch := omega) only [fw_any]
  · simp (disch := omega) only [fw_any]
    exact ⟨trivial, trivial⟩
  · obtain ⟨a1, a2, a3, a4, a5, a6, a7, w, a8, a9, a10, a11⟩ := h.2.2.1 m m1 m2
    unfold fr_m
    simp (disch := omega) only [fw_any, fw_eq, fw_row]
    exact ⟨a1, a2, a3, a4, a5, trivial, hv, w, a8, a9, a10, a11⟩
  · have := h.2.2.2.1
    unfold fr_c at this ⊢
    simp (disch := omega) only [fw_any, fw_row]
    exact this
/-- a node has appeared: it waits for its boot; a boot of it that goes on ends -/
theorem fr_s_wait (h : fr_R t c f x z) {m : Nat} (m1 : 1 ≤ m) (m2 : m ≤ 4) (hno : ¬ (x 46 0 = 1 ∧ x 46 1 = 1 ∧ x 46 2 = nI m)) : fr_R t c f (fn_w x (48 + m) 2 1) (fn_w z 20 m 1) := by
  obtain ⟨d1, d2, d3, d4⟩ := h.2.2.2.1
  refine fr_Rm h m1 m2 (fun q b1 b2 b3 => fw_row b1) (fun q b => fw_row (by omega)) (fun q j b1 b2 => ?_) (fun j b => ?_) ?_ ?_
  · simp (disch := omega) only [fw_any]
  · simp (disch := omega) only [fw_any]
    exact ⟨trivial, trivial⟩
  · obtain ⟨a1, a2, a3, a4, a5, a6, a7, w, a8, a9, a10, a11⟩ := h.2.2.1 m m1 m2
    unfold fr_m
    simp (disch := omega) only [fw_any, fw_eq, fw_row]
    exact ⟨a1, a2, a3, a4, trivial, a6, a7, w, a8, a9, a10, a11⟩
  · unfold fr_c
    rw [fw_row (show 46 ≠ 48 + m by omega), fw_row (show 47 ≠ 48 + m by omega), fw_row (show 0 ≠ 20 by decide), fw_row (show 22 ≠ 20 by decide)]
    refine ⟨d1, d2, d3, ?_⟩
    rcases d4 with d4 | ⟨e1, ⟨k, k1, k2, k3, k4, k5⟩, e3⟩
    · exact Or.inl d4
    · refine Or.inr ⟨e1, ⟨k, k1, k2, k3, k4, ?_⟩, e3⟩
      rcases k5 with k5 | ⟨k5, k6⟩
      · exact Or.inl k5
      · have hk : k ≠ m := fun e => hno ⟨e1, k5, by rw [k3, e]⟩
        refine Or.inr ⟨k5, ?_⟩
        rw [fw_ne (show 48 + k ≠ 48 + m by omega), fw_ne (show 48 + k ≠ 48 + m by omega)]
        exact k6
/-- the client lets go -/
theorem fr_s_idle (h : fr_R t c f x z) : fr_R t c f (fn_w x 46 0 0) (fn_w z 0 27 0) := by
  obtain ⟨d1, d2, ⟨g, g1, g2, g3, g4⟩, -⟩ := h.2.2.2.1
  refine fr_Rc h (fun q b1 b2 => ?_) (fun q b1 b2 => ?_) (fun j b1 => ?_) ?_
  · simp (disch := omega) only [fw_row]
  · simp (disch := omega) only [fw_row]
  · simp (disch := omega) only [fw_any]
  · unfold fr_c
    simp (disch := omega) only [fw_any, fw_eq, fw_row]
    exact ⟨d1, d2, ⟨g, g1, g2, g3, g4⟩, Or.inl ⟨trivial, trivial⟩⟩
theorem fr_s_idle2 (h : fr_R t c f x z) (hz : z 0 27 = 0) : fr_R t c f (fn_w x 46 0 0) z := by
  obtain ⟨d1, d2, ⟨g, g1, g2, g3, g4⟩, -⟩ := h.2.2.2.1
  refine fr_Rc h (fun q b1 b2 => ?_) (fun q b1 b2 => rfl) (fun j b1 => rfl) ?_
  · simp (disch := omega) only [fw_row]
  · unfold fr_c
    simp (disch := omega) only [fw_any, fw_eq, fw_row]
    exact ⟨d1, d2, ⟨g, g1, g2, g3, g4⟩, Or.inl ⟨trivial, hz⟩⟩
theorem fr_mexp (h : fr_R t c f x z) {m : Nat} (m1 : 1 ≤ m) (m2 : m ≤ 4) : (x (48 + m) 0 = -1 ↔ ¬ 0 ≤ z 15 m) := by
  obtain ⟨a1, a2, -⟩ := h.2.2.1 m m1 m2
  rw [← a1]
  rw [Int32.le_iff_toInt_le, show (-1 : Int32).toInt = -1 from rfl] at a2
  rw [Int32.le_iff_toInt_le, Int32.toInt_zero]
  constructor
  · intro e
    rw [e, show (-1 : Int32).toInt = -1 from rfl]
    decide
  · intro e
    apply Int32.toInt_inj.mp
    rw [show (-1 : Int32).toInt = -1 from rfl]
    omega
/-- a first beat -/
theorem fr_hb0 (h : fr_R t c f x z) {m : Nat} (m1 : 1 ≤ m) (m2 : m ≤ 4) (n d n1 d1 : Nat) (v : Int32) : fr_vv t f x (fn_ev 0 (n + 2000) (d + 2) 18 [.ref 45, .int (nI m), .int 0, .int v] x) (fn_ev 1 (n1 + 2000) (d1 + 2) 107 [.ref 0, .int (nI m)] z) := by
  have hcl : (nI m).toNatClampNeg = m := fr_cl (by omega)
  have hix : ¬ (nI m < 0 ∨ 5 ≤ m) := by have := fr_ix (c := m) (N := 5) (by omega) (by decide); rwa [hcl] at this
  have h24 := fr_p24 h
  have h14 : 1 ≤ m ∧ m ≤ 4 := ⟨m1, m2⟩
  have hmb : (fn_lc 0 (48 + m) == 4) = true := by rw [fr_mb m m2 m1]; rfl
  obtain ⟨y, y', q1, q2, q3, q4, q5, q6⟩ := fr_note h n d n1 d1 1 (nI m) 0
  rw [ft_Master_hearBeat n (d + 1), ft_Model_booted n1 (d1 + 1), if_pos rfl, q1, q2, fb_v, fb_v]
  simp only [hcl, if_neg hix, if_pos h14, if_pos (fr_mb m m2 m1), if_pos hmb]
  have r1 := fr_s_mheard (v := -1) q3 m1 m2 (Or.inl rfl)
  have hy : y (f 24) = x (f 24) := q4 _ (by omega) (by omega)
  have hexp := fr_mexp q3 m1 m2
  rw [fk_Member_isExpected n d m1 m2, fw_nj (show 0 ≠ 3 by decide)]
  by_cases e : y (48 + m) 0 = -1
  · rw [if_pos e, fb_i, if_pos rfl, if_neg (hexp.mp e)]
    refine ⟨_, _, c, rfl, rfl, r1, ?_⟩
    rw [fw_row (by omega), hy]
  · have e2 : 0 ≤ y' 15 m := Classical.not_not.mp fun q => e (hexp.mpr q)
    rw [if_neg e, fb_i, if_neg fr_10, if_pos e2, fw_ne (show 46 ≠ 48 + m by omega), fw_ne (show 46 ≠ 48 + m by omega)]
    have fin : ∀ (s s' : fn_M), fr_R t c f s s' → s (f 24) = x (f 24) → fr_vv t f x (some (s, none)) (some (s', none)) := fun s s' g1 g2 => ⟨s, s', c, rfl, rfl, g1, g2⟩
    have k1 : ∀ s : fn_M, s (f 24) = x (f 24) → ∀ w : Int32, fn_w s (48 + m) 2 w (f 24) = x (f 24) := fun s g w => by rw [fw_row (by omega)]; exact g
    have k0 : (fn_w y (48 + m) 3 (-1)) (f 24) = x (f 24) := by rw [fw_row (by omega), hy]
    obtain ⟨-, -, -, d4⟩ := q3.2.2.2.1
    have r2 := fr_s_idle r1
    -- after the client has let go
    have w2 := fr_s_wait r2 m1 m2 (fun q => absurd q.1 (by rw [fw_eq]; decide))
    rcases d4 with ⟨b0, b1⟩ | ⟨b0, ⟨k, k1', k2', k3, k4, k5⟩, -, -, -, b5, -⟩
    · have hz : ¬ y' 0 27 = nI m := fun q => nI_ne0 (n := m) (by omega) (by omega) (by rw [← q, b1])
      have hmod : (if y' 0 31 = 0 then some (fn_w (fn_w y' 21 m (-1)) 20 m 1, (none : Option Value)) else if y' 0 27 = nI m then some (fn_w (fn_w (fn_w y' 21 m (-1)) 0 27 0) 20 m 1, none) else some (fn_w (fn_w y' 21 m (-1)) 20 m 1, none)) = some (fn_w (fn_w y' 21 m (-1)) 20 m 1, none) := by
        by_cases q : y' 0 31 = 0
        · rw [if_pos q]
        · rw [if_neg q, if_neg hz]
      rw [hmod]
      have w1 := fr_s_wait r1 m1 m2 (fun q => absurd q.1 (by rw [fw_ne (show 46 ≠ 48 + m by omega), b0]; decide))
      by_cases q : y 46 1 = 0
      · rw [if_pos q]
        exact fin _ _ w1 (k1 _ k0 _)
      · rw [if_neg q]
        by_cases q2 : y 46 2 = nI m
        · rw [if_pos q2]
          have i2 := fr_s_idle2 r1 (by rw [fw_ne (by decide)]; exact b1)
          exact fin _ _ (fr_s_wait i2 m1 m2 (fun q => absurd q.1 (by rw [fw_eq]; decide))) (k1 _ (by rw [fw_row (by omega)]; exact k0) _)
        · rw [if_neg q2]
          exact fin _ _ w1 (k1 _ k0 _)
    · rw [← b5]
      by_cases q : y 46 1 = 0
      · rw [if_pos q, if_pos q]
        exact fin _ _ (fr_s_wait r1 m1 m2 (fun q3 => absurd q3.2.1 (by rw [fw_ne (show 46 ≠ 48 + m by omega), q]; decide))) (k1 _ k0 _)
      · rw [if_neg q, if_neg q, k3, k4]
        by_cases q2 : nI k = nI m
        · rw [if_pos q2, if_pos q2]
          exact fin _ _ w2 (k1 _ (by rw [fw_row (by omega)]; exact k0) _)
        · rw [if_neg q2, if_neg q2]
          exact fin _ _ (fr_s_wait r1 m1 m2 (fun q3 => q2 (by rw [← k3, ← q3.2.2, fw_ne (show 46 ≠ 48 + m by omega)]))) (k1 _ k0 _)
/-- a later beat -/
theorem fr_hb1 (h : fr_R t c f x z) {m : Nat} (m1 : 1 ≤ m) (m2 : m ≤ 4) (n d : Nat) (b : Int32) (hb : ¬ b = 0) : ∃ x', fn_ev 0 (n + 2000) (d + 1) 18 [.ref 45, .int (nI m), .int b, .int (x 1 6)] x = some (x', none) ∧ fr_R t c f x' (fn_w z 21 m (z 0 0)) ∧ x' (f 24) = x (f 24) := by
  have hcl : (nI m).toNatClampNeg = m := fr_cl (by omega)
  have hix : ¬ (nI m < 0 ∨ 5 ≤ m) := by have := fr_ix (c := m) (N := 5) (by omega) (by decide); rwa [hcl] at this
  have h24 := fr_p24 h
  have h14 : 1 ≤ m ∧ m ≤ 4 := ⟨m1, m2⟩
  rw [ft_Master_hearBeat n d, if_neg hb]
  simp only [hcl, if_neg hix, if_pos h14, if_pos (fr_mb m m2 m1)]
  rw [(fr_now h).1, (fr_now h).2]
  refine ⟨_, rfl, fr_s_mheard h m1 m2 (Or.inr ⟨t, Nat.le_refl _, rfl⟩), ?_⟩
  rw [fw_row (by omega)]
end FHB
