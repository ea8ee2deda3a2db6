/-! ===== a frame is delivered; a slot; a tick ===== -/
section FTK
variable {t c : Nat} {f : Nat → Nat} {x z : fn_M}
theorem fr_from_iff {a b v : Int32} (h : fr_from a b) (h1 : v ≠ -1) (h2 : v ≠ 5) : b = v ↔ a = v := by
  rcases h with ⟨rfl, rfl⟩ | ⟨rfl, -⟩
  · exact ⟨fun e => absurd e.symm h2, fun e => absurd e.symm h1⟩
  · exact Iff.rfl
/-- delivered: the reference tells 1 -/
def fr_dd (t : Nat) (f : Nat → Nat) (o1 o2 : Option fn_R) : Prop := ∃ x' z' c', o1 = some (x', none) ∧ o2 = some (z', some (.int 1)) ∧ fr_R t c' f x' z'
/-- a node that is off hears nothing -/
theorem fe_off {k : Nat} (h1 : 1 ≤ k) (h2 : k ≤ 4) (hoff : x (28 + k) 3 = 0) (n d p : Nat) : fn_ev 0 (n + 2000) (d + 2) 40 [.ref (28 + k), .ref p, .ref 1] x = some (x, none) := by
  rw [fk_Node_hear n (d + 1) h1 h2, fk_Node_isOn n d h1 h2, if_pos hoff, fb_i, if_pos rfl]
theorem fr_d4 (n d n1 d1 m m1 : Nat) (b1 b2 b3 b4 b5 b6 : Int32) (h : fr_R t c f x z) : fr_dd t f (fn_run 0 (fn_ev 0 (n + 2000) (d + 7)) (fn_lk fn_d79) (m + 6) 48 [(0, .ref 0), (1, .ref (f 24)), (2, .int 4)] [] x) (fn_run 1 (fn_ev 1 (n1 + 2000) (d1 + 8)) (fn_lk fn_d89) (m1 + 7) 173 [(0, .ref 0), (1, .int b1), (2, .int b2), (3, .int b3), (4, .int b4), (5, .int b5), (6, .int b6), (7, .int 4)] [] z) := by
  rw [ft_Net_deliver_at48_4 n (d + 7), ft_Model_slot_at173_4 n1 (d1 + 8)]
  exact ⟨x, z, c, rfl, rfl, h⟩
theorem fr_d3 (n d n1 d1 m m1 : Nat) (b1 b6 : Int32) (h : fr_R t c f x z) (hf : fr_from (x (f 24) 0) b6) : fr_dd t f (fn_run 0 (fn_ev 0 (n + 2000) (d + 7)) (fn_lk fn_d79) (m + 23) 48 [(0, .ref 0), (1, .ref (f 24)), (2, .int 3)] [] x) (fn_run 1 (fn_ev 1 (n1 + 2000) (d1 + 8)) (fn_lk fn_d89) (m1 + 27) 173 [(0, .ref 0), (1, .int b1), (2, .int (x (f 24) 1)), (3, .int (x (f 24) 2)), (4, .int (x (f 24) 3)), (5, .int (x (f 24) 4)), (6, .int b6), (7, .int 3)] [] z) := by
  have h24 := fr_p24 h
  have hlc : fn_lc 0 (f 24) = 2 := fr_fr _ h24.2 h24.1
  have hn := (h.2.1 4 (by decide) (by decide)).2.1
  rw [ft_Net_deliver_at48_3 n (d + 7), ft_Model_slot_at173_3 n1 (d1 + 8), if_pos hlc]
  have hi := fr_from_iff (v := 4) hf (by decide) (by decide)
  by_cases e : x (f 24) 0 = 4
  · rw [if_pos e, if_pos (hi.mpr e).symm, show m + 14 = (m + 8) + 6 from rfl, show m1 + 19 = (m1 + 12) + 7 from rfl]
    exact fr_d4 n d n1 d1 _ _ b1 _ _ _ _ b6 h
  · rw [if_neg e, if_neg (fun q => e (hi.mp q.symm)), ← hn]
    by_cases e0 : x (28 + 4) 3 = 0
    · have q1 : fn_ev 0 (n + 2000) (d + 7) 40 [.ref 32, .ref (f 24), .ref 1] x = some (x, none) := fe_off (k := 4) (by decide) (by decide) e0 n (d + 5) (f 24)
      rw [q1, fb_v, if_pos e0, show m1 + 14 = (m1 + 7) + 7 from rfl]
      exact fr_d4 n d n1 d1 _ _ b1 _ _ _ _ b6 h
    · obtain ⟨y, y', c', q1, q2, q3, q4⟩ := fr_nhear h (k := 4) (by decide) (by decide) e0 n d n1 (d1 + 2)
      have q1' : fn_ev 0 (n + 2000) (d + 7) 40 [.ref 32, .ref (f 24), .ref 1] x = some (y, none) := q1
      have q2' : fn_ev 1 (n1 + 2000) (d1 + 8) 97 [.ref 0, .int 4, .int (x (f 24) 1), .int (x (f 24) 2), .int (x (f 24) 3), .int (x (f 24) 4)] z = some (y', none) := q2
      rw [q1', fb_v, if_neg e0, q2', fb_v]
      exact fr_d4 n d n1 d1 _ _ b1 _ _ _ _ b6 q3
theorem fr_d2 (n d n1 d1 m m1 : Nat) (b1 b6 : Int32) (h : fr_R t c f x z) (hf : fr_from (x (f 24) 0) b6) : fr_dd t f (fn_run 0 (fn_ev 0 (n + 2000) (d + 7)) (fn_lk fn_d79) (m + 40) 48 [(0, .ref 0), (1, .ref (f 24)), (2, .int 2)] [] x) (fn_run 1 (fn_ev 1 (n1 + 2000) (d1 + 8)) (fn_lk fn_d89) (m1 + 47) 173 [(0, .ref 0), (1, .int b1), (2, .int (x (f 24) 1)), (3, .int (x (f 24) 2)), (4, .int (x (f 24) 3)), (5, .int (x (f 24) 4)), (6, .int b6), (7, .int 2)] [] z) := by
  have h24 := fr_p24 h
  have hlc : fn_lc 0 (f 24) = 2 := fr_fr _ h24.2 h24.1
  have hn := (h.2.1 3 (by decide) (by decide)).2.1
  rw [ft_Net_deliver_at48_2 n (d + 7), ft_Model_slot_at173_2 n1 (d1 + 8), if_pos hlc]
  have hi := fr_from_iff (v := 3) hf (by decide) (by decide)
  by_cases e : x (f 24) 0 = 3
  · rw [if_pos e, if_pos (hi.mpr e).symm, show m + 31 = (m + 8) + 23 from rfl, show m1 + 39 = (m1 + 12) + 27 from rfl]
    exact fr_d3 n d n1 d1 _ _ b1 b6 h hf
  · rw [if_neg e, if_neg (fun q => e (hi.mp q.symm)), ← hn]
    by_cases e0 : x (28 + 3) 3 = 0
    · have q1 : fn_ev 0 (n + 2000) (d + 7) 40 [.ref 31, .ref (f 24), .ref 1] x = some (x, none) := fe_off (k := 3) (by decide) (by decide) e0 n (d + 5) (f 24)
      rw [q1, fb_v, if_pos e0, show m1 + 34 = (m1 + 7) + 27 from rfl]
      exact fr_d3 n d n1 d1 _ _ b1 b6 h hf
    · obtain ⟨y, y', c', q1, q2, q3, q4⟩ := fr_nhear h (k := 3) (by decide) (by decide) e0 n d n1 (d1 + 2)
      have q1' : fn_ev 0 (n + 2000) (d + 7) 40 [.ref 31, .ref (f 24), .ref 1] x = some (y, none) := q1
      have q2' : fn_ev 1 (n1 + 2000) (d1 + 8) 97 [.ref 0, .int 3, .int (x (f 24) 1), .int (x (f 24) 2), .int (x (f 24) 3), .int (x (f 24) 4)] z = some (y', none) := q2
      rw [q1', fb_v, if_neg e0, q2', fb_v, ← q4]
      exact fr_d3 n d n1 d1 _ _ b1 b6 q3 (by rw [q4]; exact hf)
theorem fr_d1 (n d n1 d1 m m1 : Nat) (b1 b6 : Int32) (h : fr_R t c f x z) (hf : fr_from (x (f 24) 0) b6) : fr_dd t f (fn_run 0 (fn_ev 0 (n + 2000) (d + 7)) (fn_lk fn_d79) (m + 57) 48 [(0, .ref 0), (1, .ref (f 24)), (2, .int 1)] [] x) (fn_run 1 (fn_ev 1 (n1 + 2000) (d1 + 8)) (fn_lk fn_d89) (m1 + 67) 173 [(0, .ref 0), (1, .int b1), (2, .int (x (f 24) 1)), (3, .int (x (f 24) 2)), (4, .int (x (f 24) 3)), (5, .int (x (f 24) 4)), (6, .int b6), (7, .int 1)] [] z) := by
  have h24 := fr_p24 h
  have hlc : fn_lc 0 (f 24) = 2 := fr_fr _ h24.2 h24.1
  have hn := (h.2.1 2 (by decide) (by decide)).2.1
  rw [ft_Net_deliver_at48_1 n (d + 7), ft_Model_slot_at173_1 n1 (d1 + 8), if_pos hlc]
  have hi := fr_from_iff (v := 2) hf (by decide) (by decide)
  by_cases e : x (f 24) 0 = 2
  · rw [if_pos e, if_pos (hi.mpr e).symm, show m + 48 = (m + 8) + 40 from rfl, show m1 + 59 = (m1 + 12) + 47 from rfl]
    exact fr_d2 n d n1 d1 _ _ b1 b6 h hf
  · rw [if_neg e, if_neg (fun q => e (hi.mp q.symm)), ← hn]
    by_cases e0 : x (28 + 2) 3 = 0
    · have q1 : fn_ev 0 (n + 2000) (d + 7) 40 [.ref 30, .ref (f 24), .ref 1] x = some (x, none) := fe_off (k := 2) (by decide) (by decide) e0 n (d + 5) (f 24)
      rw [q1, fb_v, if_pos e0, show m1 + 54 = (m1 + 7) + 47 from rfl]
      exact fr_d2 n d n1 d1 _ _ b1 b6 h hf
    · obtain ⟨y, y', c', q1, q2, q3, q4⟩ := fr_nhear h (k := 2) (by decide) (by decide) e0 n d n1 (d1 + 2)
      have q1' : fn_ev 0 (n + 2000) (d + 7) 40 [.ref 30, .ref (f 24), .ref 1] x = some (y, none) := q1
      have q2' : fn_ev 1 (n1 + 2000) (d1 + 8) 97 [.ref 0, .int 2, .int (x (f 24) 1), .int (x (f 24) 2), .int (x (f 24) 3), .int (x (f 24) 4)] z = some (y', none) := q2
      rw [q1', fb_v, if_neg e0, q2', fb_v, ← q4]
      exact fr_d2 n d n1 d1 _ _ b1 b6 q3 (by rw [q4]; exact hf)
theorem fr_d0 (n d n1 d1 m m1 : Nat) (b1 b6 : Int32) (h : fr_R t c f x z) (hf : fr_from (x (f 24) 0) b6) : fr_dd t f (fn_run 0 (fn_ev 0 (n + 2000) (d + 7)) (fn_lk fn_d79) (m + 74) 19 [(0, .ref 0), (1, .ref (f 24))] [] x) (fn_run 1 (fn_ev 1 (n1 + 2000) (d1 + 8)) (fn_lk fn_d89) (m1 + 87) 135 [(0, .ref 0), (1, .int b1), (2, .int (x (f 24) 1)), (3, .int (x (f 24) 2)), (4, .int (x (f 24) 3)), (5, .int (x (f 24) 4)), (6, .int b6)] [] z) := by
  have h24 := fr_p24 h
  have hlc : fn_lc 0 (f 24) = 2 := fr_fr _ h24.2 h24.1
  have hn := (h.2.1 1 (by decide) (by decide)).2.1
  rw [ft_Net_deliver_at19 n (d + 7), ft_Model_slot_at135 n1 (d1 + 8), if_pos hlc]
  have hi := fr_from_iff (v := 1) hf (by decide) (by decide)
  by_cases e : x (f 24) 0 = 1
  · rw [if_pos e, if_pos (hi.mpr e).symm, show m + 65 = (m + 8) + 57 from rfl, show m1 + 79 = (m1 + 12) + 67 from rfl]
    exact fr_d1 n d n1 d1 _ _ b1 b6 h hf
  · rw [if_neg e, if_neg (fun q => e (hi.mp q.symm)), ← hn]
    by_cases e0 : x (28 + 1) 3 = 0
    · have q1 : fn_ev 0 (n + 2000) (d + 7) 40 [.ref 29, .ref (f 24), .ref 1] x = some (x, none) := fe_off (k := 1) (by decide) (by decide) e0 n (d + 5) (f 24)
      rw [q1, fb_v, if_pos e0, show m1 + 74 = (m1 + 7) + 67 from rfl]
      exact fr_d1 n d n1 d1 _ _ b1 b6 h hf
    · obtain ⟨y, y', c', q1, q2, q3, q4⟩ := fr_nhear h (k := 1) (by decide) (by decide) e0 n d n1 (d1 + 2)
      have q1' : fn_ev 0 (n + 2000) (d + 7) 40 [.ref 29, .ref (f 24), .ref 1] x = some (y, none) := q1
      have q2' : fn_ev 1 (n1 + 2000) (d1 + 8) 97 [.ref 0, .int 1, .int (x (f 24) 1), .int (x (f 24) 2), .int (x (f 24) 3), .int (x (f 24) 4)] z = some (y', none) := q2
      rw [q1', fb_v, if_neg e0, q2', fb_v, ← q4]
      exact fr_d1 n d n1 d1 _ _ b1 b6 q3 (by rw [q4]; exact hf)
/-- a slot -/
theorem fr_slot (h : fr_R t c f x z) (n d n1 d1 : Nat) :
    (∃ x' z', fn_ev 0 (n + 2000) (d + 8) 57 [.ref 1] x = some (x', some .null) ∧ fn_ev 1 (n1 + 2000) (d1 + 9) 89 [.ref 0] z = some (z', some (.int 0)) ∧ fr_R t c f x' z') ∨
    (∃ x1 f1 x' z' c', fn_ev 0 (n + 2000) (d + 8) 57 [.ref 1] x = some (x1, some (.ref (f1 24))) ∧ fn_ev 0 (n + 2000) (d + 8) 79 [.ref 0, .ref (f1 24)] x1 = some (x', none) ∧ fn_ev 1 (n1 + 2000) (d1 + 9) 89 [.ref 0] z = some (z', some (.int 1)) ∧ fr_R t c' f1 x' z') := by
  have hR := h
  obtain ⟨⟨hc, h1, h2, h3, h4, h5, h6, h7, h8, h9, h10, h11, h12, ht⟩, -⟩ := h
  rw [ft_Wire_useSlot n (d + 7), ft_Model_slot n1 (d1 + 8), h1, h2]
  by_cases c0 : c = 0
  · rw [c0, if_pos nI_0, if_pos nI_0]
    exact Or.inl ⟨x, z, rfl, rfl, c0 ▸ hR⟩
  · rw [if_neg (nI_ne0 (by omega) (by omega)), if_neg (nI_ne0 (by omega) (by omega)), ← h7]
    by_cases e : x 1 5 ≤ 0
    · right
      rw [if_pos e, if_pos e]
      obtain ⟨K, m', m1', hK, s1, s2⟩ := fr_find hR.1 n (d + 7) n1 (d1 + 8) (c - 1) 1 0 (n + 1971 - 19 * (c - 1)) (n1 + 1863 - 18 * (c - 1)) (by omega) (by decide)
      rw [show n + 1971 - 19 * (c - 1) + 19 + 19 * (c - 1) = n + 1990 by omega, nI_0, show nI 1 = 1 from rfl] at s1
      rw [show n1 + 1863 - 18 * (c - 1) + 127 + 18 * (c - 1) = n1 + 1990 by omega, nI_0, show nI 1 = 1 from rfl] at s2
      have cK : (nI K).toNatClampNeg = K := fr_cl (by omega)
      have xK : ¬ (nI K < 0 ∨ 24 ≤ K) := by have := fr_ix (c := K) (N := 24) (by omega) (by decide); rwa [cK] at this
      obtain ⟨x1, z1, p1, p2, p3, p4⟩ := fr_take hR hK n (d + 6) n1 (d1 + 7)
      have hf24 : fr_fk c K f 24 = f K := rfl
      have hb := h8 K (by omega)
      have hlc : fn_lc 0 (f K) = 2 := fr_fr _ hb.2 hb.1
      obtain ⟨g1, g2, g3, g4, g5⟩ := h12 K hK
      have hf : fr_from (x1 (fr_fk c K f 24) 0) (z 14 K) := by rw [hf24, p4]; exact g5
      have hi := fr_from_iff (v := 0) hf (by decide) (by decide)
      rw [s1, s2, ft_Wire_useSlot_at42 n (d + 7), ft_Model_slot_at42 n1 (d1 + 8), h1, h2, if_pos (nI_le (Nat.le_refl _) (by omega)), if_pos (nI_le (Nat.le_refl _) (by omega)), p1, fb_r]
      simp only [cK, if_neg xK]
      rw [p2, fb_v, ← g1, ← g2, ← g3, ← g4, ← p4, ← hf24]
      by_cases e0 : x1 (fr_fk c K f 24) 0 = 0
      · rw [if_pos (hi.mpr e0), show m1' + 93 = (m1' + 6) + 87 from rfl]
        obtain ⟨x', z', c', q1, q2, q3⟩ := fr_d0 n d n1 d1 (n + 1923) (m1' + 6) (nI K) (z 14 K) p3 hf
        refine ⟨x1, fr_fk c K f, x', z', c', rfl, ?_, q2, q3⟩
        rw [ft_Net_deliver n (d + 7), hf24, if_pos hlc, ← hf24, if_pos e0]
        exact q1
      · rw [if_neg (fun q => e0 (hi.mp q))]
        obtain ⟨y, y', c1, r1, r2, r3, r4⟩ := fr_mhear p3 n (d + 2) n1 d1
        obtain ⟨x', z', c', q1, q2, q3⟩ := fr_d0 n d n1 d1 (n + 1917) m1' (nI K) (z 14 K) r3 (by rw [r4]; exact hf)
        rw [r4] at q2
        rw [r2, fb_v]
        refine ⟨x1, fr_fk c K f, x', z', c', rfl, ?_, q2, q3⟩
        rw [ft_Net_deliver n (d + 7), hf24, if_pos hlc, ← hf24, if_neg e0, r1, fb_v]
        exact q1
    · left
      rw [if_neg e, if_neg e]
      refine ⟨_, _, rfl, rfl, fr_Rb hR ⟨hc, ?_, ?_, ?_, ?_, ?_, ?_, ?_, h8, h9, ?_, ?_, ?_, ht⟩ (fun q b => ?_) (fun q b1 b2 => ?_) (fun j b => ?_)⟩
      all_goals try intro i hi
      all_goals try have hb := h8 i (by omega)
      all_goals simp (disch := omega) only [fw_any, fw_eq, fw_row]
      · exact h1
      · exact h2
      · exact h3
      · exact h4
      · exact h5
      · rw [h6]
      · exact h10 i hi
      · exact h11
      · exact h12 i hi
/-- the three slots of a tick -/
def fr_as (n d : Nat) (y5 : fn_M) : Option fn_R := (fn_br (fn_ev 0 (n + 2000) d 57 [.ref 1] y5) (fun y6 p7 => (fn_bv (fn_ev 0 (n + 2000) d 79 [.ref 0, .ref p7] y6) (fun y8 => (fn_br (fn_ev 0 (n + 2000) d 57 [.ref 1] y8) (fun y9 p10 => (fn_bv (fn_ev 0 (n + 2000) d 79 [.ref 0, .ref p10] y9) (fun y11 => (fn_br (fn_ev 0 (n + 2000) d 57 [.ref 1] y11) (fun y12 p13 => (fn_bv (fn_ev 0 (n + 2000) d 79 [.ref 0, .ref p13] y12) (fun y14 => some (y14, some (.int 3))))) (fun y12 => some (y12, some (.int 2))))))) (fun y9 => (fn_br (fn_ev 0 (n + 2000) d 57 [.ref 1] y9) (fun y15 p16 => (fn_bv (fn_ev 0 (n + 2000) d 79 [.ref 0, .ref p16] y15) (fun y17 => some (y17, some (.int 2))))) (fun y15 => some (y15, some (.int 1))))))))) (fun y6 => (fn_br (fn_ev 0 (n + 2000) d 57 [.ref 1] y6) (fun y18 p19 => (fn_bv (fn_ev 0 (n + 2000) d 79 [.ref 0, .ref p19] y18) (fun y20 => (fn_br (fn_ev 0 (n + 2000) d 57 [.ref 1] y20) (fun y21 p22 => (fn_bv (fn_ev 0 (n + 2000) d 79 [.ref 0, .ref p22] y21) (fun y23 => some (y23, some (.int 2))))) (fun y21 => some (y21, some (.int 1))))))) (fun y18 => (fn_br (fn_ev 0 (n + 2000) d 57 [.ref 1] y18) (fun y24 p25 => (fn_bv (fn_ev 0 (n + 2000) d 79 [.ref 0, .ref p25] y24) (fun y26 => some (y26, some (.int 1))))) (fun y24 => some (y24, some (.int 0))))))))
def fr_a5 (n d : Nat) (y : fn_M) : Option fn_R := fn_bv (fn_ev 0 (n + 2000) d 15 [.ref 45, .ref 1] y) (fr_as n d)
def fr_a4 (n d : Nat) (y : fn_M) : Option fn_R := fn_bv (fn_ev 0 (n + 2000) d 37 [.ref 32, .ref 1] y) (fr_a5 n d)
def fr_a3 (n d : Nat) (y : fn_M) : Option fn_R := fn_bv (fn_ev 0 (n + 2000) d 37 [.ref 31, .ref 1] y) (fr_a4 n d)
def fr_a2 (n d : Nat) (y : fn_M) : Option fn_R := fn_bv (fn_ev 0 (n + 2000) d 37 [.ref 30, .ref 1] y) (fr_a3 n d)
def fr_a1 (n d : Nat) (y : fn_M) : Option fn_R := fn_bv (fn_ev 0 (n + 2000) d 37 [.ref 29, .ref 1] y) (fr_a2 n d)
theorem fr_a0 (n d : Nat) (x : fn_M) : fn_ev 0 (n + 2000) (d + 1) 71 [.ref 0] x = fr_a1 n d (fn_w x 1 6 (x 1 6 + 1)) := ft_Net_tick n d x
def fr_bs (n d : Nat) (y1 : fn_M) : Option fn_R := (fn_bi (fn_ev 1 (n + 2000) d 89 [.ref 0] y1) (fun y2 v3 => (fn_bi (fn_ev 1 (n + 2000) d 89 [.ref 0] y2) (fun y4 v5 => (fn_bi (fn_ev 1 (n + 2000) d 89 [.ref 0] y4) (fun y6 v7 => some (y6, some (.int (((0 + v3) + v5) + v7)))))))))
def fr_b5 (n d : Nat) (y : fn_M) : Option fn_R := fn_bv (fn_ev 1 (n + 2000) d 115 [.ref 0] y) (fr_bs n d)
def fr_b4 (n d : Nat) (y : fn_M) : Option fn_R := if (y 1 4) = 0 then fr_b5 n d y else fn_bv (fn_ev 1 (n + 2000) d 104 [.ref 0, .int 4] y) (fr_b5 n d)
def fr_b3 (n d : Nat) (y : fn_M) : Option fn_R := if (y 1 3) = 0 then fr_b4 n d y else fn_bv (fn_ev 1 (n + 2000) d 104 [.ref 0, .int 3] y) (fr_b4 n d)
def fr_b2 (n d : Nat) (y : fn_M) : Option fn_R := if (y 1 2) = 0 then fr_b3 n d y else fn_bv (fn_ev 1 (n + 2000) d 104 [.ref 0, .int 2] y) (fr_b3 n d)
def fr_b1 (n d : Nat) (y : fn_M) : Option fn_R := if (y 1 1) = 0 then fr_b2 n d y else fn_bv (fn_ev 1 (n + 2000) d 104 [.ref 0, .int 1] y) (fr_b2 n d)
theorem fr_b0 (n d : Nat) (x : fn_M) : fn_ev 1 (n + 2000) (d + 1) 126 [.ref 0] x = fr_b1 n d (fn_w x 0 0 (x 0 0 + 1)) := by
  rw [ft_Model_tick n d]
  rfl
theorem fr_ts (h : fr_R t c f x z) (n d n1 d1 : Nat) : fr_pub t (fr_as n (d + 8) x) (fr_bs n1 (d1 + 9) z) := by
  unfold fr_as fr_bs
  rcases fr_slot h n d n1 d1 with ⟨x1, z1, p1, p2, p3⟩ | ⟨x1, f1, y1, z1, c1, p1, p2, p3, p4⟩
  · rw [p1, fb_n, p2, fb_i]
    rcases fr_slot p3 n d n1 d1 with ⟨x2, z2, q1, q2, q3⟩ | ⟨x2, f2, y2, z2, c2, q1, q2, q3, q4⟩
    · rw [q1, fb_n, q2, fb_i]
      rcases fr_slot q3 n d n1 d1 with ⟨x3, z3, r1, r2, r3⟩ | ⟨x3, f3, y3, z3, c3, r1, r2, r3, r4⟩
      · rw [r1, fb_n, r2, fb_i]
        exact ⟨_, _, _, _, _, rfl, rfl, r3⟩
      · rw [r1, fb_r, r2, fb_v, r3, fb_i]
        exact ⟨_, _, _, _, _, rfl, rfl, r4⟩
    · rw [q1, fb_r, q2, fb_v, q3, fb_i]
      rcases fr_slot q4 n d n1 d1 with ⟨x3, z3, r1, r2, r3⟩ | ⟨x3, f3, y3, z3, c3, r1, r2, r3, r4⟩
      · rw [r1, fb_n, r2, fb_i]
        exact ⟨_, _, _, _, _, rfl, rfl, r3⟩
      · rw [r1, fb_r, r2, fb_v, r3, fb_i]
        exact ⟨_, _, _, _, _, rfl, rfl, r4⟩
  · rw [p1, fb_r, p2, fb_v, p3, fb_i]
    rcases fr_slot p4 n d n1 d1 with ⟨x2, z2, q1, q2, q3⟩ | ⟨x2, f2, y2, z2, c2, q1, q2, q3, q4⟩
    · rw [q1, fb_n, q2, fb_i]
      rcases fr_slot q3 n d n1 d1 with ⟨x3, z3, r1, r2, r3⟩ | ⟨x3, f3, y3, z3, c3, r1, r2, r3, r4⟩
      · rw [r1, fb_n, r2, fb_i]
        exact ⟨_, _, _, _, _, rfl, rfl, r3⟩
      · rw [r1, fb_r, r2, fb_v, r3, fb_i]
        exact ⟨_, _, _, _, _, rfl, rfl, r4⟩
    · rw [q1, fb_r, q2, fb_v, q3, fb_i]
      rcases fr_slot q4 n d n1 d1 with ⟨x3, z3, r1, r2, r3⟩ | ⟨x3, f3, y3, z3, c3, r1, r2, r3, r4⟩
      · rw [r1, fb_n, r2, fb_i]
        exact ⟨_, _, _, _, _, rfl, rfl, r3⟩
      · rw [r1, fb_r, r2, fb_v, r3, fb_i]
        exact ⟨_, _, _, _, _, rfl, rfl, r4⟩
theorem fr_t5 (h : fr_R t c f x z) (n d n1 d1 : Nat) : fr_pub t (fr_a5 n (d + 8) x) (fr_b5 n1 (d1 + 9) z) := by
  unfold fr_a5 fr_b5
  obtain ⟨y, y', c', q1, q2, q3, q4⟩ := fr_mlive h n (d + 3) n1 (d1 + 3)
  rw [q1, q2, fb_v, fb_v]
  exact fr_ts q3 n d n1 d1
theorem fr_t4 (h : fr_R t c f x z) (n d n1 d1 : Nat) : fr_pub t (fr_a4 n (d + 8) x) (fr_b4 n1 (d1 + 9) z) := by
  unfold fr_a4 fr_b4
  have hn := (h.2.1 4 (by decide) (by decide)).2.1
  rw [← hn]
  by_cases e0 : x (28 + 4) 3 = 0
  · have q1 : fn_ev 0 (n + 2000) (d + 8) 37 [.ref 32, .ref 1] x = some (x, none) := by
      rw [show (32 : Nat) = 28 + 4 from rfl, fk_Node_live n (d + 7) (by decide) (by decide), fk_Node_isOn n (d + 6) (by decide) (by decide), if_pos e0, fb_i, if_pos rfl]
    rw [if_pos e0, q1, fb_v]
    exact fr_t5 h n d n1 d1
  · obtain ⟨y, y', c', q1, q2, q3, q4⟩ := fr_live h (k := 4) (by decide) (by decide) e0 n (d + 4) n1 (d1 + 6)
    have q1' : fn_ev 0 (n + 2000) (d + 8) 37 [.ref 32, .ref 1] x = some (y, none) := q1
    have q2' : fn_ev 1 (n1 + 2000) (d1 + 9) 104 [.ref 0, .int 4] z = some (y', none) := q2
    rw [if_neg e0, q1', q2', fb_v, fb_v]
    exact fr_t5 q3 n d n1 d1
theorem fr_t3 (h : fr_R t c f x z) (n d n1 d1 : Nat) : fr_pub t (fr_a3 n (d + 8) x) (fr_b3 n1 (d1 + 9) z) := by
  unfold fr_a3 fr_b3
  have hn := (h.2.1 3 (by decide) (by decide)).2.1
  rw [← hn]
  by_cases e0 : x (28 + 3) 3 = 0
  · have q1 : fn_ev 0 (n + 2000) (d + 8) 37 [.ref 31, .ref 1] x = some (x, none) := by
      rw [show (31 : Nat) = 28 + 3 from rfl, fk_Node_live n (d + 7) (by decide) (by decide), fk_Node_isOn n (d + 6) (by decide) (by decide), if_pos e0, fb_i, if_pos rfl]
    rw [if_pos e0, q1, fb_v]
    exact fr_t4 h n d n1 d1
  · obtain ⟨y, y', c', q1, q2, q3, q4⟩ := fr_live h (k := 3) (by decide) (by decide) e0 n (d + 4) n1 (d1 + 6)
    have q1' : fn_ev 0 (n + 2000) (d + 8) 37 [.ref 31, .ref 1] x = some (y, none) := q1
    have q2' : fn_ev 1 (n1 + 2000) (d1 + 9) 104 [.ref 0, .int 3] z = some (y', none) := q2
    rw [if_neg e0, q1', q2', fb_v, fb_v]
    exact fr_t4 q3 n d n1 d1
theorem fr_t2 (h : fr_R t c f x z) (n d n1 d1 : Nat) : fr_pub t (fr_a2 n (d + 8) x) (fr_b2 n1 (d1 + 9) z) := by
  unfold fr_a2 fr_b2
  have hn := (h.2.1 2 (by decide) (by decide)).2.1
  rw [← hn]
  by_cases e0 : x (28 + 2) 3 = 0
  · have q1 : fn_ev 0 (n + 2000) (d + 8) 37 [.ref 30, .ref 1] x = some (x, none) := by
      rw [show (30 : Nat) = 28 + 2 from rfl, fk_Node_live n (d + 7) (by decide) (by decide), fk_Node_isOn n (d + 6) (by decide) (by decide), if_pos e0, fb_i, if_pos rfl]
    rw [if_pos e0, q1, fb_v]
    exact fr_t3 h n d n1 d1
  · obtain ⟨y, y', c', q1, q2, q3, q4⟩ := fr_live h (k := 2) (by decide) (by decide) e0 n (d + 4) n1 (d1 + 6)
    have q1' : fn_ev 0 (n + 2000) (d + 8) 37 [.ref 30, .ref 1] x = some (y, none) := q1
    have q2' : fn_ev 1 (n1 + 2000) (d1 + 9) 104 [.ref 0, .int 2] z = some (y', none) := q2
    rw [if_neg e0, q1', q2', fb_v, fb_v]
    exact fr_t3 q3 n d n1 d1
theorem fr_t1 (h : fr_R t c f x z) (n d n1 d1 : Nat) : fr_pub t (fr_a1 n (d + 8) x) (fr_b1 n1 (d1 + 9) z) := by
  unfold fr_a1 fr_b1
  have hn := (h.2.1 1 (by decide) (by decide)).2.1
  rw [← hn]
  by_cases e0 : x (28 + 1) 3 = 0
  · have q1 : fn_ev 0 (n + 2000) (d + 8) 37 [.ref 29, .ref 1] x = some (x, none) := by
      rw [show (29 : Nat) = 28 + 1 from rfl, fk_Node_live n (d + 7) (by decide) (by decide), fk_Node_isOn n (d + 6) (by decide) (by decide), if_pos e0, fb_i, if_pos rfl]
    rw [if_pos e0, q1, fb_v]
    exact fr_t2 h n d n1 d1
  · obtain ⟨y, y', c', q1, q2, q3, q4⟩ := fr_live h (k := 1) (by decide) (by decide) e0 n (d + 4) n1 (d1 + 6)
    have q1' : fn_ev 0 (n + 2000) (d + 8) 37 [.ref 29, .ref 1] x = some (y, none) := q1
    have q2' : fn_ev 1 (n1 + 2000) (d1 + 9) 104 [.ref 0, .int 1] z = some (y', none) := q2
    rw [if_neg e0, q1', q2', fb_v, fb_v]
    exact fr_t2 q3 n d n1 d1
/-- a tick -/
theorem fp_tick (h : fr_R t c f x z) (ht : t + 1 ≤ 1000) (n d n1 d1 : Nat) : fr_pub (t + 1) (fn_ev 0 (n + 2000) (d + 9) 71 [.ref 0] x) (fn_ev 1 (n1 + 2000) (d1 + 10) 126 [.ref 0] z) := by
  rw [fr_a0 n (d + 8), fr_b0 n1 (d1 + 9), (fr_now h).1, (fr_now h).2, nI_1]
  exact fr_t1 (fr_s_now h ht) n d n1 d1
end FTK
