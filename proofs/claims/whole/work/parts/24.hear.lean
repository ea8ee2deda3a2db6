/-! ===== what a node hears ===== -/
section FH
variable {t c k : Nat} {f : Nat → Nat} {x z : fn_M}
/-- not the number of a node -/
def fr_nn (a : Int32) : Prop := a < 1 ∨ 4 < a
theorem fe_node0 (n d : Nat) (x : fn_M) {a : Int32} (h : fr_nn a) : fn_ev 0 (n + 2000) (d + 1) 81 [.int a] x = some (x, some (.int 0)) := by
  rw [ft_Net_isNode]
  by_cases e : a < 1
  · rw [if_pos e]
  · rw [if_neg e, if_pos (h.resolve_left e)]
theorem fe_node1 (n d : Nat) (x : fn_M) {a : Int32} (h : ¬ fr_nn a) : fn_ev 0 (n + 2000) (d + 1) 81 [.int a] x = some (x, some (.int 1)) := by
  rw [ft_Net_isNode, if_neg (fun e => h (Or.inl e)), if_neg (fun e => h (Or.inr e))]
theorem fe_send0 (n d : Nat) (x : fn_M) {a b : Int32} (h : fr_nn (a - b)) : fn_ev 1 (n + 2000) (d + 2) 90 [.int a, .int b] x = some (x, some (.int 0)) := by
  rw [ft_Model_sender, ft_Model_node]
  by_cases e : a - b < 1
  · rw [if_pos e, fb_i, if_pos rfl]
  · rw [if_neg e, if_pos (h.resolve_left e), fb_i, if_pos rfl]
theorem fe_send1 (n d : Nat) (x : fn_M) {a b : Int32} (h : ¬ fr_nn (a - b)) : fn_ev 1 (n + 2000) (d + 2) 90 [.int a, .int b] x = some (x, some (.int (a - b))) := by
  rw [ft_Model_sender, ft_Model_node, if_neg (fun e => h (Or.inl e)), if_neg (fun e => h (Or.inr e)), fb_i, if_neg (by decide)]
theorem fr_1to4 {a : Int32} (h : ¬ fr_nn a) : ∃ j, 1 ≤ j ∧ j ≤ 4 ∧ a = nI j := by
  have g1 : ¬ a < 1 := fun e => h (Or.inl e)
  have g2 : ¬ 4 < a := fun e => h (Or.inr e)
  rw [Int32.lt_iff_toInt_lt] at g1 g2
  rw [show (1 : Int32).toInt = 1 from rfl] at g1
  rw [show (4 : Int32).toInt = 4 from rfl] at g2
  refine ⟨a.toInt.toNat, by omega, by omega, ?_⟩
  apply Int32.toInt_inj.mp
  rw [nI_toInt (by omega)]
  omega
theorem fr_div3 {a b c : Nat} (ha : a ≤ 4) (hb : b < 100) (hc : c < 100) : nI (10000 * a + 100 * b + c) / 10000 = nI a ∧ nI (10000 * a + 100 * b + c) / 100 = nI (100 * a + b) ∧ nI (10000 * a + 100 * b + c) - nI (100 * a + b) * 100 = nI c ∧ nI (100 * a + b) / 100 = nI a ∧ nI (100 * a + b) - nI a * 100 = nI b := by
  have e1 : nI (10000 * a + 100 * b + c) / 10000 = nI a := by
    apply Int32.toInt_inj.mp
    rw [Int32.toInt_div_of_ne_right _ _ (by decide), nI_toInt (by omega), nI_toInt (by omega), show (10000 : Int32).toInt = 10000 from rfl, Int.tdiv_eq_ediv_of_nonneg (by omega)]
    omega
  have e2 : nI (10000 * a + 100 * b + c) / 100 = nI (100 * a + b) := by
    apply Int32.toInt_inj.mp
    rw [Int32.toInt_div_of_ne_right _ _ (by decide), nI_toInt (by omega), nI_toInt (by omega), show (100 : Int32).toInt = 100 from rfl, Int.tdiv_eq_ediv_of_nonneg (by omega)]
    omega
  obtain ⟨e3, e4⟩ := fr_div (a := a) (b := b) (by omega) (by omega)
  refine ⟨e1, e2, ?_, e3, ?_⟩
  · rw [show (100 : Int32) = nI 100 from rfl, fr_mul, fr_sub (by omega)]
    congr 1
    omega
  · rw [← e3]; exact e4
theorem fe_fill (n d : Nat) (x : fn_M) (h1 : 1 ≤ k) (h2 : k ≤ 4) {j : Nat} (j1 : 12 ≤ j) (j2 : j ≤ 15) (v : Int32) : fn_ev 0 (n + 2000) (d + 2) 44 [.ref (28 + k), .int (nI j), .int v] x = some (fn_w x (32 + k) j v, none) := by
  have hcl : (nI j).toNatClampNeg = j := fr_cl (by omega)
  have hix : ¬ (nI j < 0 ∨ 16 ≤ j) := by have := fr_ix (c := j) (N := 16) (by omega) (by decide); rwa [hcl] at this
  rw [fk_Node_fillOutput n (d + 1) h1 h2, ft_Net_isOutput, if_neg (show ¬ nI j < 12 from nI_nlt (b := 12) j1 (by omega)), if_neg (show ¬ 15 < nI j from nI_nlt (a := 15) j2 (by decide)), fb_i, if_neg (by decide)]
  simp only [hcl, if_neg hix]
/-- a sample of another node -/
theorem fr_sample (h : fr_R t c f x z) (h1 : 1 ≤ k) (h2 : k ≤ 4) {j : Nat} (j1 : 1 ≤ j) (j2 : j ≤ 4) (n d n1 d1 m : Nat) (l2 l3 b w : Int32) (hl : l2 - 384 = nI j) : ∃ x' z' m', fn_ev 0 (n + 2000) (d + 3) 43 [.ref (28 + k), .int (nI j), .int b, .int w] x = some (x', none) ∧
    fn_run 1 (fn_ev 1 (n1 + 2000) (d1 + 2)) (fn_lk fn_d97) (m + 73) 124 [(0, .ref 0), (1, .int (nI k)), (2, .int l2), (3, .int l3), (4, .int b), (5, .int w)] [] z = fn_run 1 (fn_ev 1 (n1 + 2000) (d1 + 2)) (fn_lk fn_d97) (m' + 23) 211 [(0, .ref 0), (1, .int (nI k)), (2, .int l2), (3, .int l3), (4, .int b), (5, .int w), (6, .int (nI j))] [] z' ∧ fr_R t c f x' z' ∧ x' (f 24) = x (f 24) := by
  obtain ⟨a1, a2, a3, a4, a5, a6, a7, a8, a9, a10, a11, a12, a13, a14, a15⟩ := h.2.1 k h1 h2
  have hcl : (nI k).toNatClampNeg = k := fr_cl (by omega)
  have hix : ¬ (nI k < 0 ∨ 5 ≤ k) := by have := fr_ix (c := k) (N := 5) (by omega) (by decide); rwa [hcl] at this
  have h24 := fr_p24 h
  have hnn : ¬ fr_nn (l2 - 384) := by
    rw [hl]
    rintro (e | e)
    · exact nI_nlt (b := 1) j1 (by omega) e
    · exact nI_nlt (a := 4) j2 (by decide) e
  rw [fk_Node_takeSample n (d + 2) h1 h2, ft_Model_toNode_at124 n1 (d1 + 2), fe_send1 n1 d1 z hnn, fb_i, hl, if_neg (nI_nle (by omega) (by omega))]
  simp only [hcl, if_neg hix]
  rw [← a2]
  by_cases s5 : x (28 + k) 3 = 5
  · rw [if_pos s5, if_pos s5, fe_of (a2 := 7) n1 (d1 + 1) z h2 (j := 7) (by decide) rfl, fb_i, a4 7 (by decide)]
    rcases a5 7 (by decide) with e | ⟨s, p, q, g1, g2, g3, g4, g5, g6, g7, g8⟩
    · have hne : ¬ (0 : Int32) / 10000 = nI j := fun e => by
        rw [show (0 : Int32) / 10000 = nI 0 from rfl] at e
        have := (fr_eq (by omega) (by omega)).mp e
        omega
      rw [e, if_neg hne, if_neg hne]
      exact ⟨x, z, m + 30, rfl, rfl, h, rfl⟩
    · obtain ⟨v1, v2, v3, v4, v5⟩ := fr_div3 (a := s) (b := p) (c := q) (by omega) (by omega) (by omega)
      rw [g8, v1]
      by_cases hs : s = j
      · subst hs
        have cl : ∀ i, i < 16 → (nI (16 * k + i)).toNatClampNeg = 16 * k + i := fun i hi => fr_cl (by omega)
        have ix : ∀ i, i < 16 → ¬ (nI (16 * k + i) < 0 ∨ 80 ≤ 16 * k + i) := fun i hi => by have := fr_ix (c := 16 * k + i) (N := 80) (by omega) (by decide); rwa [cl i hi] at this
        rw [if_pos rfl, if_pos rfl, v2, v4, v5, v3, fe_fill n d x h1 h2 g4 g5, fb_v, fe_fill n d _ h1 h2 g6 g7, fb_v, fe_of (a2 := 7) n1 (d1 + 1) z h2 (j := 7) (by decide) rfl, fb_i, a4 7 (by decide), g8, v2, v4, v5, fr_16]
        simp only [cl p (by omega), if_neg (ix p (by omega))]
        rw [fe_of (a2 := 7) n1 (d1 + 1) _ h2 (j := 7) (by decide) rfl, fb_i, fw_nj (by omega), a4 7 (by decide), g8, v2, v3, fr_16]
        simp only [cl q (by omega), if_neg (ix q (by omega))]
        have o1 := fr_s_obj (v := b) h h1 h2 (j := p) (by omega) (by omega) (by obtain rfl | rfl | rfl | rfl : p = 12 ∨ p = 13 ∨ p = 14 ∨ p = 15 := by omega
                                                                                all_goals exact trivial)
        have o2 := fr_s_obj (v := w) o1 h1 h2 (j := q) (by omega) (by omega) (by obtain rfl | rfl | rfl | rfl : q = 12 ∨ q = 13 ∨ q = 14 ∨ q = 15 := by omega
                                                                                 all_goals exact trivial)
        refine ⟨_, _, m, rfl, rfl, o2, ?_⟩
        rw [fw_row (by omega), fw_row (by omega)]
      · have hne : ¬ nI s = nI j := fun e => hs ((fr_eq (by omega) (by omega)).mp e)
        rw [if_neg hne, if_neg hne]
        exact ⟨x, z, m + 30, rfl, rfl, h, rfl⟩
  · rw [if_neg s5, if_neg s5]
    exact ⟨x, z, m + 38, rfl, rfl, h, rfl⟩
/-- a beat of another node -/
theorem fr_tb (h : fr_R t c f x z) (h1 : 1 ≤ k) (h2 : k ≤ 4) {j : Nat} (j1 : 1 ≤ j) (j2 : j ≤ 4) (n d n1 d1 m : Nat) (l2 l3 b w l6 : Int32) (hl : l2 - 1792 = nI j) : fr_vv t f x (fn_ev 0 (n + 2000) (d + 1) 45 [.ref (28 + k), .int (nI j), .int l3, .int (x 1 6)] x)
    (fn_run 1 (fn_ev 1 (n1 + 2000) (d1 + 2)) (fn_lk fn_d97) (m + 23) 211 [(0, .ref 0), (1, .int (nI k)), (2, .int l2), (3, .int l3), (4, .int b), (5, .int w), (6, .int l6)] [] z) := by
  obtain ⟨a1, a2, a3, a4, a5, a6, a7, a8, a9, a10, a11, a12, a13, a14, a15⟩ := h.2.1 k h1 h2
  have hcl : (nI k).toNatClampNeg = k := fr_cl (by omega)
  have hix : ¬ (nI k < 0 ∨ 5 ≤ k) := by have := fr_ix (c := k) (N := 5) (by omega) (by decide); rwa [hcl] at this
  have h24 := fr_p24 h
  have hnn : ¬ fr_nn (l2 - 1792) := by
    rw [hl]
    rintro (e | e)
    · exact nI_nlt (b := 1) j1 (by omega) e
    · exact nI_nlt (a := 4) j2 (by decide) e
  rw [fk_Node_takeBeat n d h1 h2, ft_Model_toNode_at211 n1 (d1 + 2), fe_send1 n1 d1 z hnn, fb_i, hl, if_neg (nI_nle (by omega) (by omega)), fe_of (a2 := 3) n1 (d1 + 1) z h2 (j := 3) (by decide) rfl, fb_i, a4 3 (by decide)]
  simp only [hcl, if_neg hix]
  by_cases e : x (32 + k) 3 / 100 = nI j
  · rw [if_pos e, if_pos e]
    by_cases e0 : l3 = 0
    · rw [if_pos e0, if_pos e0, ft_Model_toNode_at257 n1 (d1 + 2)]
      refine ⟨_, _, c, rfl, rfl, fr_s_heard h h1 h2 (Or.inl rfl), ?_⟩
      rw [fw_row (by omega)]
    · rw [if_neg e0, if_neg e0, ft_Model_toNode_at257 n1 (d1 + 2), (fr_now h).1, (fr_now h).2]
      refine ⟨_, _, c, rfl, rfl, fr_s_heard h h1 h2 (Or.inr ⟨t, Nat.le_refl _, rfl⟩), ?_⟩
      rw [fw_row (by omega)]
  · rw [if_neg e, if_neg e, ft_Model_toNode_at257 n1 (d1 + 2)]
    exact ⟨x, z, c, rfl, rfl, h, rfl⟩
/-- a sync is counted -/
theorem fr_sync (h : fr_R t c f x z) (h1 : 1 ≤ k) (h2 : k ≤ 4) (n d n1 d1 m : Nat) (l3 b w : Int32) : ∃ x' z' c' m', fn_ev 0 (n + 2000) (d + 4) 42 [.ref (28 + k), .ref 1] x = some (x', none) ∧
    fn_run 1 (fn_ev 1 (n1 + 2000) (d1 + 2)) (fn_lk fn_d97) (m + 135) 21 [(0, .ref 0), (1, .int (nI k)), (2, .int 128), (3, .int l3), (4, .int b), (5, .int w)] [] z = fn_run 1 (fn_ev 1 (n1 + 2000) (d1 + 2)) (fn_lk fn_d97) (m' + 96) 84 [(0, .ref 0), (1, .int (nI k)), (2, .int 128), (3, .int l3), (4, .int b), (5, .int w)] [] z' ∧ fr_R t c' f x' z' ∧ x' (f 24) = x (f 24) := by
  obtain ⟨a1, a2, a3, a4, a5, a6, a7, a8, a9, a10, a11, a12, a13, a14, a15⟩ := h.2.1 k h1 h2
  have hcl : (nI k).toNatClampNeg = k := fr_cl (by omega)
  have hix : ¬ (nI k < 0 ∨ 5 ≤ k) := by have := fr_ix (c := k) (N := 5) (by omega) (by decide); rwa [hcl] at this
  have h24 := fr_p24 h
  rw [fk_Node_countSync n (d + 3) h1 h2, ft_Model_toNode_at21 n1 (d1 + 2), if_pos rfl]
  simp only [hcl, if_neg hix]
  rw [← a2]
  by_cases s5 : x (28 + k) 3 = 5
  · obtain ⟨p, p1, p2⟩ := a5 4 (by decide)
    rw [if_pos s5, if_pos s5, fe_of (a2 := 4) n1 (d1 + 1) z h2 (j := 4) (by decide) rfl, fb_i, a4 4 (by decide), p2]
    by_cases p0 : p = 0
    · subst p0
      rw [if_pos nI_0, if_pos (by decide)]
      exact ⟨x, z, c, m + 25, rfl, rfl, h, rfl⟩
    · have h3 := fr_s_syncs (v := x (28 + k) 7 + 1) h h1 h2
      rw [if_neg (nI_ne0 (by omega) (by omega)), if_neg (nI_nle (by omega) (by omega)), fe_of (a2 := 4) n1 (d1 + 1) _ h2 (j := 4) (by decide) rfl, fb_i, fw_eq, fw_ne (by decide), a4 4 (by decide), p2, ← a11]
      by_cases g : x (28 + k) 7 + 1 < nI p
      · rw [if_pos g, if_pos g]
        refine ⟨_, _, c, m + 8, rfl, rfl, h3, ?_⟩
        rw [fw_row (by omega)]
      · rw [if_neg g, if_neg g]
        obtain ⟨y, y', c', q1, q2, q3, q4⟩ := fr_send h3 h1 h2 n d n1 d1
        rw [q1, q2, fb_v, fb_v]
        refine ⟨_, _, c', m, rfl, rfl, fr_s_syncs q3 h1 h2, ?_⟩
        rw [fw_row (by omega), q4, fw_row (by omega)]
  · rw [if_neg s5, if_neg s5]
    exact ⟨x, z, c, m + 30, rfl, rfl, h, rfl⟩
/-- a command -/
theorem fr_cmd (h : fr_R t c f x z) (h1 : 1 ≤ k) (h2 : k ≤ 4) (hon : x (28 + k) 3 ≠ 0) (n d n1 d1 : Nat) (hb : x (f 24) 3 = 0 ∨ x (f 24) 3 = nI k) : fr_vv t f x (fn_ev 0 (n + 2000) (d + 3) 41 [.ref (28 + k), .ref (f 24), .ref 1] x) (fn_ev 1 (n1 + 2000) (d1 + 3) 98 [.ref 0, .int (nI k), .int (x (f 24) 2)] z) := by
  obtain ⟨a1, a2, a3, a4, a5, a6, a7, a8, a9, a10, a11, a12, a13, a14, a15⟩ := h.2.1 k h1 h2
  have hcl : (nI k).toNatClampNeg = k := fr_cl (by omega)
  have hix : ¬ (nI k < 0 ∨ 5 ≤ k) := by have := fr_ix (c := k) (N := 5) (by omega) (by decide); rwa [hcl] at this
  have h24 := fr_p24 h
  have hlc : fn_lc 0 (f 24) = 2 := fr_fr _ h24.2 h24.1
  have hp : ∀ v : Int32, fn_w x (28 + k) 3 v (f 24) = x (f 24) := fun v => fw_row (by omega)
  rw [fk_Node_obey n (d + 2) h1 h2, ft_Model_command n1 (d1 + 2)]
  simp only [if_pos hlc, hcl, if_neg hix]
  have key : fr_vv t f x (if (x (f 24) 2) = 1 then some ((fn_w x (28 + k) 3 5), none) else (if (x (f 24) 2) = 2 then some ((fn_w x (28 + k) 3 4), none) else (if (x (f 24) 2) = 128 then some ((fn_w x (28 + k) 3 127), none) else (if (x (f 24) 2) = 129 then (fn_bv (fn_ev 0 (n + 2000) (d + 2) 28 [.ref (28 + k), .ref 1] x) (fun y1 => some (y1, none))) else some (x, none)))))
      (fn_ev 1 (n1 + 2000) (d1 + 3) 98 [.ref 0, .int (nI k), .int (x (f 24) 2)] z) := by
    rw [ft_Model_command n1 (d1 + 2)]
    simp only [hcl, if_neg hix]
    by_cases e1 : x (f 24) 2 = 1
    · rw [e1]
      simp only [if_pos, show ¬ (1 : Int32) = 2 by decide, show ¬ (1 : Int32) = 128 by decide, show ¬ (1 : Int32) = 129 by decide, if_false]
      exact ⟨_, _, c, rfl, rfl, fr_s_state h h1 h2 (Or.inr (Or.inl rfl)) hon, hp _⟩
    · by_cases e2 : x (f 24) 2 = 2
      · rw [e2]
        simp only [if_pos, show ¬ (2 : Int32) = 1 by decide, show ¬ (2 : Int32) = 128 by decide, show ¬ (2 : Int32) = 129 by decide, if_false]
        exact ⟨_, _, c, rfl, rfl, fr_s_state h h1 h2 (Or.inl rfl) hon, hp _⟩
      · by_cases e3 : x (f 24) 2 = 128
        · rw [e3]
          simp only [if_pos, show ¬ (128 : Int32) = 1 by decide, show ¬ (128 : Int32) = 2 by decide, show ¬ (128 : Int32) = 129 by decide, if_false]
          exact ⟨_, _, c, rfl, rfl, fr_s_state h h1 h2 (Or.inr (Or.inr rfl)) hon, hp _⟩
        · by_cases e4 : x (f 24) 2 = 129
          · rw [if_neg e1, if_neg e2, if_neg e3, if_pos e4, if_neg e1, if_neg e2, if_neg e3, if_pos e4]
            obtain ⟨y, y', c', q1, q2, q3, q4⟩ := fr_reset h h1 h2 n d n1 d1
            rw [q1, q2, fb_v, fb_v]
            exact ⟨y, y', c', rfl, rfl, q3, q4⟩
          · rw [if_neg e1, if_neg e2, if_neg e3, if_neg e4, if_neg e1, if_neg e2, if_neg e3, if_neg e4]
            exact ⟨x, z, c, rfl, rfl, h, rfl⟩
  rw [ft_Model_command n1 (d1 + 2)] at key
  simp only [hcl, if_neg hix] at key
  rcases hb with e | e
  · rw [if_pos e]
    exact key
  · by_cases e0 : x (f 24) 3 = 0
    · rw [if_pos e0]
      exact key
    · rw [if_neg e0, if_pos (by rw [e, a1])]
      exact key
end FH
