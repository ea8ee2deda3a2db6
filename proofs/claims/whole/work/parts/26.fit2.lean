section FG
variable {k : Nat}
theorem fr_no1 {b : Int32} (h : b = 0 ∨ b = 1) (h0 : ¬ b = 0) : b = 1 := h.resolve_left h0
/-- v = 100 a + b out of its two halves -/
theorem fr_join {v : Int32} {a b : Nat} (ha : v / 100 = nI a) (hb : v - v / 100 * 100 = nI b) : v = nI (100 * a + b) := by
  have e : v = (v - v / 100 * 100) + v / 100 * 100 := (Int32.sub_add_cancel v _).symm
  rw [e, hb, ha, show (100 : Int32) = nI 100 from rfl, fr_mul, nI_add, Nat.mul_comm a 100, Nat.add_comm]
theorem fr_pos100 {v : Int32} {a : Nat} (h1 : 1 ≤ a) (h2 : a < 1000) (ha : v / 100 = nI a) : ¬ v ≤ 0 := fun h => by
  have h3 := Int32.le_iff_toInt_le.mp h
  have h4 := congrArg Int32.toInt ha
  rw [Int32.toInt_div_of_ne_right _ _ (by decide), nI_toInt (by omega), show (100 : Int32).toInt = 100 from rfl] at h4
  rw [Int32.toInt_zero] at h3
  have h5 : v.toInt.tdiv 100 = -((-v.toInt).tdiv 100) := by rw [Int.neg_tdiv, Int.neg_neg]
  have h6 : 0 ≤ (-v.toInt).tdiv 100 := Int.tdiv_nonneg (by omega) (by decide)
  omega
theorem fr_pos10000 {v : Int32} {a : Nat} (h1 : 1 ≤ a) (h2 : a < 1000) (ha : v / 10000 = nI a) : ¬ v ≤ 0 := fun h => by
  have h3 := Int32.le_iff_toInt_le.mp h
  have h4 := congrArg Int32.toInt ha
  rw [Int32.toInt_div_of_ne_right _ _ (by decide), nI_toInt (by omega), show (10000 : Int32).toInt = 10000 from rfl] at h4
  rw [Int32.toInt_zero] at h3
  have h5 : v.toInt.tdiv 10000 = -((-v.toInt).tdiv 10000) := by rw [Int.neg_tdiv, Int.neg_neg]
  have h6 : 0 ≤ (-v.toInt).tdiv 10000 := Int.tdiv_nonneg (by omega) (by decide)
  omega
theorem fr_join3 {v : Int32} {a b c : Nat} (hp : ¬ v ≤ 0) (ha : v / 10000 = nI a) (hb : v / 100 - v / 100 / 100 * 100 = nI b) (hc : v - v / 100 * 100 = nI c) : v = nI (10000 * a + 100 * b + c) := by
  have e0 : v / 100 / 100 = v / 10000 := by
    have hp2 : 0 < v.toInt := by
      rw [Int32.le_iff_toInt_le, Int32.toInt_zero] at hp
      omega
    apply Int32.toInt_inj.mp
    rw [Int32.toInt_div_of_ne_right _ _ (by decide), Int32.toInt_div_of_ne_right _ _ (by decide), Int32.toInt_div_of_ne_right _ _ (by decide), show (100 : Int32).toInt = 100 from rfl, show (10000 : Int32).toInt = 10000 from rfl, Int.tdiv_eq_ediv_of_nonneg (Int.tdiv_nonneg (by omega) (by decide)), Int.tdiv_eq_ediv_of_nonneg (by omega), Int.tdiv_eq_ediv_of_nonneg (by omega)]
    omega
  have e1 : v / 100 = nI (100 * a + b) := fr_join (by rw [e0]; exact ha) hb
  have e2 := fr_join e1 hc
  rw [e2]
  congr 1
  omega
theorem fe_fit2 (h1 : 1 ≤ k) (h2 : k ≤ 4) (x z : fn_M) (hx : x (28 + k) 0 = nI k) (n d n1 d1 : Nat) (v : Int32) : ∃ b : Int32, (b = 0 ∨ b = 1) ∧ fn_ev 0 (n + 2000) (d + 2) 50 [.ref (28 + k), .int 2, .int v] x = some (x, some (.int b)) ∧ fn_ev 1 (n1 + 2000) (d1 + 2) 100 [.int (nI k), .int 2, .int v] z = some (z, some (.int b)) ∧ (b = 1 → fr_okv k 2 v) := by
  rw [fk_Node_isValueFor n (d + 1) h1 h2, if_pos (show (2 : Int32) = 2 from rfl), fe_w0, fb_i, if_pos (fr_w01 v 0 50), ft_Model_fits n1 (d1 + 1), if_neg (show ¬ (2 : Int32) = 3 by decide), fe_nd1, fb_i]
  refine ⟨_, fr_w01 v 0 50, rfl, ?_, fun h => ?_⟩
  · skip
    by_cases e0 : fr_w (v / 10000) 1 4 = 0
    · rw [if_pos e0, ft_Model_fits_at34 n1 (d1 + 1)]
      rw [if_pos (show (2 : Int32) = 2 from rfl), fe_w1, fb_i, if_pos (fr_w01 v 0 50)]
    · rw [if_neg e0]
      by_cases e1 : v / 10000 = nI k
      · rw [if_pos e1, ft_Model_fits_at34 n1 (d1 + 1)]
        rw [if_pos (show (2 : Int32) = 2 from rfl), fe_w1, fb_i, if_pos (fr_w01 v 0 50)]
      · rw [if_neg e1]
        rw [if_pos (show (2 : Int32) = 2 from rfl), fe_w1, fb_i, if_pos (fr_w01 v 0 50)]
  · obtain ⟨a, -, a2, a3⟩ := fr_bt (lo := 0) (hi := 50) (by decide) (by decide) h
    exact ⟨a, a2, a3⟩
theorem fe_fit4 (h1 : 1 ≤ k) (h2 : k ≤ 4) (x z : fn_M) (hx : x (28 + k) 0 = nI k) (n d n1 d1 : Nat) (v : Int32) : ∃ b : Int32, (b = 0 ∨ b = 1) ∧ fn_ev 0 (n + 2000) (d + 2) 50 [.ref (28 + k), .int 4, .int v] x = some (x, some (.int b)) ∧ fn_ev 1 (n1 + 2000) (d1 + 2) 100 [.int (nI k), .int 4, .int v] z = some (z, some (.int b)) ∧ (b = 1 → fr_okv k 4 v) := by
  rw [fk_Node_isValueFor n (d + 1) h1 h2, if_neg (show ¬ (4 : Int32) = 2 by decide), if_neg (show ¬ (4 : Int32) = 3 by decide), if_pos (show (4 : Int32) = 4 from rfl), fe_w0, fb_i, if_pos (fr_w01 v 0 4), ft_Model_fits n1 (d1 + 1), if_neg (show ¬ (4 : Int32) = 3 by decide), fe_nd1, fb_i]
  refine ⟨_, fr_w01 v 0 4, rfl, ?_, fun h => ?_⟩
  · skip
    by_cases e0 : fr_w (v / 10000) 1 4 = 0
    · rw [if_pos e0, ft_Model_fits_at34 n1 (d1 + 1)]
      rw [if_neg (show ¬ (4 : Int32) = 2 by decide), if_neg (show ¬ (4 : Int32) = 3 by decide), if_pos (show (4 : Int32) = 4 from rfl), fe_w1, fb_i, if_pos (fr_w01 v 0 4)]
    · rw [if_neg e0]
      by_cases e1 : v / 10000 = nI k
      · rw [if_pos e1, ft_Model_fits_at34 n1 (d1 + 1)]
        rw [if_neg (show ¬ (4 : Int32) = 2 by decide), if_neg (show ¬ (4 : Int32) = 3 by decide), if_pos (show (4 : Int32) = 4 from rfl), fe_w1, fb_i, if_pos (fr_w01 v 0 4)]
      · rw [if_neg e1]
        rw [if_neg (show ¬ (4 : Int32) = 2 by decide), if_neg (show ¬ (4 : Int32) = 3 by decide), if_pos (show (4 : Int32) = 4 from rfl), fe_w1, fb_i, if_pos (fr_w01 v 0 4)]
  · obtain ⟨a, -, a2, a3⟩ := fr_bt (lo := 0) (hi := 4) (by decide) (by decide) h
    exact ⟨a, a2, a3⟩
theorem fe_fit5 (h1 : 1 ≤ k) (h2 : k ≤ 4) (x z : fn_M) (hx : x (28 + k) 0 = nI k) (n d n1 d1 : Nat) (v : Int32) : ∃ b : Int32, (b = 0 ∨ b = 1) ∧ fn_ev 0 (n + 2000) (d + 2) 50 [.ref (28 + k), .int 5, .int v] x = some (x, some (.int b)) ∧ fn_ev 1 (n1 + 2000) (d1 + 2) 100 [.int (nI k), .int 5, .int v] z = some (z, some (.int b)) ∧ (b = 1 → fr_okv k 5 v) := by
  rw [fk_Node_isValueFor n (d + 1) h1 h2, if_neg (show ¬ (5 : Int32) = 2 by decide), if_neg (show ¬ (5 : Int32) = 3 by decide), if_neg (show ¬ (5 : Int32) = 4 by decide), if_pos (show (5 : Int32) = 5 from rfl), fe_w0, fb_i, if_pos (fr_w01 v 0 20), ft_Model_fits n1 (d1 + 1), if_neg (show ¬ (5 : Int32) = 3 by decide), fe_nd1, fb_i]
  refine ⟨_, fr_w01 v 0 20, rfl, ?_, fun h => ?_⟩
  · skip
    by_cases e0 : fr_w (v / 10000) 1 4 = 0
    · rw [if_pos e0, ft_Model_fits_at34 n1 (d1 + 1)]
      rw [if_neg (show ¬ (5 : Int32) = 2 by decide), if_neg (show ¬ (5 : Int32) = 3 by decide), if_neg (show ¬ (5 : Int32) = 4 by decide), if_pos (show (5 : Int32) = 5 from rfl), fe_w1, fb_i, if_pos (fr_w01 v 0 20)]
    · rw [if_neg e0]
      by_cases e1 : v / 10000 = nI k
      · rw [if_pos e1, ft_Model_fits_at34 n1 (d1 + 1)]
        rw [if_neg (show ¬ (5 : Int32) = 2 by decide), if_neg (show ¬ (5 : Int32) = 3 by decide), if_neg (show ¬ (5 : Int32) = 4 by decide), if_pos (show (5 : Int32) = 5 from rfl), fe_w1, fb_i, if_pos (fr_w01 v 0 20)]
      · rw [if_neg e1]
        rw [if_neg (show ¬ (5 : Int32) = 2 by decide), if_neg (show ¬ (5 : Int32) = 3 by decide), if_neg (show ¬ (5 : Int32) = 4 by decide), if_pos (show (5 : Int32) = 5 from rfl), fe_w1, fb_i, if_pos (fr_w01 v 0 20)]
  · obtain ⟨a, -, a2, a3⟩ := fr_bt (lo := 0) (hi := 20) (by decide) (by decide) h
    exact ⟨a, a2, a3⟩
theorem fe_fit12 (h1 : 1 ≤ k) (h2 : k ≤ 4) (x z : fn_M) (hx : x (28 + k) 0 = nI k) (n d n1 d1 : Nat) (v : Int32) : ∃ b : Int32, (b = 0 ∨ b = 1) ∧ fn_ev 0 (n + 2000) (d + 2) 50 [.ref (28 + k), .int 12, .int v] x = some (x, some (.int b)) ∧ fn_ev 1 (n1 + 2000) (d1 + 2) 100 [.int (nI k), .int 12, .int v] z = some (z, some (.int b)) ∧ (b = 1 → fr_okv k 12 v) := by
  rw [fk_Node_isValueFor n (d + 1) h1 h2, if_neg (show ¬ (12 : Int32) = 2 by decide), if_neg (show ¬ (12 : Int32) = 3 by decide), if_neg (show ¬ (12 : Int32) = 4 by decide), if_neg (show ¬ (12 : Int32) = 5 by decide), if_neg (show ¬ (12 : Int32) = 6 by decide), if_neg (show ¬ (12 : Int32) = 7 by decide), ft_Model_fits n1 (d1 + 1), if_neg (show ¬ (12 : Int32) = 3 by decide), fe_nd1, fb_i]
  refine ⟨1, Or.inr rfl, rfl, ?_, fun _ => trivial⟩
  by_cases e0 : fr_w (v / 10000) 1 4 = 0
  · rw [if_pos e0, ft_Model_fits_at34 n1 (d1 + 1)]
    rw [if_neg (show ¬ (12 : Int32) = 2 by decide), if_neg (show ¬ (12 : Int32) = 3 by decide), if_neg (show ¬ (12 : Int32) = 4 by decide), if_neg (show ¬ (12 : Int32) = 5 by decide), if_neg (show ¬ (12 : Int32) = 6 by decide), if_neg (show ¬ (12 : Int32) = 7 by decide)]
  · rw [if_neg e0]
    by_cases e1 : v / 10000 = nI k
    · rw [if_pos e1, ft_Model_fits_at34 n1 (d1 + 1)]
      rw [if_neg (show ¬ (12 : Int32) = 2 by decide), if_neg (show ¬ (12 : Int32) = 3 by decide), if_neg (show ¬ (12 : Int32) = 4 by decide), if_neg (show ¬ (12 : Int32) = 5 by decide), if_neg (show ¬ (12 : Int32) = 6 by decide), if_neg (show ¬ (12 : Int32) = 7 by decide)]
    · rw [if_neg e1]
      rw [if_neg (show ¬ (12 : Int32) = 2 by decide), if_neg (show ¬ (12 : Int32) = 3 by decide), if_neg (show ¬ (12 : Int32) = 4 by decide), if_neg (show ¬ (12 : Int32) = 5 by decide), if_neg (show ¬ (12 : Int32) = 6 by decide), if_neg (show ¬ (12 : Int32) = 7 by decide)]
theorem fe_fit13 (h1 : 1 ≤ k) (h2 : k ≤ 4) (x z : fn_M) (hx : x (28 + k) 0 = nI k) (n d n1 d1 : Nat) (v : Int32) : ∃ b : Int32, (b = 0 ∨ b = 1) ∧ fn_ev 0 (n + 2000) (d + 2) 50 [.ref (28 + k), .int 13, .int v] x = some (x, some (.int b)) ∧ fn_ev 1 (n1 + 2000) (d1 + 2) 100 [.int (nI k), .int 13, .int v] z = some (z, some (.int b)) ∧ (b = 1 → fr_okv k 13 v) := by
  rw [fk_Node_isValueFor n (d + 1) h1 h2, if_neg (show ¬ (13 : Int32) = 2 by decide), if_neg (show ¬ (13 : Int32) = 3 by decide), if_neg (show ¬ (13 : Int32) = 4 by decide), if_neg (show ¬ (13 : Int32) = 5 by decide), if_neg (show ¬ (13 : Int32) = 6 by decide), if_neg (show ¬ (13 : Int32) = 7 by decide), ft_Model_fits n1 (d1 + 1), if_neg (show ¬ (13 : Int32) = 3 by decide), fe_nd1, fb_i]
  refine ⟨1, Or.inr rfl, rfl, ?_, fun _ => trivial⟩
  by_cases e0 : fr_w (v / 10000) 1 4 = 0
  · rw [if_pos e0, ft_Model_fits_at34 n1 (d1 + 1)]
    rw [if_neg (show ¬ (13 : Int32) = 2 by decide), if_neg (show ¬ (13 : Int32) = 3 by decide), if_neg (show ¬ (13 : Int32) = 4 by decide), if_neg (show ¬ (13 : Int32) = 5 by decide), if_neg (show ¬ (13 : Int32) = 6 by decide), if_neg (show ¬ (13 : Int32) = 7 by decide)]
  · rw [if_neg e0]
    by_cases e1 : v / 10000 = nI k
    · rw [if_pos e1, ft_Model_fits_at34 n1 (d1 + 1)]
      rw [if_neg (show ¬ (13 : Int32) = 2 by decide), if_neg (show ¬ (13 : Int32) = 3 by decide), if_neg (show ¬ (13 : Int32) = 4 by decide), if_neg (show ¬ (13 : Int32) = 5 by decide), if_neg (show ¬ (13 : Int32) = 6 by decide), if_neg (show ¬ (13 : Int32) = 7 by decide)]
    · rw [if_neg e1]
      rw [if_neg (show ¬ (13 : Int32) = 2 by decide), if_neg (show ¬ (13 : Int32) = 3 by decide), if_neg (show ¬ (13 : Int32) = 4 by decide), if_neg (show ¬ (13 : Int32) = 5 by decide), if_neg (show ¬ (13 : Int32) = 6 by decide), if_neg (show ¬ (13 : Int32) = 7 by decide)]
theorem fe_fit14 (h1 : 1 ≤ k) (h2 : k ≤ 4) (x z : fn_M) (hx : x (28 + k) 0 = nI k) (n d n1 d1 : Nat) (v : Int32) : ∃ b : Int32, (b = 0 ∨ b = 1) ∧ fn_ev 0 (n + 2000) (d + 2) 50 [.ref (28 + k), .int 14, .int v] x = some (x, some (.int b)) ∧ fn_ev 1 (n1 + 2000) (d1 + 2) 100 [.int (nI k), .int 14, .int v] z = some (z, some (.int b)) ∧ (b = 1 → fr_okv k 14 v) := by
  rw [fk_Node_isValueFor n (d + 1) h1 h2, if_neg (show ¬ (14 : Int32) = 2 by decide), if_neg (show ¬ (14 : Int32) = 3 by decide), if_neg (show ¬ (14 : Int32) = 4 by decide), if_neg (show ¬ (14 : Int32) = 5 by decide), if_neg (show ¬ (14 : Int32) = 6 by decide), if_neg (show ¬ (14 : Int32) = 7 by decide), ft_Model_fits n1 (d1 + 1), if_neg (show ¬ (14 : Int32) = 3 by decide), fe_nd1, fb_i]
  refine ⟨1, Or.inr rfl, rfl, ?_, fun _ => trivial⟩
  by_cases e0 : fr_w (v / 10000) 1 4 = 0
  · rw [if_pos e0, ft_Model_fits_at34 n1 (d1 + 1)]
    rw [if_neg (show ¬ (14 : Int32) = 2 by decide), if_neg (show ¬ (14 : Int32) = 3 by decide), if_neg (show ¬ (14 : Int32) = 4 by decide), if_neg (show ¬ (14 : Int32) = 5 by decide), if_neg (show ¬ (14 : Int32) = 6 by decide), if_neg (show ¬ (14 : Int32) = 7 by decide)]
  · rw [if_neg e0]
    by_cases e1 : v / 10000 = nI k
    · rw [if_pos e1, ft_Model_fits_at34 n1 (d1 + 1)]
      rw [if_neg (show ¬ (14 : Int32) = 2 by decide), if_neg (show ¬ (14 : Int32) = 3 by decide), if_neg (show ¬ (14 : Int32) = 4 by decide), if_neg (show ¬ (14 : Int32) = 5 by decide), if_neg (show ¬ (14 : Int32) = 6 by decide), if_neg (show ¬ (14 : Int32) = 7 by decide)]
    · rw [if_neg e1]
      rw [if_neg (show ¬ (14 : Int32) = 2 by decide), if_neg (show ¬ (14 : Int32) = 3 by decide), if_neg (show ¬ (14 : Int32) = 4 by decide), if_neg (show ¬ (14 : Int32) = 5 by decide), if_neg (show ¬ (14 : Int32) = 6 by decide), if_neg (show ¬ (14 : Int32) = 7 by decide)]
theorem fe_fit15 (h1 : 1 ≤ k) (h2 : k ≤ 4) (x z : fn_M) (hx : x (28 + k) 0 = nI k) (n d n1 d1 : Nat) (v : Int32) : ∃ b : Int32, (b = 0 ∨ b = 1) ∧ fn_ev 0 (n + 2000) (d + 2) 50 [.ref (28 + k), .int 15, .int v] x = some (x, some (.int b)) ∧ fn_ev 1 (n1 + 2000) (d1 + 2) 100 [.int (nI k), .int 15, .int v] z = some (z, some (.int b)) ∧ (b = 1 → fr_okv k 15 v) := by
  rw [fk_Node_isValueFor n (d + 1) h1 h2, if_neg (show ¬ (15 : Int32) = 2 by decide), if_neg (show ¬ (15 : Int32) = 3 by decide), if_neg (show ¬ (15 : Int32) = 4 by decide), if_neg (show ¬ (15 : Int32) = 5 by decide), if_neg (show ¬ (15 : Int32) = 6 by decide), if_neg (show ¬ (15 : Int32) = 7 by decide), ft_Model_fits n1 (d1 + 1), if_neg (show ¬ (15 : Int32) = 3 by decide), fe_nd1, fb_i]
  refine ⟨1, Or.inr rfl, rfl, ?_, fun _ => trivial⟩
  by_cases e0 : fr_w (v / 10000) 1 4 = 0
  · rw [if_pos e0, ft_Model_fits_at34 n1 (d1 + 1)]
    rw [if_neg (show ¬ (15 : Int32) = 2 by decide), if_neg (show ¬ (15 : Int32) = 3 by decide), if_neg (show ¬ (15 : Int32) = 4 by decide), if_neg (show ¬ (15 : Int32) = 5 by decide), if_neg (show ¬ (15 : Int32) = 6 by decide), if_neg (show ¬ (15 : Int32) = 7 by decide)]
  · rw [if_neg e0]
    by_cases e1 : v / 10000 = nI k
    · rw [if_pos e1, ft_Model_fits_at34 n1 (d1 + 1)]
      rw [if_neg (show ¬ (15 : Int32) = 2 by decide), if_neg (show ¬ (15 : Int32) = 3 by decide), if_neg (show ¬ (15 : Int32) = 4 by decide), if_neg (show ¬ (15 : Int32) = 5 by decide), if_neg (show ¬ (15 : Int32) = 6 by decide), if_neg (show ¬ (15 : Int32) = 7 by decide)]
    · rw [if_neg e1]
      rw [if_neg (show ¬ (15 : Int32) = 2 by decide), if_neg (show ¬ (15 : Int32) = 3 by decide), if_neg (show ¬ (15 : Int32) = 4 by decide), if_neg (show ¬ (15 : Int32) = 5 by decide), if_neg (show ¬ (15 : Int32) = 6 by decide), if_neg (show ¬ (15 : Int32) = 7 by decide)]
theorem fe_fit6 (h1 : 1 ≤ k) (h2 : k ≤ 4) (x z : fn_M) (hx : x (28 + k) 0 = nI k) (n d n1 d1 : Nat) (v : Int32) : ∃ b : Int32, (b = 0 ∨ b = 1) ∧ fn_ev 0 (n + 2000) (d + 2) 50 [.ref (28 + k), .int 6, .int v] x = some (x, some (.int b)) ∧ fn_ev 1 (n1 + 2000) (d1 + 2) 100 [.int (nI k), .int 6, .int v] z = some (z, some (.int b)) ∧ (b = 1 → fr_okv k 6 v) := by
  rw [fk_Node_isValueFor n (d + 1) h1 h2, if_neg (show ¬ (6 : Int32) = 2 by decide), if_neg (show ¬ (6 : Int32) = 3 by decide), if_neg (show ¬ (6 : Int32) = 4 by decide), if_neg (show ¬ (6 : Int32) = 5 by decide), if_pos (show (6 : Int32) = 6 from rfl), ft_Model_fits n1 (d1 + 1), if_neg (show ¬ (6 : Int32) = 3 by decide), fe_nd1, fb_i]
  by_cases v0 : v = 0
  · rw [if_pos v0, fk_Node_isValueFor_at121 n (d + 1) _ h1 h2]
    refine ⟨1, Or.inr rfl, rfl, ?_, fun _ => Or.inl v0⟩
    by_cases e0 : fr_w (v / 10000) 1 4 = 0
    · rw [if_pos e0, ft_Model_fits_at34 n1 (d1 + 1)]
      rw [if_neg (show ¬ (6 : Int32) = 2 by decide), if_neg (show ¬ (6 : Int32) = 3 by decide), if_neg (show ¬ (6 : Int32) = 4 by decide), if_neg (show ¬ (6 : Int32) = 5 by decide), if_pos (show (6 : Int32) = 6 from rfl), if_pos v0, ft_Model_fits_at174_0 n1 (d1 + 1)]
    · rw [if_neg e0]
      by_cases e1 : v / 10000 = nI k
      · rw [if_pos e1, ft_Model_fits_at34 n1 (d1 + 1)]
        rw [if_neg (show ¬ (6 : Int32) = 2 by decide), if_neg (show ¬ (6 : Int32) = 3 by decide), if_neg (show ¬ (6 : Int32) = 4 by decide), if_neg (show ¬ (6 : Int32) = 5 by decide), if_pos (show (6 : Int32) = 6 from rfl), if_pos v0, ft_Model_fits_at174_0 n1 (d1 + 1)]
      · rw [if_neg e1]
        rw [if_neg (show ¬ (6 : Int32) = 2 by decide), if_neg (show ¬ (6 : Int32) = 3 by decide), if_neg (show ¬ (6 : Int32) = 4 by decide), if_neg (show ¬ (6 : Int32) = 5 by decide), if_pos (show (6 : Int32) = 6 from rfl), if_pos v0, ft_Model_fits_at174_1 n1 (d1 + 1)]
  · rw [if_neg v0, fe_inp, fb_i]
    by_cases w1 : fr_w (v / 100) 8 11 = 0
    · rw [if_pos w1, fk_Node_isValueFor_at125 n (d + 1) _ h1 h2]
      refine ⟨0, Or.inl rfl, rfl, ?_, fun h => absurd h (by decide)⟩
      by_cases e0 : fr_w (v / 10000) 1 4 = 0
      · rw [if_pos e0, ft_Model_fits_at34 n1 (d1 + 1)]
        rw [if_neg (show ¬ (6 : Int32) = 2 by decide), if_neg (show ¬ (6 : Int32) = 3 by decide), if_neg (show ¬ (6 : Int32) = 4 by decide), if_neg (show ¬ (6 : Int32) = 5 by decide), if_pos (show (6 : Int32) = 6 from rfl), if_neg v0, fe_w1, fb_i]
        by_cases u : fr_w v 0 1111 = 0
        · rw [if_pos u, ft_Model_fits_at178_0 n1 (d1 + 1)]
        · rw [if_neg u, fe_w1, fb_i, if_pos w1, ft_Model_fits_at178_0 n1 (d1 + 1)]
      · rw [if_neg e0]
        by_cases e1 : v / 10000 = nI k
        · rw [if_pos e1, ft_Model_fits_at34 n1 (d1 + 1)]
          rw [if_neg (show ¬ (6 : Int32) = 2 by decide), if_neg (show ¬ (6 : Int32) = 3 by decide), if_neg (show ¬ (6 : Int32) = 4 by decide), if_neg (show ¬ (6 : Int32) = 5 by decide), if_pos (show (6 : Int32) = 6 from rfl), if_neg v0, fe_w1, fb_i]
          by_cases u : fr_w v 0 1111 = 0
          · rw [if_pos u, ft_Model_fits_at178_0 n1 (d1 + 1)]
          · rw [if_neg u, fe_w1, fb_i, if_pos w1, ft_Model_fits_at178_0 n1 (d1 + 1)]
        · rw [if_neg e1]
          rw [if_neg (show ¬ (6 : Int32) = 2 by decide), if_neg (show ¬ (6 : Int32) = 3 by decide), if_neg (show ¬ (6 : Int32) = 4 by decide), if_neg (show ¬ (6 : Int32) = 5 by decide), if_pos (show (6 : Int32) = 6 from rfl), if_neg v0, fe_w1, fb_i]
          by_cases u : fr_w v 0 1111 = 0
          · rw [if_pos u, ft_Model_fits_at178_1 n1 (d1 + 1)]
          · rw [if_neg u, fe_w1, fb_i, if_pos w1, ft_Model_fits_at178_1 n1 (d1 + 1)]
    · rw [if_neg w1, fe_inp, fb_i]
      by_cases w2 : fr_w (v - v / 100 * 100) 8 11 = 0
      · rw [if_pos w2, fk_Node_isValueFor_at125 n (d + 1) _ h1 h2]
        refine ⟨0, Or.inl rfl, rfl, ?_, fun h => absurd h (by decide)⟩
        by_cases e0 : fr_w (v / 10000) 1 4 = 0
        · rw [if_pos e0, ft_Model_fits_at34 n1 (d1 + 1)]
          rw [if_neg (show ¬ (6 : Int32) = 2 by decide), if_neg (show ¬ (6 : Int32) = 3 by decide), if_neg (show ¬ (6 : Int32) = 4 by decide), if_neg (show ¬ (6 : Int32) = 5 by decide), if_pos (show (6 : Int32) = 6 from rfl), if_neg v0, fe_w1, fb_i]
          by_cases u : fr_w v 0 1111 = 0
          · rw [if_pos u, ft_Model_fits_at178_0 n1 (d1 + 1)]
          · rw [if_neg u, fe_w1, fb_i, if_neg w1, fe_w1, fb_i, if_pos w2, ft_Model_fits_at178_0 n1 (d1 + 1)]
        · rw [if_neg e0]
          by_cases e1 : v / 10000 = nI k
          · rw [if_pos e1, ft_Model_fits_at34 n1 (d1 + 1)]
            rw [if_neg (show ¬ (6 : Int32) = 2 by decide), if_neg (show ¬ (6 : Int32) = 3 by decide), if_neg (show ¬ (6 : Int32) = 4 by decide), if_neg (show ¬ (6 : Int32) = 5 by decide), if_pos (show (6 : Int32) = 6 from rfl), if_neg v0, fe_w1, fb_i]
            by_cases u : fr_w v 0 1111 = 0
            · rw [if_pos u, ft_Model_fits_at178_0 n1 (d1 + 1)]
            · rw [if_neg u, fe_w1, fb_i, if_neg w1, fe_w1, fb_i, if_pos w2, ft_Model_fits_at178_0 n1 (d1 + 1)]
          · rw [if_neg e1]
            rw [if_neg (show ¬ (6 : Int32) = 2 by decide), if_neg (show ¬ (6 : Int32) = 3 by decide), if_neg (show ¬ (6 : Int32) = 4 by decide), if_neg (show ¬ (6 : Int32) = 5 by decide), if_pos (show (6 : Int32) = 6 from rfl), if_neg v0, fe_w1, fb_i]
            by_cases u : fr_w v 0 1111 = 0
            · rw [if_pos u, ft_Model_fits_at178_1 n1 (d1 + 1)]
            · rw [if_neg u, fe_w1, fb_i, if_neg w1, fe_w1, fb_i, if_pos w2, ft_Model_fits_at178_1 n1 (d1 + 1)]
      · obtain ⟨a, a1, a2, a3⟩ := fr_bt (lo := 8) (hi := 11) (by decide) (by decide) (fr_no1 (fr_w01 _ _ _) w1)
        obtain ⟨b, b1, b2, b3⟩ := fr_bt (lo := 8) (hi := 11) (by decide) (by decide) (fr_no1 (fr_w01 _ _ _) w2)
        have hv := fr_join a3 b3
        have u : ¬ fr_w v 0 1111 = 0 := by
          rw [fr_w1i (a := v) (lo := 0) (hi := 1111) (by rw [hv]; exact nI_pos (by omega)) (by rw [hv]; exact nI_nlt (a := 1111) (by omega) (by decide))]
          decide
        rw [if_neg w2, fk_Node_isValueFor_at121 n (d + 1) _ h1 h2]
        refine ⟨1, Or.inr rfl, rfl, ?_, fun _ => Or.inr ⟨a, b, a1, a2, b1, b2, hv⟩⟩
        by_cases e0 : fr_w (v / 10000) 1 4 = 0
        · rw [if_pos e0, ft_Model_fits_at34 n1 (d1 + 1)]
          rw [if_neg (show ¬ (6 : Int32) = 2 by decide), if_neg (show ¬ (6 : Int32) = 3 by decide), if_neg (show ¬ (6 : Int32) = 4 by decide), if_neg (show ¬ (6 : Int32) = 5 by decide), if_pos (show (6 : Int32) = 6 from rfl), if_neg v0, fe_w1, fb_i, if_neg u, fe_w1, fb_i, if_neg w1, fe_w1, fb_i, if_neg w2, ft_Model_fits_at174_0 n1 (d1 + 1)]
        · rw [if_neg e0]
          by_cases e1 : v / 10000 = nI k
          · rw [if_pos e1, ft_Model_fits_at34 n1 (d1 + 1)]
            rw [if_neg (show ¬ (6 : Int32) = 2 by decide), if_neg (show ¬ (6 : Int32) = 3 by decide), if_neg (show ¬ (6 : Int32) = 4 by decide), if_neg (show ¬ (6 : Int32) = 5 by decide), if_pos (show (6 : Int32) = 6 from rfl), if_neg v0, fe_w1, fb_i, if_neg u, fe_w1, fb_i, if_neg w1, fe_w1, fb_i, if_neg w2, ft_Model_fits_at174_0 n1 (d1 + 1)]
          · rw [if_neg e1]
            rw [if_neg (show ¬ (6 : Int32) = 2 by decide), if_neg (show ¬ (6 : Int32) = 3 by decide), if_neg (show ¬ (6 : Int32) = 4 by decide), if_neg (show ¬ (6 : Int32) = 5 by decide), if_pos (show (6 : Int32) = 6 from rfl), if_neg v0, fe_w1, fb_i, if_neg u, fe_w1, fb_i, if_neg w1, fe_w1, fb_i, if_neg w2, ft_Model_fits_at174_1 n1 (d1 + 1)]
theorem fe_fit3 (h1 : 1 ≤ k) (h2 : k ≤ 4) (x z : fn_M) (hx : x (28 + k) 0 = nI k) (n d n1 d1 : Nat) (v : Int32) : ∃ b : Int32, (b = 0 ∨ b = 1) ∧ fn_ev 0 (n + 2000) (d + 2) 50 [.ref (28 + k), .int 3, .int v] x = some (x, some (.int b)) ∧ fn_ev 1 (n1 + 2000) (d1 + 2) 100 [.int (nI k), .int 3, .int v] z = some (z, some (.int b)) ∧ (b = 1 → fr_okv k 3 v) := by
  rw [fk_Node_isValueFor n (d + 1) h1 h2, if_neg (show ¬ (3 : Int32) = 2 by decide), if_pos (show (3 : Int32) = 3 from rfl), ft_Model_fits n1 (d1 + 1), if_pos (show (3 : Int32) = 3 from rfl), fe_nd1, fb_i]
  by_cases v0 : v = 0
  · rw [if_pos v0, fk_Node_isValueFor_at76 n (d + 1) _ h1 h2]
    refine ⟨1, Or.inr rfl, rfl, ?_, fun _ => Or.inl v0⟩
    by_cases e0 : fr_w (v / 100) 1 4 = 0
    · rw [if_pos e0, ft_Model_fits_at34 n1 (d1 + 1), if_neg (show ¬ (3 : Int32) = 2 by decide), if_pos (show (3 : Int32) = 3 from rfl), if_pos v0, ft_Model_fits_at110_0 n1 (d1 + 1)]
    · rw [if_neg e0]
      by_cases e1 : v / 100 = nI k
      · rw [if_pos e1, ft_Model_fits_at34 n1 (d1 + 1), if_neg (show ¬ (3 : Int32) = 2 by decide), if_pos (show (3 : Int32) = 3 from rfl), if_pos v0, ft_Model_fits_at110_0 n1 (d1 + 1)]
      · rw [if_neg e1, if_neg (show ¬ (3 : Int32) = 2 by decide), if_pos (show (3 : Int32) = 3 from rfl), if_pos v0, ft_Model_fits_at110_1 n1 (d1 + 1)]
  · rw [if_neg v0, fe_oth n d x h1 h2 hx, fb_i]
    by_cases e0 : fr_w (v / 100) 1 4 = 0
    · rw [if_pos e0, if_pos (show (0 : Int32) = 0 from rfl), fk_Node_isValueFor_at80 n (d + 1) _ h1 h2, if_pos e0, ft_Model_fits_at34 n1 (d1 + 1), if_neg (show ¬ (3 : Int32) = 2 by decide), if_pos (show (3 : Int32) = 3 from rfl), if_neg v0]
      refine ⟨0, Or.inl rfl, rfl, ?_, fun h => absurd h (by decide)⟩
      by_cases le : v ≤ 0
      · rw [if_pos le, ft_Model_fits_at114_0 n1 (d1 + 1)]
      · rw [if_neg le, ft_Model_fits_at114_0 n1 (d1 + 1)]
    · rw [if_neg e0, if_neg e0]
      by_cases e1 : v / 100 = nI k
      · rw [if_pos e1, if_pos (show (0 : Int32) = 0 from rfl), fk_Node_isValueFor_at80 n (d + 1) _ h1 h2, if_pos e1, ft_Model_fits_at34 n1 (d1 + 1), if_neg (show ¬ (3 : Int32) = 2 by decide), if_pos (show (3 : Int32) = 3 from rfl), if_neg v0]
        refine ⟨0, Or.inl rfl, rfl, ?_, fun h => absurd h (by decide)⟩
        by_cases le : v ≤ 0
        · rw [if_pos le, ft_Model_fits_at114_0 n1 (d1 + 1)]
        · rw [if_neg le, ft_Model_fits_at114_0 n1 (d1 + 1)]
      · obtain ⟨a, a1, a2, a3⟩ := fr_bt (lo := 1) (hi := 4) (by decide) (by decide) (fr_no1 (fr_w01 _ _ _) e0)
        have ak : a ≠ k := fun e => e1 (by rw [a3, e])
        have le : ¬ v ≤ 0 := fr_pos100 (by omega) (by omega) a3
        rw [if_neg e1, if_neg (show ¬ (1 : Int32) = 0 by decide), if_neg e1, if_neg (show ¬ (3 : Int32) = 2 by decide), if_pos (show (3 : Int32) = 3 from rfl), if_neg v0, if_neg le]
        rw [fe_w0, fb_i, fe_w1, fb_i]
        by_cases w : fr_w (v - v / 100 * 100) 1 50 = 0
        · rw [if_pos w, if_pos w, fk_Node_isValueFor_at80 n (d + 1) _ h1 h2, ft_Model_fits_at114_1 n1 (d1 + 1)]
          exact ⟨0, Or.inl rfl, rfl, rfl, fun h => absurd h (by decide)⟩
        · obtain ⟨b, b1, b2, b3⟩ := fr_bt (lo := 1) (hi := 50) (by decide) (by decide) (fr_no1 (fr_w01 _ _ _) w)
          rw [if_neg w, if_neg w, fk_Node_isValueFor_at76 n (d + 1) _ h1 h2, ft_Model_fits_at110_1 n1 (d1 + 1)]
          exact ⟨1, Or.inr rfl, rfl, rfl, fun _ => Or.inr ⟨a, b, a1, a2, ak, b1, b2, fr_join a3 b3⟩⟩
theorem fe_fit7 (h1 : 1 ≤ k) (h2 : k ≤ 4) (x z : fn_M) (hx : x (28 + k) 0 = nI k) (n d n1 d1 : Nat) (v : Int32) : ∃ b : Int32, (b = 0 ∨ b = 1) ∧ fn_ev 0 (n + 2000) (d + 2) 50 [.ref (28 + k), .int 7, .int v] x = some (x, some (.int b)) ∧ fn_ev 1 (n1 + 2000) (d1 + 2) 100 [.int (nI k), .int 7, .int v] z = some (z, some (.int b)) ∧ (b = 1 → fr_okv k 7 v) := by
  rw [fk_Node_isValueFor n (d + 1) h1 h2, if_neg (show ¬ (7 : Int32) = 2 by decide), if_neg (show ¬ (7 : Int32) = 3 by decide), if_neg (show ¬ (7 : Int32) = 4 by decide), if_neg (show ¬ (7 : Int32) = 5 by decide), if_neg (show ¬ (7 : Int32) = 6 by decide), if_pos (show (7 : Int32) = 7 from rfl), ft_Model_fits n1 (d1 + 1), if_neg (show ¬ (7 : Int32) = 3 by decide), fe_nd1, fb_i]
  by_cases v0 : v = 0
  · rw [if_pos v0, fk_Node_isValueFor_at166 n (d + 1) _ h1 h2]
    refine ⟨1, Or.inr rfl, rfl, ?_, fun _ => Or.inl v0⟩
    by_cases e0 : fr_w (v / 10000) 1 4 = 0
    · rw [if_pos e0, ft_Model_fits_at34 n1 (d1 + 1), if_neg (show ¬ (7 : Int32) = 2 by decide), if_neg (show ¬ (7 : Int32) = 3 by decide), if_neg (show ¬ (7 : Int32) = 4 by decide), if_neg (show ¬ (7 : Int32) = 5 by decide), if_neg (show ¬ (7 : Int32) = 6 by decide), if_pos (show (7 : Int32) = 7 from rfl), if_pos v0, ft_Model_fits_at224_0 n1 (d1 + 1)]
    · rw [if_neg e0]
      by_cases e1 : v / 10000 = nI k
      · rw [if_pos e1, ft_Model_fits_at34 n1 (d1 + 1), if_neg (show ¬ (7 : Int32) = 2 by decide), if_neg (show ¬ (7 : Int32) = 3 by decide), if_neg (show ¬ (7 : Int32) = 4 by decide), if_neg (show ¬ (7 : Int32) = 5 by decide), if_neg (show ¬ (7 : Int32) = 6 by decide), if_pos (show (7 : Int32) = 7 from rfl), if_pos v0, ft_Model_fits_at224_0 n1 (d1 + 1)]
      · rw [if_neg e1, if_neg (show ¬ (7 : Int32) = 2 by decide), if_neg (show ¬ (7 : Int32) = 3 by decide), if_neg (show ¬ (7 : Int32) = 4 by decide), if_neg (show ¬ (7 : Int32) = 5 by decide), if_neg (show ¬ (7 : Int32) = 6 by decide), if_pos (show (7 : Int32) = 7 from rfl), if_pos v0, ft_Model_fits_at224_1 n1 (d1 + 1)]
  · rw [if_neg v0, fe_oth n d x h1 h2 hx, fb_i]
    by_cases e0 : fr_w (v / 10000) 1 4 = 0
    · rw [if_pos e0, if_pos (show (0 : Int32) = 0 from rfl), fk_Node_isValueFor_at170 n (d + 1) _ h1 h2, if_pos e0, ft_Model_fits_at34 n1 (d1 + 1), if_neg (show ¬ (7 : Int32) = 2 by decide), if_neg (show ¬ (7 : Int32) = 3 by decide), if_neg (show ¬ (7 : Int32) = 4 by decide), if_neg (show ¬ (7 : Int32) = 5 by decide), if_neg (show ¬ (7 : Int32) = 6 by decide), if_pos (show (7 : Int32) = 7 from rfl), if_neg v0]
      refine ⟨0, Or.inl rfl, rfl, ?_, fun h => absurd h (by decide)⟩
      by_cases le : v ≤ 0
      · rw [if_pos le, ft_Model_fits_at228_0 n1 (d1 + 1)]
      · rw [if_neg le, ft_Model_fits_at228_0 n1 (d1 + 1)]
    · rw [if_neg e0, if_neg e0]
      by_cases e1 : v / 10000 = nI k
      · rw [if_pos e1, if_pos (show (0 : Int32) = 0 from rfl), fk_Node_isValueFor_at170 n (d + 1) _ h1 h2, if_pos e1, ft_Model_fits_at34 n1 (d1 + 1), if_neg (show ¬ (7 : Int32) = 2 by decide), if_neg (show ¬ (7 : Int32) = 3 by decide), if_neg (show ¬ (7 : Int32) = 4 by decide), if_neg (show ¬ (7 : Int32) = 5 by decide), if_neg (show ¬ (7 : Int32) = 6 by decide), if_pos (show (7 : Int32) = 7 from rfl), if_neg v0]
        refine ⟨0, Or.inl rfl, rfl, ?_, fun h => absurd h (by decide)⟩
        by_cases le : v ≤ 0
        · rw [if_pos le, ft_Model_fits_at228_0 n1 (d1 + 1)]
        · rw [if_neg le, ft_Model_fits_at228_0 n1 (d1 + 1)]
      · obtain ⟨a, a1, a2, a3⟩ := fr_bt (lo := 1) (hi := 4) (by decide) (by decide) (fr_no1 (fr_w01 _ _ _) e0)
        have ak : a ≠ k := fun e => e1 (by rw [a3, e])
        have le : ¬ v ≤ 0 := fr_pos10000 (by omega) (by omega) a3
        rw [if_neg e1, if_neg (show ¬ (1 : Int32) = 0 by decide), if_neg e1, if_neg (show ¬ (7 : Int32) = 2 by decide), if_neg (show ¬ (7 : Int32) = 3 by decide), if_neg (show ¬ (7 : Int32) = 4 by decide), if_neg (show ¬ (7 : Int32) = 5 by decide), if_neg (show ¬ (7 : Int32) = 6 by decide), if_pos (show (7 : Int32) = 7 from rfl), if_neg v0, if_neg le]
        rw [fe_out, fb_i, fe_w1, fb_i]
        by_cases w : fr_w (v / 100 - v / 100 / 100 * 100) 12 15 = 0
        · rw [if_pos w, if_pos w, fk_Node_isValueFor_at170 n (d + 1) _ h1 h2, ft_Model_fits_at228_1 n1 (d1 + 1)]
          exact ⟨0, Or.inl rfl, rfl, rfl, fun h => absurd h (by decide)⟩
        · rw [if_neg w, if_neg w, fe_out, fb_i, fe_w1, fb_i]
          by_cases w2 : fr_w (v - v / 100 * 100) 12 15 = 0
          · rw [if_pos w2, if_pos w2, fk_Node_isValueFor_at170 n (d + 1) _ h1 h2, ft_Model_fits_at228_1 n1 (d1 + 1)]
            exact ⟨0, Or.inl rfl, rfl, rfl, fun h => absurd h (by decide)⟩
          · obtain ⟨b, b1, b2, b3⟩ := fr_bt (lo := 12) (hi := 15) (by decide) (by decide) (fr_no1 (fr_w01 _ _ _) w)
            obtain ⟨q, q1, q2, q3⟩ := fr_bt (lo := 12) (hi := 15) (by decide) (by decide) (fr_no1 (fr_w01 _ _ _) w2)
            rw [if_neg w2, if_neg w2, fk_Node_isValueFor_at166 n (d + 1) _ h1 h2, ft_Model_fits_at224_1 n1 (d1 + 1)]
            refine ⟨1, Or.inr rfl, rfl, rfl, fun _ => Or.inr ⟨a, b, q, a1, a2, ak, b1, b2, q1, q2, ?_⟩⟩
            exact fr_join3 le a3 b3 q3
end FG
