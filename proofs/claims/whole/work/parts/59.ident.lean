/-! ===== numbers for the digits ===== -/
theorem fi_negI {a : Nat} (h : a ≤ 10000) : (-nI a).toInt = -(a : Int) := by
  rw [Int32.toInt_neg, nI_toInt (by omega), Int.bmod_eq_of_le_mul_two (by omega) (by omega)]
theorem fi_nle {a b : Nat} (ha : a ≤ 10000) (hb : b ≤ 10000) : (-nI a ≤ -nI b) ↔ b ≤ a := by
  rw [Int32.le_iff_toInt_le, fi_negI ha, fi_negI hb]
  omega
theorem fi_nlt {a b : Nat} (ha : a ≤ 10000) (hb : b ≤ 10000) : (-nI a < -nI b) ↔ b < a := by
  rw [Int32.lt_iff_toInt_lt, fi_negI ha, fi_negI hb]
  omega
theorem fi_div {v : Nat} (h : v ≤ 9999) : -nI v / 100 = -nI (v / 100) := by
  apply Int32.toInt_inj.mp
  rw [Int32.toInt_div_of_ne_right _ _ (by decide), fi_negI (by omega), fi_negI (by omega), show (100 : Int32).toInt = 100 from rfl, Int.neg_tdiv, Int.tdiv_eq_ediv_of_nonneg (by omega)]
  omega
theorem fi_rem {v : Nat} : (-nI (v / 100)) * 100 - (-nI v) = nI (v % 100) := by
  rw [Int32.neg_mul, Int32.sub_eq_add_neg, Int32.neg_neg, Int32.add_comm, ← Int32.sub_eq_add_neg, show (100 : Int32) = nI 100 from rfl, fr_mul, fr_sub (by omega)]
  congr 1
  omega
theorem fi_ones : ∀ r, r < 100 → (((fn_ro 1000).getD r 0 : Int32).toInt8.toInt32) = nI (48 + r % 10) := by decide +kernel
theorem fi_tens : ∀ r, r < 100 → (((fn_ro 1001).getD r 0 : Int32).toInt8.toInt32) = nI (48 + r / 10) := by decide +kernel
theorem fi_l0 : (fn_ro 1000).length = 100 := by decide +kernel
theorem fi_l1 : (fn_ro 1001).length = 100 := by decide +kernel
theorem fi_capn : ∀ a, a ≤ 16 → nI a - ((16 : Int32) >>> ((0 : Int32) &&& 31)) ≤ 0 := by decide +kernel
theorem fi_ix {w : Nat} (h : w < 100) : ¬ (nI w < 0 ∨ 100 ≤ w) := by
  have hcl : (nI w).toNatClampNeg = w := fr_cl (by omega)
  have := fr_ix (c := w) (N := 100) h (by decide)
  rwa [hcl] at this
theorem fi_i16 {w : Nat} (h : w < 16) : ¬ (nI w < 0 ∨ 16 ≤ w) := by
  have hcl : (nI w).toNatClampNeg = w := fr_cl (by omega)
  have := fr_ix (c := w) (N := 16) h (by decide)
  rwa [hcl] at this
theorem fi_dgv {v : Nat} (h : v ≤ 9999) : (v < 10 ∧ fr_dg v = 1) ∨ (10 ≤ v ∧ v < 100 ∧ fr_dg v = 2) ∨ (100 ≤ v ∧ v < 1000 ∧ fr_dg v = 3) ∨ (1000 ≤ v ∧ fr_dg v = 4) := by
  unfold fr_dg
  by_cases a : v > 999
  · rw [if_pos a]; omega
  · rw [if_neg a]
    by_cases b : v > 99
    · rw [if_pos b]; omega
    · rw [if_neg b]
      by_cases c : v > 9
      · rw [if_pos c]; omega
      · rw [if_neg c]; omega
theorem fi_lit : ∀ k, k ≤ 4 → ∀ j, j < 5 → fn_lit.getD j 0 = nI (fr_nm k 0 j) := by decide +kernel
theorem fi_58 : (((58 : Int32).toInt8.toInt32) : Int32).toInt8.toInt32 = nI 58 := by decide +kernel
theorem fi_la1 : ∀ k, k ≤ 4 → 1 ≤ k → (fn_la 0 (40 + k)).1 = 3 := by decide +kernel
theorem fi_la2 : ∀ k, k ≤ 4 → 1 ≤ k → (fn_la 0 (40 + k)).2 = 16 := by decide +kernel
theorem fi_sbT : ∀ k, k ≤ 4 → 1 ≤ k → (fn_lc 0 (36 + k) == 9) = true := by decide +kernel
/-! ===== the JDK's append ===== -/
section fiA
theorem fi_size (n d : Nat) (x : fn_M) {v : Nat} (hv : v ≤ 9999) : fn_ev 0 (n + 2000) (d + 1) 154 [.int (nI v)] x = some (x, some (.int (nI (fr_dg v)))) := by
  rw [ft_Int_stringSize n d, if_neg (nI_pos (by omega)), show n + 1991 = (n + 1872) + 119 from rfl, ft_Int_stringSize_at11_0 n d, show (-10 : Int32) = -nI 10 from rfl, show (-100 : Int32) = -nI 100 from rfl, show (-1000 : Int32) = -nI 1000 from rfl, show (-10000 : Int32) = -nI 10000 from rfl]
  rcases fi_dgv hv with ⟨a, e⟩ | ⟨a, b, e⟩ | ⟨a, b, e⟩ | ⟨a, e⟩
  · rw [if_neg (fun q => by have := (fi_nle (by omega) (by omega)).mp q; omega), e]
    rfl
  · rw [if_pos ((fi_nle (by omega) (by omega)).mpr (by omega)), if_neg (fun q => by have := (fi_nle (by omega) (by omega)).mp q; omega), e]
    rfl
  · rw [if_pos ((fi_nle (by omega) (by omega)).mpr (by omega)), if_pos ((fi_nle (by omega) (by omega)).mpr (by omega)), if_neg (fun q => by have := (fi_nle (by omega) (by omega)).mp q; omega), e]
    rfl
  · rw [if_pos ((fi_nle (by omega) (by omega)).mpr (by omega)), if_pos ((fi_nle (by omega) (by omega)).mpr (by omega)), if_pos ((fi_nle (by omega) (by omega)).mpr (by omega)), if_neg (fun q => by have := (fi_nle (by omega) (by omega)).mp q; omega), e]
    rfl
/-- the last one or two digits -/
def fi_dd (k : Nat) (x : fn_M) (w p : Nat) : fn_M := if w < 10 then fn_w x (40 + k) (p + 1) (nI (48 + w)) else fn_w (fn_w x (40 + k) (p + 1) (nI (48 + w % 10))) (40 + k) p (nI (48 + w / 10))
theorem fi_r5_22 (n d m q : Nat) (l0 l1 l5 l6 : Int32) (x : fn_M) : fn_run 0 (fn_ev 0 (n + 2000) d) (fn_lk fn_d155) (m + 3) 22 [(0, .int l0), (1, .int l1), (2, .ref q), (5, .int l5), (6, .int l6)] [] x = (if (-100) < l0 then fn_run 0 (fn_ev 0 (n + 2000) d) (fn_lk fn_d155) m 72 [(0, .int l0), (1, .int l1), (2, .ref q), (5, .int l5), (6, .int l6)] [] x else fn_run 0 (fn_ev 0 (n + 2000) d) (fn_lk fn_d155) m 28 [(0, .int l0), (1, .int l1), (2, .ref q), (5, .int l5), (6, .int l6)] [] x) := rfl
theorem fi_r5_72 (n d m q : Nat) (l0 l1 l5 l6 : Int32) (x : fn_M) : fn_run 0 (fn_ev 0 (n + 2000) d) (fn_lk fn_d155) (m + 6) 72 [(0, .int l0), (1, .int l1), (2, .ref q), (5, .int l5), (6, .int l6)] [] x = fn_run 0 (fn_ev 0 (n + 2000) d) (fn_lk fn_d155) m 83 [(0, .int l0), (1, .int l1), (2, .ref q), (5, .int (l5 + (-1))), (6, .int l6)] [.int (-l0), .ref 1000, .int (l5 + (-1)), .ref q] x := rfl
theorem fi_r5_83 (n d m q : Nat) (l0 l1 l5 l6 : Int32) (x : fn_M) (i u : Int32) : fn_run 0 (fn_ev 0 (n + 2000) d) (fn_lk fn_d155) (m + 1) 83 [(0, .int l0), (1, .int l1), (2, .ref q), (5, .int l5), (6, .int l6)] [.int i, .ref 1000, .int u, .ref q] x = (if i < 0 ∨ (fn_ro 1000).length ≤ i.toNatClampNeg then none else fn_run 0 (fn_ev 0 (n + 2000) d) (fn_lk fn_d155) m 84 [(0, .int l0), (1, .int l1), (2, .ref q), (5, .int l5), (6, .int l6)] [.int ((fn_ro 1000).getD i.toNatClampNeg 0), .int u, .ref q] x) := rfl
theorem fi_r5_102 (n d m q : Nat) (l0 l1 l5 l6 : Int32) (x : fn_M) (i u : Int32) : fn_run 0 (fn_ev 0 (n + 2000) d) (fn_lk fn_d155) (m + 1) 102 [(0, .int l0), (1, .int l1), (2, .ref q), (5, .int l5), (6, .int l6)] [.int i, .ref 1001, .int u, .ref q] x = (if i < 0 ∨ (fn_ro 1001).length ≤ i.toNatClampNeg then none else fn_run 0 (fn_ev 0 (n + 2000) d) (fn_lk fn_d155) m 103 [(0, .int l0), (1, .int l1), (2, .ref q), (5, .int l5), (6, .int l6)] [.int ((fn_ro 1001).getD i.toNatClampNeg 0), .int u, .ref q] x) := rfl
theorem fi_r5_84 (n d m q : Nat) (l0 l1 l5 l6 : Int32) (x : fn_M) (u v : Int32) : fn_run 0 (fn_ev 0 (n + 2000) d) (fn_lk fn_d155) (m + 1) 84 [(0, .int l0), (1, .int l1), (2, .ref q), (5, .int l5), (6, .int l6)] [.int v, .int u, .ref q] x = (if (fn_la 0 q).1 = 3 then (if u < 0 ∨ (fn_la 0 q).2 ≤ u.toNatClampNeg then none else fn_run 0 (fn_ev 0 (n + 2000) d) (fn_lk fn_d155) m 85 [(0, .int l0), (1, .int l1), (2, .ref q), (5, .int l5), (6, .int l6)] [] (fn_w x q u.toNatClampNeg ((v : Int32).toInt8.toInt32))) else none) := rfl
theorem fi_r5_103 (n d m q : Nat) (l0 l1 l5 l6 : Int32) (x : fn_M) (u v : Int32) : fn_run 0 (fn_ev 0 (n + 2000) d) (fn_lk fn_d155) (m + 1) 103 [(0, .int l0), (1, .int l1), (2, .ref q), (5, .int l5), (6, .int l6)] [.int v, .int u, .ref q] x = (if (fn_la 0 q).1 = 3 then (if u < 0 ∨ (fn_la 0 q).2 ≤ u.toNatClampNeg then none else fn_run 0 (fn_ev 0 (n + 2000) d) (fn_lk fn_d155) m 104 [(0, .int l0), (1, .int l1), (2, .ref q), (5, .int l5), (6, .int l6)] [] (fn_w x q u.toNatClampNeg ((v : Int32).toInt8.toInt32))) else none) := rfl
theorem fi_r5_85 (n d m q : Nat) (l0 l1 l5 l6 : Int32) (x : fn_M) : fn_run 0 (fn_ev 0 (n + 2000) d) (fn_lk fn_d155) (m + 3) 85 [(0, .int l0), (1, .int l1), (2, .ref q), (5, .int l5), (6, .int l6)] [] x = (if (-9) ≤ l0 then fn_run 0 (fn_ev 0 (n + 2000) d) (fn_lk fn_d155) m 104 [(0, .int l0), (1, .int l1), (2, .ref q), (5, .int l5), (6, .int l6)] [] x else fn_run 0 (fn_ev 0 (n + 2000) d) (fn_lk fn_d155) m 91 [(0, .int l0), (1, .int l1), (2, .ref q), (5, .int l5), (6, .int l6)] [] x) := rfl
theorem fi_r5_91 (n d m q : Nat) (l0 l1 l5 l6 : Int32) (x : fn_M) : fn_run 0 (fn_ev 0 (n + 2000) d) (fn_lk fn_d155) (m + 6) 91 [(0, .int l0), (1, .int l1), (2, .ref q), (5, .int l5), (6, .int l6)] [] x = fn_run 0 (fn_ev 0 (n + 2000) d) (fn_lk fn_d155) m 102 [(0, .int l0), (1, .int l1), (2, .ref q), (5, .int (l5 + (-1))), (6, .int l6)] [.int (-l0), .ref 1001, .int (l5 + (-1)), .ref q] x := rfl
theorem fi_r5_104 (n d m q : Nat) (l0 l1 l5 : Int32) (x : fn_M) : fn_run 0 (fn_ev 0 (n + 2000) d) (fn_lk fn_d155) (m + 4) 104 [(0, .int l0), (1, .int l1), (2, .ref q), (5, .int l5), (6, .int 0)] [] x = some (x, some (.int l5)) := rfl
theorem fi_r7_22 (n d m q : Nat) (l0 l1 l3 l4 l5 l6 : Int32) (x : fn_M) : fn_run 0 (fn_ev 0 (n + 2000) d) (fn_lk fn_d155) (m + 3) 22 [(0, .int l0), (1, .int l1), (2, .ref q), (3, .int l3), (4, .int l4), (5, .int l5), (6, .int l6)] [] x = (if (-100) < l0 then fn_run 0 (fn_ev 0 (n + 2000) d) (fn_lk fn_d155) m 72 [(0, .int l0), (1, .int l1), (2, .ref q), (3, .int l3), (4, .int l4), (5, .int l5), (6, .int l6)] [] x else fn_run 0 (fn_ev 0 (n + 2000) d) (fn_lk fn_d155) m 28 [(0, .int l0), (1, .int l1), (2, .ref q), (3, .int l3), (4, .int l4), (5, .int l5), (6, .int l6)] [] x) := rfl
theorem fi_r7_72 (n d m q : Nat) (l0 l1 l3 l4 l5 l6 : Int32) (x : fn_M) : fn_run 0 (fn_ev 0 (n + 2000) d) (fn_lk fn_d155) (m + 6) 72 [(0, .int l0), (1, .int l1), (2, .ref q), (3, .int l3), (4, .int l4), (5, .int l5), (6, .int l6)] [] x = fn_run 0 (fn_ev 0 (n + 2000) d) (fn_lk fn_d155) m 83 [(0, .int l0), (1, .int l1), (2, .ref q), (3, .int l3), (4, .int l4), (5, .int (l5 + (-1))), (6, .int l6)] [.int (-l0), .ref 1000, .int (l5 + (-1)), .ref q] x := rfl
theorem fi_r7_83 (n d m q : Nat) (l0 l1 l3 l4 l5 l6 : Int32) (x : fn_M) (i u : Int32) : fn_run 0 (fn_ev 0 (n + 2000) d) (fn_lk fn_d155) (m + 1) 83 [(0, .int l0), (1, .int l1), (2, .ref q), (3, .int l3), (4, .int l4), (5, .int l5), (6, .int l6)] [.int i, .ref 1000, .int u, .ref q] x = (if i < 0 ∨ (fn_ro 1000).length ≤ i.toNatClampNeg then none else fn_run 0 (fn_ev 0 (n + 2000) d) (fn_lk fn_d155) m 84 [(0, .int l0), (1, .int l1), (2, .ref q), (3, .int l3), (4, .int l4), (5, .int l5), (6, .int l6)] [.int ((fn_ro 1000).getD i.toNatClampNeg 0), .int u, .ref q] x) := rfl
theorem fi_r7_102 (n d m q : Nat) (l0 l1 l3 l4 l5 l6 : Int32) (x : fn_M) (i u : Int32) : fn_run 0 (fn_ev 0 (n + 2000) d) (fn_lk fn_d155) (m + 1) 102 [(0, .int l0), (1, .int l1), (2, .ref q), (3, .int l3), (4, .int l4), (5, .int l5), (6, .int l6)] [.int i, .ref 1001, .int u, .ref q] x = (if i < 0 ∨ (fn_ro 1001).length ≤ i.toNatClampNeg then none else fn_run 0 (fn_ev 0 (n + 2000) d) (fn_lk fn_d155) m 103 [(0, .int l0), (1, .int l1), (2, .ref q), (3, .int l3), (4, .int l4), (5, .int l5), (6, .int l6)] [.int ((fn_ro 1001).getD i.toNatClampNeg 0), .int u, .ref q] x) := rfl
theorem fi_r7_84 (n d m q : Nat) (l0 l1 l3 l4 l5 l6 : Int32) (x : fn_M) (u v : Int32) : fn_run 0 (fn_ev 0 (n + 2000) d) (fn_lk fn_d155) (m + 1) 84 [(0, .int l0), (1, .int l1), (2, .ref q), (3, .int l3), (4, .int l4), (5, .int l5), (6, .int l6)] [.int v, .int u, .ref q] x = (if (fn_la 0 q).1 = 3 then (if u < 0 ∨ (fn_la 0 q).2 ≤ u.toNatClampNeg then none else fn_run 0 (fn_ev 0 (n + 2000) d) (fn_lk fn_d155) m 85 [(0, .int l0), (1, .int l1), (2, .ref q), (3, .int l3), (4, .int l4), (5, .int l5), (6, .int l6)] [] (fn_w x q u.toNatClampNeg ((v : Int32).toInt8.toInt32))) else none) := rfl
theorem fi_r7_103 (n d m q : Nat) (l0 l1 l3 l4 l5 l6 : Int32) (x : fn_M) (u v : Int32) : fn_run 0 (fn_ev 0 (n + 2000) d) (fn_lk fn_d155) (m + 1) 103 [(0, .int l0), (1, .int l1), (2, .ref q), (3, .int l3), (4, .int l4), (5, .int l5), (6, .int l6)] [.int v, .int u, .ref q] x = (if (fn_la 0 q).1 = 3 then (if u < 0 ∨ (fn_la 0 q).2 ≤ u.toNatClampNeg then none else fn_run 0 (fn_ev 0 (n + 2000) d) (fn_lk fn_d155) m 104 [(0, .int l0), (1, .int l1), (2, .ref q), (3, .int l3), (4, .int l4), (5, .int l5), (6, .int l6)] [] (fn_w x q u.toNatClampNeg ((v : Int32).toInt8.toInt32))) else none) := rfl
theorem fi_r7_85 (n d m q : Nat) (l0 l1 l3 l4 l5 l6 : Int32) (x : fn_M) : fn_run 0 (fn_ev 0 (n + 2000) d) (fn_lk fn_d155) (m + 3) 85 [(0, .int l0), (1, .int l1), (2, .ref q), (3, .int l3), (4, .int l4), (5, .int l5), (6, .int l6)] [] x = (if (-9) ≤ l0 then fn_run 0 (fn_ev 0 (n + 2000) d) (fn_lk fn_d155) m 104 [(0, .int l0), (1, .int l1), (2, .ref q), (3, .int l3), (4, .int l4), (5, .int l5), (6, .int l6)] [] x else fn_run 0 (fn_ev 0 (n + 2000) d) (fn_lk fn_d155) m 91 [(0, .int l0), (1, .int l1), (2, .ref q), (3, .int l3), (4, .int l4), (5, .int l5), (6, .int l6)] [] x) := rfl
theorem fi_r7_91 (n d m q : Nat) (l0 l1 l3 l4 l5 l6 : Int32) (x : fn_M) : fn_run 0 (fn_ev 0 (n + 2000) d) (fn_lk fn_d155) (m + 6) 91 [(0, .int l0), (1, .int l1), (2, .ref q), (3, .int l3), (4, .int l4), (5, .int l5), (6, .int l6)] [] x = fn_run 0 (fn_ev 0 (n + 2000) d) (fn_lk fn_d155) m 102 [(0, .int l0), (1, .int l1), (2, .ref q), (3, .int l3), (4, .int l4), (5, .int (l5 + (-1))), (6, .int l6)] [.int (-l0), .ref 1001, .int (l5 + (-1)), .ref q] x := rfl
theorem fi_r7_104 (n d m q : Nat) (l0 l1 l3 l4 l5 : Int32) (x : fn_M) : fn_run 0 (fn_ev 0 (n + 2000) d) (fn_lk fn_d155) (m + 4) 104 [(0, .int l0), (1, .int l1), (2, .ref q), (3, .int l3), (4, .int l4), (5, .int l5), (6, .int 0)] [] x = some (x, some (.int l5)) := rfl
theorem fi_r5_28 (n d m q : Nat) (l0 l1 l5 l6 : Int32) (x : fn_M) : fn_run 0 (fn_ev 0 (n + 2000) d) (fn_lk fn_d155) (m + 17) 28 [(0, .int l0), (1, .int l1), (2, .ref q), (5, .int l5), (6, .int l6)] [] x = fn_run 0 (fn_ev 0 (n + 2000) d) (fn_lk fn_d155) m 54 [(0, .int (l0 / 100)), (1, .int l1), (2, .ref q), (3, .int (l0 / 100)), (4, .int (((l0 / 100) * 100) - l0)), (5, .int (l5 + (-1))), (6, .int l6)] [.int (((l0 / 100) * 100) - l0), .ref 1000, .int (l5 + (-1)), .ref q] x := rfl
theorem fi_r7_54 (n d m q : Nat) (l0 l1 l3 l4 l5 l6 : Int32) (x : fn_M) (i u : Int32) : fn_run 0 (fn_ev 0 (n + 2000) d) (fn_lk fn_d155) (m + 1) 54 [(0, .int l0), (1, .int l1), (2, .ref q), (3, .int l3), (4, .int l4), (5, .int l5), (6, .int l6)] [.int i, .ref 1000, .int u, .ref q] x = (if i < 0 ∨ (fn_ro 1000).length ≤ i.toNatClampNeg then none else fn_run 0 (fn_ev 0 (n + 2000) d) (fn_lk fn_d155) m 55 [(0, .int l0), (1, .int l1), (2, .ref q), (3, .int l3), (4, .int l4), (5, .int l5), (6, .int l6)] [.int ((fn_ro 1000).getD i.toNatClampNeg 0), .int u, .ref q] x) := rfl
theorem fi_r7_67 (n d m q : Nat) (l0 l1 l3 l4 l5 l6 : Int32) (x : fn_M) (i u : Int32) : fn_run 0 (fn_ev 0 (n + 2000) d) (fn_lk fn_d155) (m + 1) 67 [(0, .int l0), (1, .int l1), (2, .ref q), (3, .int l3), (4, .int l4), (5, .int l5), (6, .int l6)] [.int i, .ref 1001, .int u, .ref q] x = (if i < 0 ∨ (fn_ro 1001).length ≤ i.toNatClampNeg then none else fn_run 0 (fn_ev 0 (n + 2000) d) (fn_lk fn_d155) m 68 [(0, .int l0), (1, .int l1), (2, .ref q), (3, .int l3), (4, .int l4), (5, .int l5), (6, .int l6)] [.int ((fn_ro 1001).getD i.toNatClampNeg 0), .int u, .ref q] x) := rfl
theorem fi_r7_55 (n d m q : Nat) (l0 l1 l3 l4 l5 l6 : Int32) (x : fn_M) (u v : Int32) : fn_run 0 (fn_ev 0 (n + 2000) d) (fn_lk fn_d155) (m + 1) 55 [(0, .int l0), (1, .int l1), (2, .ref q), (3, .int l3), (4, .int l4), (5, .int l5), (6, .int l6)] [.int v, .int u, .ref q] x = (if (fn_la 0 q).1 = 3 then (if u < 0 ∨ (fn_la 0 q).2 ≤ u.toNatClampNeg then none else fn_run 0 (fn_ev 0 (n + 2000) d) (fn_lk fn_d155) m 56 [(0, .int l0), (1, .int l1), (2, .ref q), (3, .int l3), (4, .int l4), (5, .int l5), (6, .int l6)] [] (fn_w x q u.toNatClampNeg ((v : Int32).toInt8.toInt32))) else none) := rfl
theorem fi_r7_68 (n d m q : Nat) (l0 l1 l3 l4 l5 l6 : Int32) (x : fn_M) (u v : Int32) : fn_run 0 (fn_ev 0 (n + 2000) d) (fn_lk fn_d155) (m + 1) 68 [(0, .int l0), (1, .int l1), (2, .ref q), (3, .int l3), (4, .int l4), (5, .int l5), (6, .int l6)] [.int v, .int u, .ref q] x = (if (fn_la 0 q).1 = 3 then (if u < 0 ∨ (fn_la 0 q).2 ≤ u.toNatClampNeg then none else fn_run 0 (fn_ev 0 (n + 2000) d) (fn_lk fn_d155) m 69 [(0, .int l0), (1, .int l1), (2, .ref q), (3, .int l3), (4, .int l4), (5, .int l5), (6, .int l6)] [] (fn_w x q u.toNatClampNeg ((v : Int32).toInt8.toInt32))) else none) := rfl
theorem fi_r7_56 (n d m q : Nat) (l0 l1 l3 l4 l5 l6 : Int32) (x : fn_M) : fn_run 0 (fn_ev 0 (n + 2000) d) (fn_lk fn_d155) (m + 5) 56 [(0, .int l0), (1, .int l1), (2, .ref q), (3, .int l3), (4, .int l4), (5, .int l5), (6, .int l6)] [] x = fn_run 0 (fn_ev 0 (n + 2000) d) (fn_lk fn_d155) m 67 [(0, .int l0), (1, .int l1), (2, .ref q), (3, .int l3), (4, .int l4), (5, .int (l5 + (-1))), (6, .int l6)] [.int l4, .ref 1001, .int (l5 + (-1)), .ref q] x := rfl
theorem fi_r7_69 (n d m q : Nat) (l0 l1 l3 l4 l5 l6 : Int32) (x : fn_M) : fn_run 0 (fn_ev 0 (n + 2000) d) (fn_lk fn_d155) (m + 1) 69 [(0, .int l0), (1, .int l1), (2, .ref q), (3, .int l3), (4, .int l4), (5, .int l5), (6, .int l6)] [] x = fn_run 0 (fn_ev 0 (n + 2000) d) (fn_lk fn_d155) m 22 [(0, .int l0), (1, .int l1), (2, .ref q), (3, .int l3), (4, .int l4), (5, .int l5), (6, .int l6)] [] x := rfl
theorem fi_gc5 {k : Nat} (h1 : 1 ≤ k) (h2 : k ≤ 4) (n d m : Nat) (x : fn_M) {w p : Nat} (hw : w < 100) (hp : p + 2 ≤ 16) (l1 : Int32) : ∃ r, fn_run 0 (fn_ev 0 (n + 2000) d) (fn_lk fn_d155) (m + 31) 22 [(0, .int (-nI w)), (1, .int l1), (2, .ref (40 + k)), (5, .int (nI (p + 2))), (6, .int 0)] [] x = some (fi_dd k x w p, some (.int r)) := by
  have cw : (nI w).toNatClampNeg = w := fr_cl (by omega)
  have c1 : (nI (p + 1)).toNatClampNeg = p + 1 := fr_cl (by omega)
  have c0 : (nI p).toNatClampNeg = p := fr_cl (by omega)
  have la1 : (fn_la 0 (40 + k)).1 = 3 := fi_la1 k h2 h1
  have la2 : (fn_la 0 (40 + k)).2 = 16 := fi_la2 k h2 h1
  rw [show m + 31 = (m + 28) + 3 from rfl, fi_r5_22, show (-100 : Int32) = -nI 100 from rfl, if_pos ((fi_nlt (by omega) (by omega)).mpr hw), show m + 28 = (m + 22) + 6 from rfl, fi_r5_72, Int32.neg_neg, show p + 2 = (p + 1) + 1 from rfl, fr_m1, show m + 22 = (m + 21) + 1 from rfl, fi_r5_83, fi_l0, cw, if_neg (fi_ix hw), show m + 21 = (m + 20) + 1 from rfl, fi_r5_84, if_pos la1, la2, c1, if_neg (fi_i16 (w := p + 1) (by omega)), fi_ones w hw, show m + 20 = (m + 17) + 3 from rfl, fi_r5_85, show (-9 : Int32) = -nI 9 from rfl]
  unfold fi_dd
  by_cases e : w < 10
  · rw [if_pos ((fi_nle (by omega) (by omega)).mpr (by omega)), if_pos e, Nat.mod_eq_of_lt e, show m + 17 = (m + 13) + 4 from rfl, fi_r5_104]
    exact ⟨_, rfl⟩
  · rw [if_neg (fun q => by have := (fi_nle (by omega) (by omega)).mp q; omega), if_neg e, show m + 17 = (m + 11) + 6 from rfl, fi_r5_91, Int32.neg_neg, fr_m1, show m + 11 = (m + 10) + 1 from rfl, fi_r5_102, fi_l1, cw, if_neg (fi_ix hw), show m + 10 = (m + 9) + 1 from rfl, fi_r5_103, if_pos la1, la2, c0, if_neg (fi_i16 (w := p) (by omega)), fi_tens w hw, show m + 9 = (m + 5) + 4 from rfl, fi_r5_104]
    exact ⟨_, rfl⟩
theorem fi_gc7 {k : Nat} (h1 : 1 ≤ k) (h2 : k ≤ 4) (n d m : Nat) (x : fn_M) {w p : Nat} (hw : w < 100) (hp : p + 2 ≤ 16) (l1 l3 l4 : Int32) : ∃ r, fn_run 0 (fn_ev 0 (n + 2000) d) (fn_lk fn_d155) (m + 31) 22 [(0, .int (-nI w)), (1, .int l1), (2, .ref (40 + k)), (3, .int l3), (4, .int l4), (5, .int (nI (p + 2))), (6, .int 0)] [] x = some (fi_dd k x w p, some (.int r)) := by
  have cw : (nI w).toNatClampNeg = w := fr_cl (by omega)
  have c1 : (nI (p + 1)).toNatClampNeg = p + 1 := fr_cl (by omega)
  have c0 : (nI p).toNatClampNeg = p := fr_cl (by omega)
  have la1 : (fn_la 0 (40 + k)).1 = 3 := fi_la1 k h2 h1
  have la2 : (fn_la 0 (40 + k)).2 = 16 := fi_la2 k h2 h1
  rw [show m + 31 = (m + 28) + 3 from rfl, fi_r7_22, show (-100 : Int32) = -nI 100 from rfl, if_pos ((fi_nlt (by omega) (by omega)).mpr hw), show m + 28 = (m + 22) + 6 from rfl, fi_r7_72, Int32.neg_neg, show p + 2 = (p + 1) + 1 from rfl, fr_m1, show m + 22 = (m + 21) + 1 from rfl, fi_r7_83, fi_l0, cw, if_neg (fi_ix hw), show m + 21 = (m + 20) + 1 from rfl, fi_r7_84, if_pos la1, la2, c1, if_neg (fi_i16 (w := p + 1) (by omega)), fi_ones w hw, show m + 20 = (m + 17) + 3 from rfl, fi_r7_85, show (-9 : Int32) = -nI 9 from rfl]
  unfold fi_dd
  by_cases e : w < 10
  · rw [if_pos ((fi_nle (by omega) (by omega)).mpr (by omega)), if_pos e, Nat.mod_eq_of_lt e, show m + 17 = (m + 13) + 4 from rfl, fi_r7_104]
    exact ⟨_, rfl⟩
  · rw [if_neg (fun q => by have := (fi_nle (by omega) (by omega)).mp q; omega), if_neg e, show m + 17 = (m + 11) + 6 from rfl, fi_r7_91, Int32.neg_neg, fr_m1, show m + 11 = (m + 10) + 1 from rfl, fi_r7_102, fi_l1, cw, if_neg (fi_ix hw), show m + 10 = (m + 9) + 1 from rfl, fi_r7_103, if_pos la1, la2, c0, if_neg (fi_i16 (w := p) (by omega)), fi_tens w hw, show m + 9 = (m + 5) + 4 from rfl, fi_r7_104]
    exact ⟨_, rfl⟩
/-- two digits more -/
theorem fi_gs {k : Nat} (h1 : 1 ≤ k) (h2 : k ≤ 4) (n d m : Nat) (x : fn_M) {v p : Nat} (hv : v ≤ 9999) (h100 : 100 ≤ v) (hp : p + 2 ≤ 16) (l1 : Int32) : fn_run 0 (fn_ev 0 (n + 2000) d) (fn_lk fn_d155) (m + 31) 22 [(0, .int (-nI v)), (1, .int l1), (2, .ref (40 + k)), (5, .int (nI (p + 2))), (6, .int 0)] [] x =
    fn_run 0 (fn_ev 0 (n + 2000) d) (fn_lk fn_d155) (m + 1) 22 [(0, .int (-nI (v / 100))), (1, .int l1), (2, .ref (40 + k)), (3, .int (-nI (v / 100))), (4, .int (nI (v % 100))), (5, .int (nI p)), (6, .int 0)] [] (fn_w (fn_w x (40 + k) (p + 1) (nI (48 + v % 100 % 10))) (40 + k) p (nI (48 + v % 100 / 10))) := by
  have hr : v % 100 < 100 := Nat.mod_lt _ (by decide)
  have cw : (nI (v % 100)).toNatClampNeg = v % 100 := fr_cl (by omega)
  have c1 : (nI (p + 1)).toNatClampNeg = p + 1 := fr_cl (by omega)
  have c0 : (nI p).toNatClampNeg = p := fr_cl (by omega)
  have la1 : (fn_la 0 (40 + k)).1 = 3 := fi_la1 k h2 h1
  have la2 : (fn_la 0 (40 + k)).2 = 16 := fi_la2 k h2 h1
  rw [show m + 31 = (m + 28) + 3 from rfl, fi_r5_22, show (-100 : Int32) = -nI 100 from rfl, if_neg (fun q => by have := (fi_nlt (by omega) (by omega)).mp q; omega), show m + 28 = (m + 11) + 17 from rfl, fi_r5_28, fi_div hv, fi_rem, show p + 2 = (p + 1) + 1 from rfl, fr_m1, show m + 11 = (m + 10) + 1 from rfl, fi_r7_54, fi_l0, cw, if_neg (fi_ix hr), show m + 10 = (m + 9) + 1 from rfl, fi_r7_55, if_pos la1, la2, c1, if_neg (fi_i16 (w := p + 1) (by omega)), fi_ones _ hr, show m + 9 = (m + 4) + 5 from rfl, fi_r7_56, fr_m1, show m + 4 = (m + 3) + 1 from rfl, fi_r7_67, fi_l1, cw, if_neg (fi_ix hr), show m + 3 = (m + 2) + 1 from rfl, fi_r7_68, if_pos la1, la2, c0, if_neg (fi_i16 (w := p) (by omega)), fi_tens _ hr, show m + 2 = (m + 1) + 1 from rfl, fi_r7_69]
theorem fi_gc {k : Nat} (h1 : 1 ≤ k) (h2 : k ≤ 4) (n d : Nat) (x : fn_M) {v L : Nat} (hv : v ≤ 9999) (hL : 1 ≤ L) (h16 : L + fr_dg v ≤ 16) : ∃ x' r, fn_ev 0 (n + 2000) (d + 1) 155 [.int (nI v), .int (nI (L + fr_dg v)), .ref (40 + k)] x = some (x', some (.int r)) ∧ (∀ q, q ≠ (40 + k) → x' q = x q) ∧ (∀ j, j < L → x' (40 + k) j = x (40 + k) j) ∧ (∀ i, i < fr_dg v → x' (40 + k) (L + i) = nI (48 + v / 10 ^ (fr_dg v - 1 - i) % 10)) := by
  obtain ⟨p, rfl⟩ : ∃ p, L = p + 1 := ⟨L - 1, by omega⟩
  rw [fk_Int_getChars n d h1 h2, if_pos (show (0 : Int32) ≤ nI v from nI_pos' (by omega))]
  rcases fi_dgv hv with ⟨a, e⟩ | ⟨a, b, e⟩ | ⟨a, b, e⟩ | ⟨a, e⟩
  · rw [e] at h16 ⊢
    obtain ⟨r, hr⟩ := fi_gc5 h1 h2 n d (n + 1958) x (w := v) (p := p) (by omega) (by omega) (nI (p + 1 + 1))
    refine ⟨_, r, hr, fun q b => ?_, fun j b => ?_, fun i b => ?_⟩
    all_goals (unfold fi_dd; rw [if_pos a])
    · exact fw_row b
    · exact fw_nj (by omega)
    · obtain rfl : i = 0 := by omega
      rw [show p + 1 + 0 = p + 1 from rfl, fw_eq, show 1 - 1 - 0 = 0 from rfl, Nat.pow_zero, Nat.div_one, Nat.mod_eq_of_lt a]
  · rw [e] at h16 ⊢
    obtain ⟨r, hr⟩ := fi_gc5 h1 h2 n d (n + 1958) x (w := v) (p := p + 1) (by omega) (by omega) (nI (p + 1 + 2))
    refine ⟨_, r, hr, fun q b => ?_, fun j b => ?_, fun i b => ?_⟩
    all_goals (unfold fi_dd; rw [if_neg (show ¬ v < 10 by omega)])
    · rw [fw_row b, fw_row b]
    · rw [fw_nj (by omega), fw_nj (by omega)]
    · obtain rfl | rfl : i = 0 ∨ i = 1 := by omega
      · rw [show p + 1 + 0 = p + 1 from rfl, fw_eq, show 2 - 1 - 0 = 1 from rfl, Nat.pow_one]
        all_goals (congr 2; omega)
      · rw [fw_nj (by omega), fw_eq, show 2 - 1 - 1 = 0 from rfl, Nat.pow_zero, Nat.div_one]
  · rw [e] at h16 ⊢
    have hq : v / 100 < 10 := by omega
    have hs := fi_gs h1 h2 n d (n + 1958) x (p := p + 2) hv a (by omega) (nI (p + 1 + 3))
    obtain ⟨r, hr⟩ := fi_gc7 h1 h2 n d (n + 1928) (fn_w (fn_w x (40 + k) (p + 2 + 1) (nI (48 + v % 100 % 10))) (40 + k) (p + 2) (nI (48 + v % 100 / 10))) (w := v / 100) (p := p) (by omega) (by omega) (nI (p + 1 + 3)) (-nI (v / 100)) (nI (v % 100))
    refine ⟨_, r, hs.trans hr, fun q b => ?_, fun j b => ?_, fun i b => ?_⟩
    all_goals (unfold fi_dd; rw [if_pos hq])
    · rw [fw_row b, fw_row b, fw_row b]
    · rw [fw_nj (by omega), fw_nj (by omega), fw_nj (by omega)]
    · obtain rfl | rfl | rfl : i = 0 ∨ i = 1 ∨ i = 2 := by omega
      · rw [show p + 1 + 0 = p + 1 from rfl, fw_eq, show 3 - 1 - 0 = 2 from rfl]
        all_goals (congr 2; omega)
      · rw [fw_nj (by omega), show p + 1 + 1 = p + 2 from rfl, fw_eq, show 3 - 1 - 1 = 1 from rfl, Nat.pow_one]
        all_goals (congr 2; omega)
      · rw [fw_nj (by omega), fw_nj (by omega), show p + 1 + 2 = p + 2 + 1 from rfl, fw_eq, show 3 - 1 - 2 = 0 from rfl, Nat.pow_zero, Nat.div_one]
        all_goals (congr 2; omega)
  · rw [e] at h16 ⊢
    have hq : ¬ v / 100 < 10 := by omega
    have hs := fi_gs h1 h2 n d (n + 1958) x (p := p + 3) hv (by omega) (by omega) (nI (p + 1 + 4))
    obtain ⟨r, hr⟩ := fi_gc7 h1 h2 n d (n + 1928) (fn_w (fn_w x (40 + k) (p + 3 + 1) (nI (48 + v % 100 % 10))) (40 + k) (p + 3) (nI (48 + v % 100 / 10))) (w := v / 100) (p := p + 1) (by omega) (by omega) (nI (p + 1 + 4)) (-nI (v / 100)) (nI (v % 100))
    refine ⟨_, r, hs.trans hr, fun q b => ?_, fun j b => ?_, fun i b => ?_⟩
    all_goals (unfold fi_dd; rw [if_neg hq])
    · rw [fw_row b, fw_row b, fw_row b, fw_row b]
    · rw [fw_nj (by omega), fw_nj (by omega), fw_nj (by omega), fw_nj (by omega)]
    · obtain rfl | rfl | rfl | rfl : i = 0 ∨ i = 1 ∨ i = 2 ∨ i = 3 := by omega
      · rw [show p + 1 + 0 = p + 1 from rfl, fw_eq, show 4 - 1 - 0 = 3 from rfl]
        all_goals (congr 2; omega)
      · rw [fw_nj (by omega), show p + 1 + 1 = p + 1 + 1 from rfl, fw_eq, show 4 - 1 - 1 = 2 from rfl]
        all_goals (congr 2; omega)
      · rw [fw_nj (by omega), fw_nj (by omega), show p + 1 + 2 = p + 3 from rfl, fw_eq, show 4 - 1 - 2 = 1 from rfl, Nat.pow_one]
        all_goals (congr 2; omega)
      · rw [fw_nj (by omega), fw_nj (by omega), fw_nj (by omega), show p + 1 + 3 = p + 3 + 1 from rfl, fw_eq, show 4 - 1 - 3 = 0 from rfl, Nat.pow_zero, Nat.div_one]
        all_goals (congr 2; omega)
theorem fi_cap {k : Nat} (h1 : 1 ≤ k) (h2 : k ≤ 4) (n d : Nat) (x : fn_M) {a : Nat} (ha : a ≤ 16) (e1 : x (36 + k) 1 = 0) : fn_ev 0 (n + 2000) (d + 1) 141 [.ref (36 + k), .int (nI a)] x = some (x, none) := by
  rw [fk_ASB_ensureCapacityInternal n d h1 h2, e1, if_pos (fi_capn a ha)]
theorem fi_lat {k : Nat} (h1 : 1 ≤ k) (h2 : k ≤ 4) (n d : Nat) (x : fn_M) (e1 : x (36 + k) 1 = 0) : fn_ev 0 (n + 2000) (d + 1) 146 [.ref (36 + k)] x = some (x, some (.int 1)) := by
  rw [fk_ASB_isLatin1 n d h1 h2, if_pos e1]
theorem fi_appI {k : Nat} (h1 : 1 ≤ k) (h2 : k ≤ 4) (n d : Nat) (x : fn_M) {v L : Nat} (hv : v ≤ 9999) (hL : 1 ≤ L) (h16 : L + fr_dg v ≤ 16) (e1 : x (36 + k) 1 = 0) (e3 : x (36 + k) 3 = nI L) : ∃ x', fn_ev 0 (n + 2000) (d + 3) 136 [.ref (36 + k), .int (nI v)] x = some (x', some (.ref (36 + k))) ∧ (∀ q, q ≠ (36 + k) → q ≠ (40 + k) → x' q = x q) ∧ x' (36 + k) 1 = 0 ∧ x' (36 + k) 3 = nI (L + fr_dg v) ∧ (∀ j, j < L → x' (40 + k) j = x (40 + k) j) ∧ (∀ i, i < fr_dg v → x' (40 + k) (L + i) = nI (48 + v / 10 ^ (fr_dg v - 1 - i) % 10)) := by
  obtain ⟨y, r, q1, q2, q3, q4⟩ := fi_gc h1 h2 n d x hv hL h16
  rw [fk_SB_appendI n (d + 2) h1 h2, fk_ASB_appendI n (d + 1) h1 h2, fi_size n d x hv, fb_i, e3, nI_add, fi_cap h1 h2 n d x h16 e1, fb_v, fi_lat h1 h2 n d x e1, fb_i, if_neg fr_10, q1, fb_i, fb_r]
  refine ⟨_, rfl, fun q b1 b2 => ?_, ?_, fw_eq, fun j b => ?_, fun i b => ?_⟩
  · rw [fw_row b1, q2 q b2]
  · rw [fw_nj (by decide), q2 _ (by omega)]
    exact e1
  · rw [fw_ne (by omega)]
    exact q3 j b
  · rw [fw_ne (by omega)]
    exact q4 i b
theorem fi_appC {k : Nat} (h1 : 1 ≤ k) (h2 : k ≤ 4) (n d : Nat) (x : fn_M) {L : Nat} (h16 : L + 1 ≤ 16) (e1 : x (36 + k) 1 = 0) (e3 : x (36 + k) 3 = nI L) : ∃ x', fn_ev 0 (n + 2000) (d + 3) 137 [.ref (36 + k), .int 58] x = some (x', some (.ref (36 + k))) ∧ (∀ q, q ≠ (36 + k) → q ≠ (40 + k) → x' q = x q) ∧ x' (36 + k) 1 = 0 ∧ x' (36 + k) 3 = nI (L + 1) ∧ (∀ j, j < L → x' (40 + k) j = x (40 + k) j) ∧ x' (40 + k) L = nI 58 := by
  have cL : (nI L).toNatClampNeg = L := fr_cl (by omega)
  rw [fk_SB_appendC n (d + 2) h1 h2, fk_ASB_appendC n (d + 1) h1 h2, e3, nI_1, fi_cap h1 h2 n d x h16 e1, fb_v, fi_lat h1 h2 n d x e1, fb_i, if_neg fr_10, ft_Lat_canEncode n d, if_neg (show ¬ (255 : Int32) < 58 by decide), fb_i, if_neg fr_10, e3]
  simp only [cL, if_neg (fi_i16 (w := L) (by omega))]
  rw [fb_r, nI_1, fi_58]
  refine ⟨_, rfl, fun q b1 b2 => ?_, ?_, ?_, fun j b => ?_, fw_eq⟩
  · rw [fw_row b2, fw_row b1]
  · rw [fw_ne (by omega), fw_nj (by decide)]
    exact e1
  · rw [fw_ne (by omega), fw_eq]
  · rw [fw_nj (by omega), fw_ne (by omega)]
theorem fi_appS {k : Nat} (h1 : 1 ≤ k) (h2 : k ≤ 4) (n d : Nat) (x : fn_M) (e1 : x (36 + k) 1 = 0) (e3 : x (36 + k) 3 = nI 0) : ∃ x', fn_ev 0 (n + 2000) (d + 5) 135 [.ref (36 + k), .ref 1002] x = some (x', some (.ref (36 + k))) ∧ (∀ q, q ≠ (36 + k) → q ≠ (40 + k) → x' q = x q) ∧ x' (36 + k) 1 = 0 ∧ x' (36 + k) 3 = nI 5 ∧ (∀ j, j < 5 → x' (40 + k) j = fn_lit.getD j 0) := by
  have hla : 1003 = 1003 ∧ (fn_la 0 (40 + k)).1 = 3 ∧ true = true := ⟨rfl, fi_la1 k h2 h1, rfl⟩
  have hbd : ¬ ((0 : Int32) < 0 ∨ (((0 : Int32) <<< ((0 : Int32) &&& 31)) : Int32) < 0 ∨ (5 : Int32) < 0 ∨ ¬ 0 + 5 ≤ 5 ∨ ¬ ((0 : Int32) <<< ((0 : Int32) &&& 31)).toNatClampNeg + 5 ≤ (fn_la 0 (40 + k)).2) := by
    rw [fi_la2 k h2 h1]
    decide
  rw [fk_SB_appendS n (d + 4) h1 h2, fk_ASB_appendS n (d + 3) h1 h2, ft_Str_length n (d + 2), ft_Str_coder n (d + 1), fb_i, fb_i, show (5 : Int32) >>> ((0 : Int32) &&& 31) = nI 5 from rfl, e3, nI_add, fi_cap h1 h2 n (d + 2) x (by decide) e1, fb_v, fk_ASB_putStringAt n (d + 2) h1 h2, fk_ASB_inflateIfNeededFor n (d + 1) h1 h2, ft_Str_coder n d, fb_i, if_pos e1, fb_v, e1, e3, nI_0, fk_Str_getBytes n (d + 1) h1 h2, ft_Str_coder n d, fb_i, if_pos rfl, if_pos hla, if_neg hbd, fb_v, fb_v, fb_r]
  have hq : ∀ q, q ≠ (40 + k) → fn_cp x (40 + k) 0 ((0 : Int32) <<< ((0 : Int32) &&& 31)).toNatClampNeg 5 q = x q := fun q b => if_neg b
  refine ⟨_, rfl, fun q b1 b2 => ?_, ?_, ?_, fun j b => ?_⟩
  · rw [fw_row b1, hq q b2]
  · rw [fw_nj (by decide), hq _ (by omega)]
    exact e1
  · rw [fw_eq, hq _ (by omega), e3, nI_add]
  · rw [fw_ne (by omega)]
    show (if (40 + k) = (40 + k) then va_cpy (fun j => fn_lit.getD j 0) (x (40 + k)) 0 ((0 : Int32) <<< ((0 : Int32) &&& 31)).toNatClampNeg 5 else x (40 + k)) j = _
    rw [if_pos rfl]
    show (if ((0 : Int32) <<< ((0 : Int32) &&& 31)).toNatClampNeg ≤ j ∧ j < ((0 : Int32) <<< ((0 : Int32) &&& 31)).toNatClampNeg + 5 then fn_lit.getD (0 + (j - ((0 : Int32) <<< ((0 : Int32) &&& 31)).toNatClampNeg)) 0 else x (40 + k) j) = _
    rw [show ((0 : Int32) <<< ((0 : Int32) &&& 31)).toNatClampNeg = 0 from rfl, if_pos ⟨Nat.zero_le _, by omega⟩, Nat.zero_add, Nat.sub_zero]
theorem fi_set0 {k : Nat} (h1 : 1 ≤ k) (h2 : k ≤ 4) (n d : Nat) (x : fn_M) {L : Nat} (hL : L ≤ 16) (e1 : x (36 + k) 1 = 0) (e3 : x (36 + k) 3 = nI L) : ∃ x', fn_ev 0 (n + 2000) (d + 3) 134 [.ref (36 + k), .int 0] x = some (x', none) ∧ (∀ q, q ≠ (36 + k) → x' q = x q) ∧ x' (36 + k) 1 = 0 ∧ x' (36 + k) 3 = nI 0 := by
  have hc := fi_cap h1 h2 n d x (a := 0) (by decide) e1
  rw [nI_0] at hc
  rw [fk_SB_setLength n (d + 2) h1 h2, fk_ASB_setLength n (d + 1) h1 h2, if_pos (show (0 : Int32) ≤ 0 by decide), hc, fb_v, e3, if_pos (show (0 : Int32) ≤ nI L from nI_pos' (by omega))]
  by_cases e : nI L ≤ 0
  · rw [if_pos e, fb_v]
    refine ⟨_, rfl, fun q b => fw_row b, ?_, ?_⟩
    · rw [fw_nj (by decide)]; exact e1
    · rw [fw_eq, nI_0]
  · rw [if_neg e, fb_v]
    refine ⟨_, rfl, fun q b => ?_, ?_, ?_⟩
    · rw [fw_row b, fw_row b]
    · rw [fw_nj (by decide), fw_nj (by decide)]; exact e1
    · rw [fw_eq, nI_0]
/-- a node takes an identity -/
theorem fi_take {k : Nat} (h1 : 1 ≤ k) (h2 : k ≤ 4) (n d : Nat) (x : fn_M) {v L : Nat} (hv : v ≤ 9999) (hL : L ≤ 16) (e0 : x (28 + k) 0 = nI k) (e1 : x (36 + k) 1 = 0) (e3 : x (36 + k) 3 = nI L) : ∃ x', fn_ev 0 (n + 2000) (d + 6) 27 [.ref (28 + k), .int (nI v)] x = some (x', none) ∧ (∀ q, q ≠ (32 + k) → q ≠ (36 + k) → q ≠ (40 + k) → x' q = x q) ∧ x' (32 + k) = (fn_w x (32 + k) 0 (nI v)) (32 + k) ∧ x' (36 + k) 1 = 0 ∧ x' (36 + k) 3 = nI (7 + fr_dg v) ∧ (∀ j, j < 7 + fr_dg v → x' (40 + k) j = nI (fr_nm k v j)) := by
  have hd := fr_dg_le v
  obtain ⟨y1, a1, a2, a3, a4⟩ := fi_set0 h1 h2 n (d + 2) (fn_w x (32 + k) 0 (nI v)) hL (by rw [fw_ne (by omega)]; exact e1) (by rw [fw_ne (by omega)]; exact e3)
  obtain ⟨y2, b1, b2, b3, b4, b5⟩ := fi_appS h1 h2 n d y1 a3 a4
  obtain ⟨y3, c1, c2, c3, c4, c5, c6⟩ := fi_appI h1 h2 n (d + 2) y2 (v := k) (L := 5) (by omega) (by decide) (by have := fr_dg_le k; omega) b3 b4
  have hdk : fr_dg k = 1 := by
    unfold fr_dg
    rw [if_neg (by omega), if_neg (by omega), if_neg (by omega)]
  rw [hdk] at c4 c6
  obtain ⟨y4, g1, g2, g3, g4, g5, g6⟩ := fi_appC h1 h2 n (d + 2) y3 (L := 6) (by decide) c3 c4
  obtain ⟨y5, i1, i2, i3, i4, i5, i6⟩ := fi_appI h1 h2 n (d + 2) y4 hv (L := 7) (by decide) (by omega) g3 g4
  have n2 : y2 (28 + k) 0 = nI k := by
    rw [b2 _ (by omega) (by omega), a2 _ (by omega), fw_ne (by omega)]
    exact e0
  rw [fk_Node_takeIdentity n (d + 5) h1 h2, a1, fb_v, b1, fb_r, if_pos (fi_sbT k h2 h1), n2, c1, fb_r, if_pos (fi_sbT k h2 h1), g1, fb_r, if_pos (fi_sbT k h2 h1), i1, fb_r]
  refine ⟨y5, rfl, fun q w1 w2 w3 => ?_, ?_, i3, i4, fun j w => ?_⟩
  · rw [i2 q w2 w3, g2 q w2 w3, c2 q w2 w3, b2 q w2 w3, a2 q w2, fw_row w1]
  · rw [i2 _ (by omega) (by omega), g2 _ (by omega) (by omega), c2 _ (by omega) (by omega), b2 _ (by omega) (by omega), a2 _ (by omega)]
  · by_cases j7 : j < 7
    · rw [i5 j j7]
      by_cases j6 : j = 6
      · subst j6
        rw [g6]
        rfl
      · rw [g5 j (by omega)]
        by_cases j5 : j = 5
        · subst j5
          have := c6 0 (by decide)
          rw [show 5 + 0 = 5 from rfl, show 1 - 1 - 0 = 0 from rfl, Nat.pow_zero, Nat.div_one, Nat.mod_eq_of_lt (by omega)] at this
          rw [this]
          rfl
        · rw [c5 j (by omega), b5 j (by omega), fi_lit k h2 j (by omega)]
          unfold fr_nm
          obtain rfl | rfl | rfl | rfl | rfl : j = 0 ∨ j = 1 ∨ j = 2 ∨ j = 3 ∨ j = 4 := by omega
          all_goals rfl
    · have := i6 (j - 7) (by omega)
      rw [show 7 + (j - 7) = j by omega] at this
      rw [this]
      unfold fr_nm
      rw [if_neg (by omega), if_neg (by omega), if_neg (by omega), if_neg (by omega), if_neg (by omega), if_neg (by omega), if_neg (by omega), show fr_dg v - 1 - (j - 7) = 6 + fr_dg v - j by omega]
end fiA
section FID
variable {t c : Nat} {f : Nat → Nat} {x z : fn_M}
theorem fp_identify (h : fr_R t c f x z) (n d n1 d1 : Nat) (a b : Int32) : fr_pub t (fn_ev 0 (n + 2000) (d + 7) 62 [.ref 0, .int a, .int b] x) (fn_ev 1 (n1 + 2000) (d1 + 2) 117 [.ref 0, .int a, .int b] z) := by
  have ok : ∀ v : Int32, fr_pub t (some (x, some (.int v))) (some (z, some (.int v))) := fun v => ⟨x, z, c, f, v, rfl, rfl, h⟩
  rw [ft_Net_identify n (d + 6), ft_Model_identify n1 (d1 + 1), fe_nd0, fe_nd1, fb_i, fb_i]
  by_cases w1 : fr_w a 1 4 = 0
  · rw [if_pos w1, if_pos w1]
    exact ok _
  · obtain ⟨k, k1, k2, rfl⟩ := fr_bt (lo := 1) (hi := 4) (by decide) (by decide) (fr_no1 (fr_w01 _ _ _) w1)
    have hcl : (nI k).toNatClampNeg = k := fr_cl (by omega)
    have hix : ¬ (nI k < 0 ∨ 5 ≤ k) := by have := fr_ix (c := k) (N := 5) (by omega) (by decide); rwa [hcl] at this
    have h14 : 1 ≤ k ∧ k ≤ 4 := ⟨k1, k2⟩
    obtain ⟨a1, a2, a3, a4, a5, a6, a7, a8, a9, a10, a11, a12, a13, ⟨u, u1, u2, u3, u4, u5⟩, a15⟩ := h.2.1 k k1 k2
    have hdu := fr_dg_le u
    rw [if_neg w1, if_neg w1]
    simp only [hcl, if_neg hix, if_pos h14, if_pos (fr_nodeT k k2 k1)]
    rw [fk_Node_isOn n (d + 5) k1 k2, ← a2]
    by_cases s0 : x (28 + k) 3 = 0
    · rw [if_pos s0, if_pos s0, fb_i, if_pos rfl, fe_w0, fe_w1, fb_i, fb_i]
      by_cases w2 : fr_w b 0 9999 = 0
      · rw [if_pos w2, if_pos w2]
        exact ok _
      · obtain ⟨v, v1, v2, rfl⟩ := fr_bt (lo := 0) (hi := 9999) (by decide) (by decide) (fr_no1 (fr_w01 _ _ _) w2)
        have e16 : (16 : Int32) * nI k = nI (16 * k) := by rw [show (16 : Int32) = nI 16 from rfl, fr_mul]
        have c1 : (nI (16 * k)).toNatClampNeg = 16 * k := fr_cl (by omega)
        have x1 : ¬ (nI (16 * k) < 0 ∨ 80 ≤ 16 * k) := by have := fr_ix (c := 16 * k) (N := 80) (by omega) (by decide); rwa [c1] at this
        obtain ⟨y, q1, q2, q3, q4, q5, q6⟩ := fi_take k1 k2 n d x (v := v) (L := 7 + fr_dg u) v2 (by omega) a1 u4 u3
        rw [if_neg w2, if_neg w2, q1, fb_v, e16]
        simp only [c1, if_neg x1]
        have y28 : y (28 + k) = x (28 + k) := q2 _ (by omega) (by omega) (by omega)
        refine ⟨y, _, c, f, _, rfl, rfl, fr_Rn h k1 k2 (fun q b1 b2 b3 b4 => q2 q b2 b3 b4) (fun q b1 => fw_row (by omega)) (fun q j b1 b2 b3 b4 => fw_ne b2) (fun j b1 => fw_nj (by omega)) ?_⟩
        unfold fr_n
        rw [y28, q3]
        simp (disch := omega) only [fw_ne, fw_row]
        refine ⟨a1, a2, a3, fun j hj => ?_, fun j hj => ?_, a6, a7, a8, a9, a10, a11, a12, a13, ⟨v, v2, fw_eq, q5, q4, q6⟩, fun w b1 b2 => ?_⟩
        · by_cases e : j = 0
          · subst e
            rw [show 16 * k + 0 = 16 * k from rfl, fw_eq, fw_eq]
          · rw [fw_nj (by omega), fw_nj e]
            exact a4 j hj
        · by_cases e : j = 0
          · subst e
            rw [fw_eq]
            exact ⟨v, v2, rfl⟩
          · rw [fw_nj e]
            exact a5 j hj
        · rcases a15 u u2 u1 with r | ⟨r1, ⟨p, r2, r3, r4, r5⟩, r6⟩
          · exact Or.inl r
          · exact Or.inr ⟨r1, ⟨p, r2, r3, r4, Or.inl s0⟩, r6⟩
    · rw [if_neg s0, if_neg s0, fb_i, if_neg fr_10]
      exact ok _
end FID
