/-! ===== which values fit ===== -/
def fr_w (a lo hi : Int32) : Int32 := if a < lo then 0 else if hi < a then 0 else 1
theorem fr_w01 (a lo hi : Int32) : fr_w a lo hi = 0 ∨ fr_w a lo hi = 1 := by
  unfold fr_w
  split
  · exact Or.inl rfl
  · split
    · exact Or.inl rfl
    · exact Or.inr rfl
theorem fr_w1 {a lo hi : Int32} (h : fr_w a lo hi = 1) : ¬ a < lo ∧ ¬ hi < a := by
  unfold fr_w at h
  refine ⟨fun e => ?_, fun e => ?_⟩
  · rw [if_pos e] at h
    exact absurd h (by decide)
  · by_cases e0 : a < lo
    · rw [if_pos e0] at h
      exact absurd h (by decide)
    · rw [if_neg e0, if_pos e] at h
      exact absurd h (by decide)
theorem fr_w1i {a lo hi : Int32} (h1 : ¬ a < lo) (h2 : ¬ hi < a) : fr_w a lo hi = 1 := by
  unfold fr_w
  rw [if_neg h1, if_neg h2]
/-- an int between two numbers is a natural one -/
theorem fr_bt {a : Int32} {lo hi : Nat} (hl : lo < 2147483648) (hh : hi < 2147483648) (h : fr_w a (nI lo) (nI hi) = 1) : ∃ j, lo ≤ j ∧ j ≤ hi ∧ a = nI j := by
  obtain ⟨g1, g2⟩ := fr_w1 h
  rw [Int32.lt_iff_toInt_lt, nI_toInt (by omega)] at g1 g2
  refine ⟨a.toInt.toNat, by omega, by omega, ?_⟩
  apply Int32.toInt_inj.mp
  rw [nI_toInt (by omega)]
  omega
theorem fe_w0 (n d : Nat) (x : fn_M) (a lo hi : Int32) : fn_ev 0 (n + 2000) (d + 1) 80 [.int a, .int lo, .int hi] x = some (x, some (.int (fr_w a lo hi))) := by
  rw [ft_Net_isWithin]
  unfold fr_w
  split
  · rfl
  · split <;> rfl
theorem fe_w1 (n d : Nat) (x : fn_M) (a lo hi : Int32) : fn_ev 1 (n + 2000) (d + 1) 85 [.int a, .int lo, .int hi] x = some (x, some (.int (fr_w a lo hi))) := by
  rw [ft_Model_in]
  unfold fr_w
  split
  · rfl
  · split <;> rfl
theorem fe_nd0 (n d : Nat) (x : fn_M) (a : Int32) : fn_ev 0 (n + 2000) (d + 1) 81 [.int a] x = some (x, some (.int (fr_w a 1 4))) := by
  rw [ft_Net_isNode]
  unfold fr_w
  split
  · rfl
  · split <;> rfl
theorem fe_nd1 (n d : Nat) (x : fn_M) (a : Int32) : fn_ev 1 (n + 2000) (d + 1) 84 [.int a] x = some (x, some (.int (fr_w a 1 4))) := by
  rw [ft_Model_node]
  unfold fr_w
  split
  · rfl
  · split <;> rfl
theorem fe_inp (n d : Nat) (x : fn_M) (a : Int32) : fn_ev 0 (n + 2000) (d + 1) 82 [.int a] x = some (x, some (.int (fr_w a 8 11))) := by
  rw [ft_Net_isInput]
  unfold fr_w
  split
  · rfl
  · split <;> rfl
theorem fe_out (n d : Nat) (x : fn_M) (a : Int32) : fn_ev 0 (n + 2000) (d + 1) 83 [.int a] x = some (x, some (.int (fr_w a 12 15))) := by
  rw [ft_Net_isOutput]
  unfold fr_w
  split
  · rfl
  · split <;> rfl
section FF
variable {k : Nat}
/-- the number of another node -/
theorem fe_oth (n d : Nat) (x : fn_M) (h1 : 1 ≤ k) (h2 : k ≤ 4) (hx : x (28 + k) 0 = nI k) (a : Int32) : fn_ev 0 (n + 2000) (d + 1) 51 [.ref (28 + k), .int a] x = some (x, some (.int (if fr_w a 1 4 = 0 then 0 else if a = nI k then 0 else 1))) := by
  rw [fk_Node_isOther n d h1 h2, hx]
  unfold fr_w
  by_cases e1 : a < 1
  · rw [if_pos e1, if_pos e1, if_pos rfl]
  · rw [if_neg e1, if_neg e1]
    by_cases e2 : 4 < a
    · rw [if_pos e2, if_pos e2, if_pos rfl]
    · rw [if_neg e2, if_neg e2, if_neg (show ¬ (1 : Int32) = 0 by decide)]
      by_cases e3 : a = nI k
      · rw [if_pos e3, if_pos e3]
      · rw [if_neg e3, if_neg e3]
end FF
