/-! ===== the relation between the system's memory x and the reference's memory z, between two calls; t is the time ===== -/
/-- who sent a frame: outside is -1 here and 5 there -/
def fr_from (a b : Int32) : Prop := (a = -1 ∧ b = 5) ∨ (a = b ∧ 0 ≤ a ∧ a ≤ 4)
/-- the bus: c frames pending, f says which cell holds which frame (24: the spare one) -/
def fr_b (t c : Nat) (f : Nat → Nat) (x z : fn_M) : Prop :=
  c ≤ 24 ∧ x 1 2 = nI c ∧ z 0 10 = nI c ∧ x 1 6 = nI t ∧ z 0 0 = nI t ∧ x 1 3 = z 0 16 ∧ x 1 4 = z 0 17 ∧ x 1 5 = z 0 18 ∧
  (∀ i, i < 25 → 3 ≤ f i ∧ f i ≤ 27) ∧ (∀ i j, i < 25 → j < 25 → f i = f j → i = j) ∧ (∀ i, i < 24 → x 2 i = nI (f i)) ∧ x 1 1 = nI (f 24) ∧
  (∀ i, i < c → x (f i) 1 = z 10 i ∧ x (f i) 2 = z 11 i ∧ x (f i) 3 = z 12 i ∧ x (f i) 4 = z 13 i ∧ fr_from (x (f i) 0) (z 14 i)) ∧ t ≤ 1000
/-- a moment that has been: -1 is never -/
def fr_at (t : Nat) (a : Int32) : Prop := ∃ b, b ≤ t ∧ a = nI b
def fr_ever (t : Nat) (a : Int32) : Prop := a = -1 ∨ fr_at t a
/-- how many digits -/
def fr_dg (v : Nat) : Nat := if v > 999 then 4 else if v > 99 then 3 else if v > 9 then 2 else 1
/-- the letters of a node's name -/
def fr_nm (k v j : Nat) : Nat := if j = 0 then 78 else if j = 1 then 79 else if j = 2 then 68 else if j = 3 then 69 else if j = 4 then 32 else if j = 5 then 48 + k else if j = 6 then 58 else 48 + v / 10 ^ (6 + fr_dg v - j) % 10
/-- values that object j of node k may have -/
def fr_okv (k j : Nat) (v : Int32) : Prop := match j with
  | 0 => ∃ a, a ≤ 9999 ∧ v = nI a
  | 2 => ∃ a, a ≤ 50 ∧ v = nI a
  | 3 => v = 0 ∨ ∃ a b, 1 ≤ a ∧ a ≤ 4 ∧ a ≠ k ∧ 1 ≤ b ∧ b ≤ 50 ∧ v = nI (100 * a + b)
  | 4 => ∃ a, a ≤ 4 ∧ v = nI a
  | 5 => ∃ a, a ≤ 20 ∧ v = nI a
  | 6 => v = 0 ∨ ∃ a b, 8 ≤ a ∧ a ≤ 11 ∧ 8 ≤ b ∧ b ≤ 11 ∧ v = nI (100 * a + b)
  | 7 => v = 0 ∨ ∃ a b c, 1 ≤ a ∧ a ≤ 4 ∧ a ≠ k ∧ 12 ≤ b ∧ b ≤ 15 ∧ 12 ≤ c ∧ c ≤ 15 ∧ v = nI (10000 * a + 100 * b + c)
  | _ => True
def fr_ok (k : Nat) (o : Nat → Int32) : Prop := ∀ j, j < 16 → fr_okv k j (o j)
/-- a node's name is made of its number and its identity -/
def fr_name (k : Nat) (o sb bs : Nat → Int32) : Prop := ∃ v, v ≤ 9999 ∧ o 0 = nI v ∧ sb 3 = nI (7 + fr_dg v) ∧ sb 1 = 0 ∧ ∀ j, j < 7 + fr_dg v → bs j = nI (fr_nm k v j)
/-- the reading of a name -/
def fr_rd (st ro ps tg rd tz : Int32) (v : Nat) : Prop := (ro = 0 ∧ rd = -1) ∨ (ro = 1 ∧ (∃ p, (p = 0 ∨ p = 4 ∨ p = 8) ∧ ps = nI p ∧ rd = nI p ∧ (st = 0 ∨ p < 7 + fr_dg v)) ∧ tg = tz ∧ (tg = 0 ∨ tg = 1))
/-- a node -/
def fr_n (t k : Nat) (x z : fn_M) : Prop :=
  x (28 + k) 0 = nI k ∧ x (28 + k) 3 = z 1 k ∧ (x (28 + k) 3 = 0 ∨ x (28 + k) 3 = 4 ∨ x (28 + k) 3 = 5 ∨ x (28 + k) 3 = 127) ∧ (∀ j, j < 16 → z 2 (16 * k + j) = x (32 + k) j) ∧ fr_ok k (x (32 + k)) ∧
  x (28 + k) 4 = z 9 k ∧ fr_at t (x (28 + k) 4) ∧ x (28 + k) 5 = z 3 k ∧ fr_ever t (x (28 + k) 5) ∧ x (28 + k) 6 = z 4 k ∧ x (28 + k) 7 = z 5 k ∧ x (28 + k) 8 = z 6 k ∧ fr_ever t (x (28 + k) 8) ∧
  fr_name k (x (32 + k)) (x (36 + k)) (x (40 + k)) ∧ (∀ v, x (32 + k) 0 = nI v → v ≤ 9999 → fr_rd (x (28 + k) 3) (x (28 + k) 9) (x (28 + k) 10) (x (28 + k) 11) (z 7 k) (z 8 k) v)
/-- what the master holds of a node -/
def fr_m (t k : Nat) (x z : fn_M) : Prop :=
  x (48 + k) 0 = z 15 k ∧ -1 ≤ x (48 + k) 0 ∧ x (48 + k) 1 = z 16 k ∧ (∃ v, v ≤ 50 ∧ x (48 + k) 1 = nI v) ∧ x (48 + k) 2 = z 20 k ∧ x (48 + k) 3 = z 21 k ∧ fr_ever t (x (48 + k) 3) ∧
  ∃ w, w ≤ 3 ∧ x (48 + k) 6 = nI w ∧ z 17 k = nI w ∧ ∀ i, i < w → x (52 + k) i = z 18 (3 * k + i) ∧ x (56 + k) i = z 19 (3 * k + i)
/-- the client: the node it asks is n (0: none) -/
def fr_c (x z : fn_M) : Prop :=
  x 46 6 = z 0 33 ∧ x 46 7 = z 0 34 ∧ (∃ g, g ≤ 12 ∧ x 46 12 = nI g ∧ z 0 38 = nI g ∧ ∀ i, i < g → x 47 i = z 22 i) ∧
  ((x 46 0 = 0 ∧ z 0 27 = 0) ∨ (x 46 0 = 1 ∧ (∃ n, 1 ≤ n ∧ n ≤ 4 ∧ x 46 2 = nI n ∧ z 0 27 = nI n ∧
      (x 46 1 = 0 ∨ (x 46 1 = 1 ∧ (x (48 + n) 2 = 2 ∨ (x (48 + n) 2 = 3 ∧ ∃ w, w ≤ 3 ∧ x (48 + n) 7 = nI w ∧ z 0 32 = nI w))))) ∧
    x 46 3 = z 0 28 ∧ x 46 4 = z 0 29 ∧ x 46 5 = z 0 30 ∧ x 46 1 = z 0 31 ∧ x 46 8 = z 0 35 ∧ (x 46 8 = 0 ∨ (x 46 8 = 1 ∧ x 46 9 = z 0 36 ∧ x 46 10 = z 0 37 ∧ (x 46 10 = 0 ∨ x 46 10 = 1)))))
/-- the reports -/
def fr_p (x z : fn_M) : Prop := x 45 4 = z 0 19 ∧ (∃ v, v ≤ 20 ∧ x 45 4 = nI v) ∧ ∃ g, g ≤ 80 ∧ x 45 3 = nI g ∧ z 0 40 = nI g ∧ ∀ i, i < g → x 61 i = z 23 i
/-- all of it: c frames are pending, f says where they lie -/
def fr_R (t c : Nat) (f : Nat → Nat) (x z : fn_M) : Prop := fr_b t c f x z ∧ (∀ k, 1 ≤ k → k ≤ 4 → fr_n t k x z) ∧ (∀ k, 1 ≤ k → k ≤ 4 → fr_m t k x z) ∧ fr_c x z ∧ fr_p x z
