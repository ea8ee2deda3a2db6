/-! ===== a name is read on ===== -/
section FSM
variable {t c k : Nat} {f : Nat → Nat} {x z : fn_M}
theorem fr_nm_lt (h2 : k ≤ 4) (v j : Nat) : fr_nm k v j < 128 := by
  unfold fr_nm
  have : v / 10 ^ (6 + fr_dg v - j) % 10 < 10 := Nat.mod_lt _ (by decide)
  (repeat' split) <;> omega
theorem fr_m1 (a : Nat) : nI (a + 1) + (-1) = nI a := by
  rw [nI_succ, Int32.add_assoc, show (1 : Int32) + (-1) = 0 from by decide, Int32.add_zero]
theorem fr_d10 {w : Nat} (h : w ≤ 9999) : nI w / 10 = nI (w / 10) := by
  apply Int32.toInt_inj.mp
  rw [Int32.toInt_div_of_ne_right _ _ (by decide), nI_toInt (by omega), nI_toInt (by omega), show (10 : Int32).toInt = 10 from rfl, Int.tdiv_eq_ediv_of_nonneg (by omega)]
  omega
theorem fr_nal (n d : Nat) (z : fn_M) (l1 : Int32) {j : Nat} (hj : j ≤ 20) : ∀ (r m w : Nat), r ≤ 20 → w ≤ 9999 → fn_run 1 (fn_ev 1 (n + 2000) d) (fn_lk fn_d94) (m + 9 * (r + 1)) 86 [(0, .ref 0), (1, .int l1), (2, .int (nI j)), (3, .int (nI w)), (4, .int (nI (j + r)))] [] z = some (z, some (.int (nI (48 + w / 10 ^ r % 10)))) := by
  intro r
  induction r with
  | zero =>
    intro m w h1 hw
    rw [ft_Model_nameAt_at86 n d, if_pos (nI_le (by omega) (by omega)), fr_d10 hw, show (10 : Int32) = nI 10 from rfl, fr_mul, fr_sub (by omega), show (48 : Int32) = nI 48 from rfl, nI_add, Nat.pow_zero, Nat.div_one]
    congr 5
    omega
  | succ r ih =>
    intro m w h1 hw
    rw [show m + 9 * (r + 1 + 1) = (m + 9 * (r + 1)) + 9 by omega, ft_Model_nameAt_at86 n d, if_neg (nI_ge (by omega) (by omega)), fr_d10 hw, show j + (r + 1) = (j + r) + 1 from rfl, fr_m1]
    rw [show m + 9 * (r + 1) + 0 = m + 9 * (r + 1) from rfl, ih m (w / 10) (by omega) (by omega), Nat.div_div_eq_div_mul, Nat.pow_succ, Nat.mul_comm 10]
theorem fe_nameAt (n d : Nat) (z : fn_M) (h2 : k ≤ 4) {v j : Nat} (hv : v ≤ 9999) (hz : z 2 (16 * k + 0) = nI v) (hj : j < 7 + fr_dg v) : fn_ev 1 (n + 2000) (d + 3) 94 [.ref 0, .int (nI k), .int (nI j)] z = some (z, some (.int (nI (fr_nm k v j)))) := by
  have hd := fr_dg_le v
  rw [ft_Model_nameAt n (d + 2)]
  by_cases h7 : 7 ≤ j
  · rw [if_pos (show (7 : Int32) ≤ nI j from nI_le (a := 7) h7 (by omega)), fe_of (a2 := 0) n (d + 1) z h2 (j := 0) (by decide) rfl, fb_i, fe_size n d z h2 hv hz, fb_i, hz, show 7 + fr_dg v = (6 + fr_dg v) + 1 by omega, nI_pred, show 6 + fr_dg v = j + (6 + fr_dg v - j) by omega, show n + 1986 = (n + 1986 - 9 * (6 + fr_dg v - j + 1)) + 9 * (6 + fr_dg v - j + 1) by omega, fr_nal n (d + 2) z _ (by omega) _ _ _ (by omega) hv]
    unfold fr_nm
    rw [if_neg (by omega), if_neg (by omega), if_neg (by omega), if_neg (by omega), if_neg (by omega), if_neg (by omega), if_neg (by omega)]
  · rw [if_neg (show ¬ (7 : Int32) ≤ nI j from nI_ge (b := 7) (by omega) (by decide))]
    rcases (by omega : j = 0 ∨ j = 1 ∨ j = 2 ∨ j = 3 ∨ j = 4 ∨ j = 5 ∨ j = 6) with rfl | rfl | rfl | rfl | rfl | rfl | rfl
    · rfl
    · rfl
    · rfl
    · rfl
    · rfl
    · rw [if_neg (by decide), if_neg (by decide), if_neg (by decide), if_neg (by decide), if_neg (by decide), if_pos (by decide), show (48 : Int32) = nI 48 from rfl, nI_add]
      rfl
    · rfl
theorem fr_b255 : ∀ b, b < 128 → ((nI b &&& 255).toUInt32 % 65536).toInt32 = nI b := by decide +kernel
theorem fe_chr (n d : Nat) (x : fn_M) (h1 : 1 ≤ k) (h2 : k ≤ 4) {L j b : Nat} (hL : L ≤ 11) (e1 : x (36 + k) 1 = 0) (e3 : x (36 + k) 3 = nI L) (hj : j < L) (hb : b < 128) (e : x (40 + k) j = nI b) : fn_ev 0 (n + 2000) (d + 4) 139 [.ref (36 + k), .int (nI j)] x = some (x, some (.int (nI b))) := by
  have hcl : (nI j).toNatClampNeg = j := fr_cl (by omega)
  have hix : ¬ (nI j < 0 ∨ 16 ≤ j) := by have := fr_ix (c := j) (N := 16) (by omega) (by decide); rwa [hcl] at this
  have hr : 0 ≤ nI b ∧ nI b ≤ 65535 := ⟨nI_pos' (by omega), nI_le (b := 65535) (by omega) (by decide)⟩
  rw [fk_SB_charAt n (d + 3) h1 h2, fk_ASB_charAt n (d + 2) h1 h2, e1, e3, ft_Math_min n (d + 1), if_neg (show ¬ (16 : Int32) >>> (0 &&& 31) < nI L from nI_nlt (a := 16) (by omega) (by decide)), fb_i, ft_Str_checkIndex n (d + 1), ft_Pre_checkIndex n d, if_neg (nI_pos (by omega)), if_pos (nI_lt hj (by omega)), fb_i, fb_v, if_pos rfl]
  simp only [hcl, if_neg hix]
  rw [e, fr_b255 b hb, if_pos hr, fb_i, if_pos hr]
/-- bytes put together -/
def fr_acc (g : Nat → Nat) : Nat → Nat
  | 0 => 0
  | i + 1 => fr_acc g i + g i * 256 ^ i
theorem fr_acc_lt {g : Nat → Nat} (hg : ∀ i, g i < 128) : ∀ i, fr_acc g i < 256 ^ i := by
  intro i
  induction i with
  | zero => exact Nat.zero_lt_one
  | succ i ih =>
    show fr_acc g i + g i * 256 ^ i < 256 ^ (i + 1)
    have := hg i
    have h2 : g i * 256 ^ i ≤ 127 * 256 ^ i := Nat.mul_le_mul_right _ (by omega)
    rw [Nat.pow_succ]
    omega
theorem fr_smod : ∀ s, s < 25 → (BitVec.ofNat 32 s).smod 32 = BitVec.ofNat 32 s := by decide +kernel
theorem fr_or {a b i : Nat} (ha : a < 256 ^ i) (hb : b < 128) (hi : i < 4) : nI a ||| (nI b <<< ((8 * nI i) &&& 31)) = nI (a + b * 256 ^ i) := by
  have key : ∀ s, s < 25 → a < 2 ^ s → nI a ||| (nI b <<< nI s) = nI (a + b * 2 ^ s) := by
    intro s hs h
    have hp : 2 ^ s ≤ 2 ^ 24 := Nat.pow_le_pow_right (by decide) (by omega)
    have hm : b * 2 ^ s ≤ 127 * 2 ^ 24 := Nat.mul_le_mul (by omega) hp
    have hs' : s % 2 ^ 32 = s := Nat.mod_eq_of_lt (by omega)
    apply Int32.toBitVec_inj.mp
    apply BitVec.eq_of_toNat_eq
    simp only [Int32.toBitVec_or, Int32.toBitVec_shiftLeft, nI, Int32.toBitVec_ofNat', BitVec.toNat_or, BitVec.toNat_ofNat]
    rw [fr_smod s hs, BitVec.shiftLeft_eq', BitVec.toNat_shiftLeft, BitVec.toNat_ofNat, BitVec.toNat_ofNat, hs', Nat.shiftLeft_eq, Nat.mod_eq_of_lt (a := a) (by omega), Nat.mod_eq_of_lt (a := b) (by omega), Nat.mod_eq_of_lt (a := b * 2 ^ s) (by omega), Nat.mod_eq_of_lt (a := a + b * 2 ^ s) (by omega), Nat.or_comm, ← Nat.shiftLeft_eq, ← Nat.shiftLeft_add_eq_or_of_lt h, Nat.add_comm]
  rcases (by omega : i = 0 ∨ i = 1 ∨ i = 2 ∨ i = 3) with rfl | rfl | rfl | rfl
  · exact key 0 (by decide) ha
  · exact key 8 (by decide) ha
  · exact key 16 (by decide) ha
  · exact key 24 (by decide) ha
/-- the two loops -/
theorem fr_sl (n d : Nat) (x : fn_M) (h1 : 1 ≤ k) (h2 : k ≤ 4) {L p v s : Nat} (hL : L ≤ 11) (e1 : x (36 + k) 1 = 0) (e3 : x (36 + k) 3 = nI L) (eb : ∀ j, j < L → x (40 + k) j = nI (fr_nm k v j)) (ep : x (28 + k) 10 = nI p) (hs : p + s ≤ L) (s4 : s ≤ 4) (l1 : Int32) :
    ∀ (r i m : Nat), i + r = s → fn_run 0 (fn_ev 0 (n + 2000) (d + 4)) (fn_lk fn_d53) (m + 37 + 19 * r) 54 [(0, .ref (28 + k)), (1, .int l1), (2, .ref 1), (3, .int (nI s)), (4, .int (nI (fr_acc (fun i => fr_nm k v (p + i)) i))), (5, .int (nI i))] [] x =
      fn_run 0 (fn_ev 0 (n + 2000) (d + 4)) (fn_lk fn_d53) (m + 37) 54 [(0, .ref (28 + k)), (1, .int l1), (2, .ref 1), (3, .int (nI s)), (4, .int (nI (fr_acc (fun i => fr_nm k v (p + i)) s))), (5, .int (nI s))] [] x := by
  intro r
  induction r with
  | zero =>
    intro i m hi
    have : i = s := by omega
    subst this
    rfl
  | succ r ih =>
    intro i m hi
    rw [show m + 37 + 19 * (r + 1) = (m + 19 * (r + 1)) + 37 by omega, fk_Node_serveReadOn_at54 n (d + 4) _ h1 h2, if_neg (nI_ge (by omega) (by omega)), ep, nI_add, fe_chr n d x h1 h2 hL e1 e3 (j := p + i) (by omega) (fr_nm_lt h2 v (p + i)) (eb _ (by omega)), fb_i, fr_or (fr_acc_lt (g := fun i => fr_nm k v (p + i)) (fun i => fr_nm_lt h2 v _) i) (fr_nm_lt h2 v (p + i)) (by omega), nI_1, show m + 19 * (r + 1) + 18 = m + 37 + 19 * r by omega]
    exact ih (i + 1) m (by omega)
theorem fr_ml (n d : Nat) (z : fn_M) (h2 : k ≤ 4) {L p v s : Nat} (hL : L = 7 + fr_dg v) (hv : v ≤ 9999) (hz : z 2 (16 * k + 0) = nI v) (ep : z 7 k = nI p) (hs : p + s ≤ L) (s4 : s ≤ 4) (l2 l3 l4 : Int32) :
    ∀ (r m w : Nat), r ≤ s → fn_run 1 (fn_ev 1 (n + 2000) (d + 3)) (fn_lk fn_d103) (m + 48 + 18 * r) 75 [(0, .ref 0), (1, .int (nI k)), (2, .int l2), (3, .int l3), (4, .int l4), (5, .int (nI w)), (6, .int (nI r - 1))] [] z =
      fn_run 1 (fn_ev 1 (n + 2000) (d + 3)) (fn_lk fn_d103) (m + 48) 75 [(0, .ref 0), (1, .int (nI k)), (2, .int l2), (3, .int l3), (4, .int l4), (5, .int (nI (w * 256 ^ r + fr_acc (fun i => fr_nm k v (p + i)) r))), (6, .int (-1))] [] z := by
  have hcl : (nI k).toNatClampNeg = k := fr_cl (by omega)
  have hix : ¬ (nI k < 0 ∨ 5 ≤ k) := by have := fr_ix (c := k) (N := 5) (by omega) (by decide); rwa [hcl] at this
  intro r
  induction r with
  | zero =>
    intro m w hr
    rw [Nat.pow_zero, Nat.mul_one]
    rfl
  | succ r ih =>
    intro m w hr
    rw [show m + 48 + 18 * (r + 1) = (m + 18 * (r + 1)) + 48 by omega, ft_Model_more_at75 n (d + 3), nI_pred, if_neg (nI_pos (by omega))]
    simp only [hcl, if_neg hix]
    rw [ep, nI_add, fe_nameAt n d z h2 hv hz (by omega), fb_i, show (256 : Int32) = nI 256 from rfl, fr_mul, nI_add, show m + 18 * (r + 1) + 30 = m + 48 + 18 * r by omega, show nI r + (-1) = nI r - 1 from (Int32.sub_eq_add_neg _ _).symm, ih m (w * 256 + fr_nm k v (p + r)) (by omega)]
    congr 10
    show (w * 256 + fr_nm k v (p + r)) * 256 ^ r + fr_acc (fun i => fr_nm k v (p + i)) r = w * 256 ^ (r + 1) + (fr_acc (fun i => fr_nm k v (p + i)) r + fr_nm k v (p + r) * 256 ^ r)
    rw [Nat.add_mul, Nat.mul_assoc, Nat.pow_succ, Nat.mul_comm (256 ^ r)]
    omega
end FSM
