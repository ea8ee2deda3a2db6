/-! ===== the node's own part of a tick, and sending ===== -/
theorem fr_mul (a b : Nat) : nI a * nI b = nI (a * b) := (Int32.ofNat_mul a b).symm
theorem fr_16 (k j : Nat) : (16 : Int32) * nI k + nI j = nI (16 * k + j) := by
  rw [show (16 : Int32) = nI 16 from rfl, fr_mul, nI_add]
/-- both sides come to an end with nothing to tell; the relation holds again, the frame that is heard stands as it was -/
def fr_vv (t : Nat) (f : Nat → Nat) (x : fn_M) (o1 o2 : Option fn_R) : Prop := ∃ x' z' c', o1 = some (x', none) ∧ o2 = some (z', none) ∧ fr_R t c' f x' z' ∧ x' (f 24) = x (f 24)
section FM
variable {t c k : Nat} {f : Nat → Nat} {x z : fn_M}
theorem fe_of (n d : Nat) {j : Nat} {a2 : Int32} (z : fn_M) (h2 : k ≤ 4) (hj : j < 16) (ha : a2 = nI j) : fn_ev 1 (n + 2000) (d + 1) 86 [.ref 0, .int (nI k), .int a2] z = some (z, some (.int (z 2 (16 * k + j)))) := by
  subst ha
  rw [ft_Model_of, fr_16, if_neg (fr_ix (by omega) (by decide)), fr_cl (by omega)]
theorem fr_frk (h1 : 1 ≤ k) (h2 : k ≤ 4) : fr_from (nI k) (nI k) := by
  refine Or.inr ⟨rfl, nI_pos' (by omega), ?_⟩
  exact nI_le (b := 4) h2 (by decide)
theorem fr_now (h : fr_R t c f x z) : x 1 6 = nI t ∧ z 0 0 = nI t := ⟨h.1.2.2.2.1, h.1.2.2.2.2.1⟩
theorem fr_t (h : fr_R t c f x z) : t ≤ 1000 := h.1.2.2.2.2.2.2.2.2.2.2.2.2.2
theorem fr_p24 (h : fr_R t c f x z) : 3 ≤ f 24 ∧ f 24 ≤ 27 := h.1.2.2.2.2.2.2.2.2.1 24 (by decide)
/-- a value of the map's half -/
theorem fe_val (n d : Nat) {j : Nat} {a1 : Int32} (x : fn_M) (h1 : 1 ≤ k) (h2 : k ≤ 4) (hj : j < 16) (ha : a1 = nI j) : fn_ev 0 (n + 2000) (d + 2) 36 [.ref (28 + k), .int a1] x = some (x, some (.int (x (32 + k) j))) := by
  subst ha
  have e0 : ¬ nI j = 16 := fun e => by have := (fr_eq (b := 16) (by omega) (by decide)).mp e; omega
  rw [fk_Node_valueOf n (d + 1) h1 h2, if_neg e0, ft_Net_isWithin, if_neg (nI_pos (by omega)), if_neg (show ¬ (15 : Int32) < nI j from nI_nlt (a := 15) (b := j) (by omega) (by decide)), fb_i, if_neg (by decide), if_neg (fr_ix hj (by decide)), fr_cl (by omega)]
theorem fr_div {a b : Nat} (h : b < 100) (ha : a < 10000) : nI (100 * a + b) / 100 = nI a ∧ nI (100 * a + b) - nI (100 * a + b) / 100 * 100 = nI b := by
  have e : nI (100 * a + b) / 100 = nI a := by
    apply Int32.toInt_inj.mp
    rw [Int32.toInt_div_of_ne_right _ _ (by decide), nI_toInt (by omega), nI_toInt (by omega), show (100 : Int32).toInt = 100 from rfl, Int.tdiv_eq_ediv_of_nonneg (by omega)]
    omega
  refine ⟨e, ?_⟩
  rw [e, show (100 : Int32) = nI 100 from rfl, fr_mul, fr_sub (by omega)]
  congr 1
  omega
/-- a sample is sent -/
theorem fr_send (h : fr_R t c f x z) (h1 : 1 ≤ k) (h2 : k ≤ 4) (n d n1 d1 : Nat) : fr_vv t f x (fn_ev 0 (n + 2000) (d + 3) 34 [.ref (28 + k), .ref 1] x) (fn_ev 1 (n1 + 2000) (d1 + 2) 95 [.ref 0, .int (nI k)] z) := by
  obtain ⟨a1, a2, a3, a4, a5, a6, a7, a8, a9, a10, a11, a12, a13, a14, a15⟩ := h.2.1 k h1 h2
  have e6 := a4 6 (by decide)
  have hix : ¬ (nI k < 0 ∨ 5 ≤ (nI k).toNatClampNeg) := fr_ix (by omega) (by decide)
  have hcl : (nI k).toNatClampNeg = k := fr_cl (by omega)
  have h24 := fr_p24 h
  rw [fk_Node_send n (d + 2) h1 h2, ft_Model_send, fe_of (a2 := 6) n1 d1 z h2 (j := 6) (by decide) rfl, fb_i, e6]
  have key : ∀ (v w : Int32), ∃ x' z' c', fn_bv (fn_ev 0 (n + 2000) (d + 2) 55 [.ref 1, .int (x (28 + k) 0), .int (384 + (x (28 + k) 0)), .int 0, .int v, .int w] x) (fun y10 => some ((fn_w (fn_w y10 (28 + k) 5 (y10 1 6)) (28 + k) 6 0), none)) = some (x', none) ∧
      fn_bv (fn_ev 1 (n1 + 2000) (d1 + 1) 87 [.ref 0, .int (nI k), .int (384 + nI k), .int 0, .int v, .int w] z) (fun y12 => (if nI k < 0 ∨ 5 ≤ (nI k).toNatClampNeg then none else (if nI k < 0 ∨ 5 ≤ (nI k).toNatClampNeg then none else some ((fn_w (fn_w y12 3 (nI k).toNatClampNeg (y12 0 0)) 4 (nI k).toNatClampNeg 0), none)))) = some (z', none) ∧ fr_R t c' f x' z' ∧ x' (f 24) = x (f 24) := by
    intro v w
    rw [a1]
    obtain ⟨y, y', c', q1, q2, q3, q4⟩ := fr_Rput h n (d + 1) n1 d1 (nI k) (384 + nI k) 0 v w (nI k) (fr_frk h1 h2)
    rw [q1, q2, fb_v, fb_v, if_neg hix, if_neg hix, hcl]
    refine ⟨_, _, c', rfl, rfl, ?_, ?_⟩
    · rw [(fr_now q3).1, (fr_now q3).2]
      exact fr_s_held (fr_s_sample q3 h1 h2 (Or.inr ⟨t, Nat.le_refl _, rfl⟩)) h1 h2
    · rw [fw_row (by omega), fw_row (by omega)]
      exact q4.1 _ (Or.inr rfl)
  rcases a5 6 (by decide) with e0 | ⟨a, b, g1, g2, g3, g4, g5⟩
  · rw [e0, if_pos rfl, if_pos rfl, if_pos rfl, if_pos rfl]
    exact key 0 0
  · have hne : ¬ nI (100 * a + b) = 0 := nI_ne0 (by omega) (by omega)
    obtain ⟨d1', d2'⟩ := fr_div (a := a) (b := b) (by omega) (by omega)
    rw [g5, if_neg hne, if_neg hne, d2', d1', fe_val n d x h1 h2 (j := a) (by omega) rfl, fe_of n1 d1 z h2 (j := a) (by omega) rfl, fb_i, fb_i, if_neg hne, if_neg hne, fe_val n d x h1 h2 (j := b) (by omega) rfl, fe_of n1 d1 z h2 (j := b) (by omega) rfl, fb_i, fb_i, a4 a (by omega), a4 b (by omega)]
    exact key _ _
/-- whether the pause is over -/
theorem fe_rest (h : fr_R t c f x z) (h1 : 1 ≤ k) (h2 : k ≤ 4) (n d n1 d1 : Nat) : ∃ b : Int32, (b = 0 ∨ b = 1) ∧ fn_ev 0 (n + 2000) (d + 1) 33 [.ref (28 + k), .int (x 1 6)] x = some (x, some (.int b)) ∧ fn_ev 1 (n1 + 2000) (d1 + 2) 96 [.ref 0, .int (nI k)] z = some (z, some (.int b)) := by
  obtain ⟨a1, a2, a3, a4, a5, a6, a7, a8, a9, a10, a11, a12, a13, a14, a15⟩ := h.2.1 k h1 h2
  have hix : ¬ (nI k < 0 ∨ 5 ≤ (nI k).toNatClampNeg) := fr_ix (by omega) (by decide)
  have hcl : (nI k).toNatClampNeg = k := fr_cl (by omega)
  rw [fk_Node_isPauseOver n d h1 h2, ft_Model_rested, if_neg hix, if_neg hix, hcl, ← a8, (fr_now h).1, (fr_now h).2, fe_of (a2 := 5) n1 d1 z h2 (j := 5) (by decide) rfl, fb_i, a4 5 (by decide)]
  obtain ⟨p, p1, p2⟩ := a5 5 (by decide)
  rcases a9 with e | ⟨b, b1, b2⟩
  · rw [e, if_pos rfl, if_pos (by decide)]
    exact ⟨1, Or.inr rfl, rfl, rfl⟩
  · have ht := fr_t h
    have hne : ¬ nI b = -1 := fun e => by
      have := congrArg Int32.toInt e
      rw [nI_toInt (by omega), show (-1 : Int32).toInt = -1 from rfl] at this
      omega
    rw [b2, p2, if_neg hne, if_neg (nI_pos (by omega)), fr_sub b1, nI_add]
    by_cases g : t - b < p
    · rw [if_pos (nI_lt g (by omega)), if_pos (nI_lt (by omega) (by omega))]
      exact ⟨0, Or.inl rfl, rfl, rfl⟩
    · rw [if_neg (nI_nlt (by omega) (by omega)), if_neg (nI_nlt (by omega) (by omega))]
      exact ⟨1, Or.inr rfl, rfl, rfl⟩
end FM
