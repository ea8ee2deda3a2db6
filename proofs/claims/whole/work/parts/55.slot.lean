/-! ===== a slot: the frame that is carried ===== -/
section FSL
variable {t c : Nat} {f : Nat → Nat} {x z : fn_M}
/-- the bus changes -/
theorem fr_Rb {c' : Nat} {f' : Nat → Nat} {x' z' : fn_M} (h : fr_R t c f x z) (hb : fr_b t c' f' x' z') (ex : ∀ q, 27 < q → x' q = x q) (ez : ∀ q, 0 < q → (q < 10 ∨ 14 < q) → z' q = z q) (e0 : ∀ j, 18 < j → z' 0 j = z 0 j) : fr_R t c' f' x' z' := by
  obtain ⟨-, hn, hm, hcl, hp⟩ := h
  refine ⟨hb, ?_, ?_, ?_, ?_⟩
  · intro k h1 h2
    exact fr_n_cg (hn k h1 h2) (ex _ (by omega)) (ex _ (by omega)) (ex _ (by omega)) (ex _ (by omega)) (fun q a b c => by rw [ez q (by omega) (by omega)]) (fun j hj => by rw [ez 2 (by decide) (by decide)])
  · intro k h1 h2
    exact fr_m_cg (hm k h1 h2) (ex _ (by omega)) (ex _ (by omega)) (ex _ (by omega)) (fun q a => by rw [ez q (by omega) (by omega)]) (fun j hj => by rw [ez 18 (by decide) (by decide), ez 19 (by decide) (by decide)]; exact ⟨rfl, rfl⟩)
  · exact fr_c_cg hcl (ex _ (by decide)) (ex _ (by decide)) (fun n a b => by rw [ex (48 + n) (by omega)]; exact ⟨rfl, rfl⟩) (fun j a b => e0 j (by omega)) (ez 22 (by decide) (by decide))
  · exact fr_p_cg hp (ex _ (by decide)) (ex _ (by decide)) (e0 19 (by decide)) (e0 40 (by decide)) (ez 23 (by decide) (by decide))
/-- the search for the frame with the lowest id -/
theorem fr_find (h : fr_b t c f x z) (n d n1 d1 : Nat) : ∀ (r i a m m1 : Nat), i + r = c → a < i →
    ∃ K m' m1', K < c ∧ fn_run 0 (fn_ev 0 (n + 2000) d) (fn_lk fn_d57) (m + 19 + 19 * r) 42 [(0, .ref 1), (1, .int (nI a)), (2, .int (nI i))] [] x = fn_run 0 (fn_ev 0 (n + 2000) d) (fn_lk fn_d57) (m' + 19) 42 [(0, .ref 1), (1, .int (nI K)), (2, .int (nI c))] [] x ∧
      fn_run 1 (fn_ev 1 (n1 + 2000) d1) (fn_lk fn_d89) (m1 + 127 + 18 * r) 42 [(0, .ref 0), (1, .int (nI a)), (2, .int (nI i))] [] z = fn_run 1 (fn_ev 1 (n1 + 2000) d1) (fn_lk fn_d89) (m1' + 127) 42 [(0, .ref 0), (1, .int (nI K)), (2, .int (nI c))] [] z := by
  obtain ⟨hc, h1, h2, h3, h4, h5, h6, h7, h8, h9, h10, h11, h12, ht⟩ := h
  intro r
  induction r with
  | zero =>
    intro i a m m1 hi ha
    have : i = c := by omega
    subst this
    exact ⟨a, m, m1, ha, rfl, rfl⟩
  | succ r ih =>
    intro i a m m1 hi ha
    have ca : (nI a).toNatClampNeg = a := fr_cl (by omega)
    have ci : (nI i).toNatClampNeg = i := fr_cl (by omega)
    have xa : ¬ (nI a < 0 ∨ 24 ≤ a) := by have := fr_ix (c := a) (N := 24) (by omega) (by decide); rwa [ca] at this
    have xi : ¬ (nI i < 0 ∨ 24 ≤ i) := by have := fr_ix (c := i) (N := 24) (by omega) (by decide); rwa [ci] at this
    have ba := h8 a (by omega)
    have bi := h8 i (by omega)
    have cfa : (nI (f a)).toNatClampNeg = f a := fr_cl (by omega)
    have cfi : (nI (f i)).toNatClampNeg = f i := fr_cl (by omega)
    rw [show m + 19 + 19 * (r + 1) = (m + 19 * (r + 1)) + 19 by omega, ft_Wire_useSlot_at42 n d, show m1 + 127 + 18 * (r + 1) = (m1 + 18 * (r + 1)) + 127 by omega, ft_Model_slot_at42 n1 d1, h1, h2, if_neg (nI_ge (by omega) (by omega)), if_neg (nI_ge (by omega) (by omega))]
    simp only [ca, ci, if_neg xa, if_neg xi, h10 a (by omega), h10 i (by omega), cfa, cfi, if_pos (fr_fr (f a) ba.2 ba.1), if_pos (fr_fr (f i) bi.2 bi.1)]
    rw [(h12 a (by omega)).1, (h12 i (by omega)).1, nI_1]
    by_cases e : z 10 a ≤ z 10 i
    · rw [if_pos e, if_pos e, show m + 19 * (r + 1) + 2 = (m + 2) + 19 + 19 * r by omega, show m1 + 18 * (r + 1) + 110 = (m1 + 1) + 127 + 18 * r by omega]
      exact ih (i + 1) a (m + 2) (m1 + 1) (by omega) (by omega)
    · rw [if_neg e, if_neg e, show m + 19 * (r + 1) + 0 = m + 19 + 19 * r by omega, show m1 + 18 * (r + 1) + 109 = m1 + 127 + 18 * r by omega]
      exact ih (i + 1) i m m1 (by omega) (by omega)
theorem fr_dy2 : fn_dy 2 = true ∧ (fn_la 0 2).1 = 4 := by decide +kernel
/-- the system's frames move up -/
theorem fr_up0 (n d : Nat) (l1 : Int32) {c' s p : Nat} (hc : c' < 24) (hs : 3 ≤ s ∧ s ≤ 27) (hp : p < 1000) : ∀ (r i m : Nat) (g : Nat → Nat) (X : fn_M), i + r = c' → X 1 2 = nI c' → X 1 1 = nI s → (∀ j, j < 24 → X 2 j = nI (g j)) → (∀ j, j < 24 → 3 ≤ g j ∧ g j ≤ 27) →
    ∃ X', fn_run 0 (fn_ev 0 (n + 2000) d) (fn_lk fn_d58) (m + 16 + 16 * r) 19 [(0, .ref 1), (1, .int l1), (2, .ref p), (3, .int (nI i))] [] X = some (X', some (.ref p)) ∧ (∀ q, q ≠ 1 → q ≠ 2 → X' q = X q) ∧ X' 1 1 = nI p ∧ (∀ j, j ≠ 1 → X' 1 j = X 1 j) ∧
      ∀ j, j < 24 → X' 2 j = nI (if i ≤ j ∧ j < c' then g (j + 1) else if j = c' then s else g j) := by
  intro r
  induction r with
  | zero =>
    intro i m g X hi e2 e1 eg bg
    have : i = c' := by omega
    subst this
    have ci : (nI i).toNatClampNeg = i := fr_cl (by omega)
    have cs : (nI s).toNatClampNeg = s := fr_cl (by omega)
    have xi : ¬ (nI i < 0 ∨ 24 ≤ i) := by have := fr_ix (c := i) (N := 24) (by omega) (by decide); rwa [ci] at this
    have k1 : fn_dy 2 = true ∧ (fn_la 0 2).1 = 4 ∧ fn_lc 0 s = 2 := ⟨fr_dy2.1, fr_dy2.2, fr_fr s hs.2 hs.1⟩
    rw [show m + 16 + 16 * 0 = m + 16 from rfl, ft_Wire_takeOut_at19 n d, e2, if_pos (nI_le (Nat.le_refl _) (by omega)), e1, ci, cs, if_pos k1, if_neg xi, if_pos ⟨rfl, hp⟩]
    refine ⟨_, rfl, fun q b1 b2 => ?_, ?_, fun j b => ?_, fun j b => ?_⟩
    · rw [fw_row b1, fw_row b2]
    · exact fw_eq
    · rw [fw_nj b, fw_ne (by decide)]
    · rw [fw_ne (by decide), if_neg (by omega)]
      by_cases e : j = i
      · subst e
        rw [fw_eq, if_pos rfl]
      · rw [fw_nj e, if_neg e]
        exact eg j b
  | succ r ih =>
    intro i m g X hi e2 e1 eg bg
    have ci : (nI i).toNatClampNeg = i := fr_cl (by omega)
    have ci1 : (nI (i + 1)).toNatClampNeg = i + 1 := fr_cl (by omega)
    have xi : ¬ (nI i < 0 ∨ 24 ≤ i) := by have := fr_ix (c := i) (N := 24) (by omega) (by decide); rwa [ci] at this
    have xi1 : ¬ (nI (i + 1) < 0 ∨ 24 ≤ i + 1) := by have := fr_ix (c := i + 1) (N := 24) (by omega) (by decide); rwa [ci1] at this
    have bi := bg (i + 1) (by omega)
    have cg : (nI (g (i + 1))).toNatClampNeg = g (i + 1) := fr_cl (by omega)
    have k1 : fn_dy 2 = true ∧ (fn_la 0 2).1 = 4 ∧ fn_lc 0 (g (i + 1)) = 2 := ⟨fr_dy2.1, fr_dy2.2, fr_fr _ bi.2 bi.1⟩
    rw [show m + 16 + 16 * (r + 1) = (m + 16 * (r + 1)) + 16 by omega, ft_Wire_takeOut_at19 n d, e2, if_neg (nI_ge (by omega) (by omega)), nI_1, ci1, if_neg xi1, eg (i + 1) (by omega), cg, if_pos k1, ci, if_neg xi, show m + 16 * (r + 1) + 0 = m + 16 + 16 * r by omega]
    obtain ⟨X', q1, q2, q3, q4, q5⟩ := ih (i + 1) m (fun j => if j = i then g (i + 1) else g j) (fn_w X 2 i (nI (g (i + 1)))) (by omega) (by rw [fw_ne (by decide)]; exact e2) (by rw [fw_ne (by decide)]; exact e1)
      (fun j b => by
        by_cases e : j = i
        · subst e; rw [fw_eq, if_pos rfl]
        · rw [fw_nj e, if_neg e]; exact eg j b)
      (fun j b => by
        by_cases e : j = i
        · rw [if_pos e]; exact bi
        · rw [if_neg e]; exact bg j b)
    refine ⟨X', q1, fun q b1 b2 => ?_, q3, fun j b => ?_, fun j b => ?_⟩
    · rw [q2 q b1 b2, fw_row b2]
    · rw [q4 j b, fw_ne (by decide)]
    · rw [q5 j b]
      congr 1
      by_cases b1 : i + 1 ≤ j ∧ j < c'
      · rw [if_pos b1, if_neg (show ¬ j + 1 = i by omega), if_pos (show i ≤ j ∧ j < c' by omega)]
      · rw [if_neg b1]
        by_cases b2 : j = c'
        · rw [if_pos b2, if_neg (by omega), if_pos b2]
        · rw [if_neg b2]
          by_cases b3 : j = i
          · subst b3
            rw [if_pos rfl, if_pos (by omega)]
          · rw [if_neg b3, if_neg (by omega), if_neg b2]
/-- the reference's frames move up -/
theorem fr_up1 (n d : Nat) (l1 : Int32) {c' : Nat} (hc : c' < 24) : ∀ (r i m : Nat) (Z : fn_M), i + r = c' → Z 0 10 = nI c' →
    ∃ Z', fn_run 1 (fn_ev 1 (n + 2000) d) (fn_lk fn_d88) (m + 56 + 56 * r) 12 [(0, .ref 0), (1, .int l1), (2, .int (nI i))] [] Z = some (Z', none) ∧ (∀ q, q < 10 ∨ 14 < q → Z' q = Z q) ∧ ∀ q j, 10 ≤ q → q ≤ 14 → Z' q j = if i ≤ j ∧ j < c' then Z q (j + 1) else Z q j := by
  intro r
  induction r with
  | zero =>
    intro i m Z hi e
    have : i = c' := by omega
    subst this
    rw [show m + 56 + 56 * 0 = m + 56 from rfl, ft_Model_remove_at12 n d, e, if_pos (nI_le (Nat.le_refl _) (by omega))]
    refine ⟨Z, rfl, fun _ _ => rfl, fun q j _ _ => ?_⟩
    rw [if_neg (by omega)]
  | succ r ih =>
    intro i m Z hi e
    have ci : (nI i).toNatClampNeg = i := fr_cl (by omega)
    have ci1 : (nI (i + 1)).toNatClampNeg = i + 1 := fr_cl (by omega)
    have xi : ¬ (nI i < 0 ∨ 24 ≤ i) := by have := fr_ix (c := i) (N := 24) (by omega) (by decide); rwa [ci] at this
    have xi1 : ¬ (nI (i + 1) < 0 ∨ 24 ≤ i + 1) := by have := fr_ix (c := i + 1) (N := 24) (by omega) (by decide); rwa [ci1] at this
    rw [show m + 56 + 56 * (r + 1) = (m + 56 * (r + 1)) + 56 by omega, ft_Model_remove_at12 n d, e, if_neg (nI_ge (by omega) (by omega)), nI_1]
    simp only [ci, ci1, if_neg xi, if_neg xi1]
    rw [show m + 56 * (r + 1) + 0 = m + 56 + 56 * r by omega]
    obtain ⟨Z', q1, q2, q3⟩ := ih (i + 1) m (fn_w (fn_w (fn_w (fn_w (fn_w Z 10 i (Z 10 (i + 1))) 11 i (Z 11 (i + 1))) 12 i (Z 12 (i + 1))) 13 i (Z 13 (i + 1))) 14 i (Z 14 (i + 1))) (by omega) (by simp (disch := decide) only [fw_ne]; exact e)
    refine ⟨Z', q1, fun q b => ?_, fun q j b1 b2 => ?_⟩
    · rw [q2 q b]
      simp (disch := omega) only [fw_row]
    · have key : ∀ j', (fn_w (fn_w (fn_w (fn_w (fn_w Z 10 i (Z 10 (i + 1))) 11 i (Z 11 (i + 1))) 12 i (Z 12 (i + 1))) 13 i (Z 13 (i + 1))) 14 i (Z 14 (i + 1))) q j' = if j' = i then Z q (i + 1) else Z q j' := by
        intro j'
        obtain rfl | rfl | rfl | rfl | rfl : q = 10 ∨ q = 11 ∨ q = 12 ∨ q = 13 ∨ q = 14 := by omega
        all_goals
          by_cases e : j' = i
          · subst e
            simp (disch := omega) only [fw_any, fw_eq, if_true]
          · simp (disch := omega) only [fw_any]
            rw [if_neg e]
      rw [q3 q j b1 b2, key, key]
      by_cases b3 : i + 1 ≤ j ∧ j < c'
      · rw [if_pos b3, if_neg (by omega), if_pos (by omega)]
      · rw [if_neg b3]
        by_cases b4 : j = i
        · subst b4
          rw [if_pos rfl, if_pos (by omega)]
        · rw [if_neg b4, if_neg (by omega)]
/-- where the frames lie when frame K is taken out -/
def fr_fk (c K : Nat) (f : Nat → Nat) (j : Nat) : Nat := if j = 24 then f K else if K ≤ j ∧ j + 1 < c then f (j + 1) else if j + 1 = c then f 24 else f j
theorem fr_fk_inj {K : Nat} (hc : c ≤ 24) (hK : K < c) (h9 : ∀ i j, i < 25 → j < 25 → f i = f j → i = j) : ∀ i j, i < 25 → j < 25 → fr_fk c K f i = fr_fk c K f j → i = j := by
  intro i j hi hj
  unfold fr_fk
  intro e
  by_cases i1 : i = 24
  · rw [if_pos i1] at e
    by_cases j1 : j = 24
    · omega
    · rw [if_neg j1] at e
      by_cases j2 : K ≤ j ∧ j + 1 < c
      · rw [if_pos j2] at e
        have := h9 _ _ (by omega) (by omega) e; omega
      · rw [if_neg j2] at e
        by_cases j3 : j + 1 = c
        · rw [if_pos j3] at e
          have := h9 _ _ (by omega) (by omega) e; omega
        · rw [if_neg j3] at e
          have := h9 _ _ (by omega) (by omega) e; omega
  · rw [if_neg i1] at e
    by_cases i2 : K ≤ i ∧ i + 1 < c
    · rw [if_pos i2] at e
      by_cases j1 : j = 24
      · rw [if_pos j1] at e
        have := h9 _ _ (by omega) (by omega) e; omega
      · rw [if_neg j1] at e
        by_cases j2 : K ≤ j ∧ j + 1 < c
        · rw [if_pos j2] at e
          have := h9 _ _ (by omega) (by omega) e; omega
        · rw [if_neg j2] at e
          by_cases j3 : j + 1 = c
          · rw [if_pos j3] at e
            have := h9 _ _ (by omega) (by omega) e; omega
          · rw [if_neg j3] at e
            have := h9 _ _ (by omega) (by omega) e; omega
    · rw [if_neg i2] at e
      by_cases i3 : i + 1 = c
      · rw [if_pos i3] at e
        by_cases j1 : j = 24
        · rw [if_pos j1] at e
          have := h9 _ _ (by omega) (by omega) e; omega
        · rw [if_neg j1] at e
          by_cases j2 : K ≤ j ∧ j + 1 < c
          · rw [if_pos j2] at e
            have := h9 _ _ (by omega) (by omega) e; omega
          · rw [if_neg j2] at e
            by_cases j3 : j + 1 = c
            · omega
            · rw [if_neg j3] at e
              have := h9 _ _ (by omega) (by omega) e; omega
      · rw [if_neg i3] at e
        by_cases j1 : j = 24
        · rw [if_pos j1] at e
          have := h9 _ _ (by omega) (by omega) e; omega
        · rw [if_neg j1] at e
          by_cases j2 : K ≤ j ∧ j + 1 < c
          · rw [if_pos j2] at e
            have := h9 _ _ (by omega) (by omega) e; omega
          · rw [if_neg j2] at e
            by_cases j3 : j + 1 = c
            · rw [if_pos j3] at e
              have := h9 _ _ (by omega) (by omega) e; omega
            · rw [if_neg j3] at e
              have := h9 _ _ (by omega) (by omega) e; omega
/-- frame K is taken out -/
theorem fr_take (h : fr_R t c f x z) {K : Nat} (hK : K < c) (n d n1 d1 : Nat) : ∃ x' z', fn_ev 0 (n + 2000) (d + 1) 58 [.ref 1, .int (nI K)] x = some (x', some (.ref (f K))) ∧ fn_ev 1 (n1 + 2000) (d1 + 1) 88 [.ref 0, .int (nI K)] z = some (z', none) ∧ fr_R t (c - 1) (fr_fk c K f) x' z' ∧ x' (f K) = x (f K) := by
  have hR := h
  obtain ⟨⟨hc, h1, h2, h3, h4, h5, h6, h7, h8, h9, h10, h11, h12, ht⟩, -⟩ := h
  have cK : (nI K).toNatClampNeg = K := fr_cl (by omega)
  have xK : ¬ (nI K < 0 ∨ 24 ≤ K) := by have := fr_ix (c := K) (N := 24) (by omega) (by decide); rwa [cK] at this
  have bK := h8 K (by omega)
  have b24 := h8 24 (by omega)
  have cfK : (nI (f K)).toNatClampNeg = f K := fr_cl (by omega)
  have hc1 : nI c - 1 = nI (c - 1) := fr_sub (b := 1) (by omega)
  rw [ft_Wire_takeOut n d, cK, if_neg xK, h10 K (by omega), cfK, h1, hc1, ft_Model_remove n1 d1, h2, hc1]
  obtain ⟨X', p1, p2, p3, p4, p5⟩ := fr_up0 n d (nI K) (c' := c - 1) (s := f 24) (p := f K) (by omega) b24 (by omega) (c - 1 - K) K (n + 1971 - 16 * (c - 1 - K)) f (fn_w x 1 2 (nI (c - 1))) (by omega) fw_eq (by rw [fw_nj (by decide)]; exact h11) (fun j b => by rw [fw_ne (by decide)]; exact h10 j b) (fun j b => h8 j (by omega))
  obtain ⟨Z', q1, q2, q3⟩ := fr_up1 n1 d1 (nI K) (c' := c - 1) (by omega) (c - 1 - K) K (n1 + 1936 - 56 * (c - 1 - K)) (fn_w z 0 10 (nI (c - 1))) (by omega) fw_eq
  rw [show n + 1987 = n + 1971 - 16 * (c - 1 - K) + 16 + 16 * (c - 1 - K) by omega, p1, show n1 + 1992 = n1 + 1936 - 56 * (c - 1 - K) + 56 + 56 * (c - 1 - K) by omega, q1]
  have ex : ∀ q, q ≠ 1 → q ≠ 2 → X' q = x q := fun q b1 b2 => by rw [p2 q b1 b2, fw_row b1]
  have ez : ∀ q, 0 < q → q < 10 ∨ 14 < q → Z' q = z q := fun q b0 b => by rw [q2 q b, fw_row (by omega)]
  have e0 : ∀ j, j ≠ 10 → Z' 0 j = z 0 j := fun j b => by rw [q2 0 (by decide), fw_nj b]
  have e1 : ∀ j, j ≠ 1 → j ≠ 2 → X' 1 j = x 1 j := fun j b1 b2 => by rw [p4 j b1, fw_nj b2]
  refine ⟨X', Z', rfl, rfl, fr_Rb hR ⟨by omega, ?_, ?_, ?_, ?_, ?_, ?_, ?_, ?_, fr_fk_inj hc hK h9, ?_, ?_, ?_, ht⟩ (fun q b => ex q (by omega) (by omega)) ez (fun j b => e0 j (by omega)), ex _ (by omega) (by omega)⟩
  · rw [p4 2 (by decide), fw_eq]
  · rw [q2 0 (by decide), fw_eq]
  · rw [e1 6 (by decide) (by decide)]; exact h3
  · rw [e0 0 (by decide)]; exact h4
  · rw [e1 3 (by decide) (by decide), e0 16 (by decide)]; exact h5
  · rw [e1 4 (by decide) (by decide), e0 17 (by decide)]; exact h6
  · rw [e1 5 (by decide) (by decide), e0 18 (by decide)]; exact h7
  · intro i hi
    unfold fr_fk
    (repeat' split) <;> exact h8 _ (by omega)
  · intro i hi
    rw [p5 i hi]
    unfold fr_fk
    rw [if_neg (show ¬ i = 24 by omega)]
    congr 1
    by_cases b1 : K ≤ i ∧ i + 1 < c
    · rw [if_pos b1, if_pos (by omega)]
    · rw [if_neg b1, if_neg (by omega)]
      by_cases b2 : i + 1 = c
      · rw [if_pos b2, if_pos (by omega)]
      · rw [if_neg b2, if_neg (by omega)]
  · rw [p3]
    rfl
  · intro i hi
    have hf : fr_fk c K f i = f (if K ≤ i then i + 1 else i) := by
      unfold fr_fk
      rw [if_neg (by omega)]
      by_cases b1 : K ≤ i
      · rw [if_pos ⟨b1, by omega⟩, if_pos b1]
      · rw [if_neg (by omega), if_neg (by omega), if_neg b1]
    have hz : ∀ q, 10 ≤ q → q ≤ 14 → Z' q i = z q (if K ≤ i then i + 1 else i) := by
      intro q b1 b2
      rw [q3 q i b1 b2, fw_ne (by omega), fw_ne (by omega)]
      by_cases b1 : K ≤ i
      · rw [if_pos ⟨b1, by omega⟩, if_pos b1]
      · rw [if_neg (by omega), if_neg b1]
    have hlt : (if K ≤ i then i + 1 else i) < c := by split <;> omega
    have hb := h8 (if K ≤ i then i + 1 else i) (by omega)
    rw [hf, ex _ (by omega) (by omega), hz 10 (by decide) (by decide), hz 11 (by decide) (by decide), hz 12 (by decide) (by decide), hz 13 (by decide) (by decide), hz 14 (by decide) (by decide)]
    exact h12 _ hlt
end FSL
