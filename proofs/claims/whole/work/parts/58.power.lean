/-! ===== a node goes off: its frames are dropped ===== -/
section FPO
variable {t c k : Nat} {f : Nat → Nat} {x z : fn_M}
theorem fr_s_off (h : fr_R t c f x z) (h1 : 1 ≤ k) (h2 : k ≤ 4) : fr_R t c f (fn_w x (28 + k) 3 0) (fn_w z 1 k 0) := by
  obtain ⟨a1, a2, a3, a4, a5, a6, a7, a8, a9, a10, a11, a12, a13, a14, a15⟩ := h.2.1 k h1 h2
  refine fr_Rn h h1 h2 (fun q b1 b2 b3 b4 => fw_row b1) (fun q b => fw_row (by omega)) (fun q j b1 b2 b3 b4 => ?_) (fun j b => by rw [fw_row (by omega)]) ?_
  · by_cases e : q = 1
    · subst e; exact fw_nj b4
    · exact fw_ne e
  · unfold fr_n
    simp (disch := omega) only [fw_ne, fw_nj, fw_eq, fw_row]
    refine ⟨a1, trivial, Or.inl trivial, a4, a5, a6, a7, a8, a9, a10, a11, a12, a13, a14, fun w b1 b2 => ?_⟩
    rcases a15 w b1 b2 with r | ⟨r1, ⟨p, r2, r3, r4, r5⟩, r6⟩
    · exact Or.inl r
    · exact Or.inr ⟨r1, ⟨p, r2, r3, r4, Or.inl rfl⟩, r6⟩
/-- the frames that stay, in their order -/
def fr_L (P : Nat → Bool) : Nat → List Nat
  | 0 => []
  | i + 1 => if P i = true then fr_L P i ++ [i] else fr_L P i
theorem fr_gA (l : List Nat) (a : Nat) : ∀ j, j < l.length → (l ++ [a]).getD j 0 = l.getD j 0 := by
  induction l with
  | nil => intro j h; exact absurd h (Nat.not_lt_zero _)
  | cons b l ih =>
    intro j h
    cases j with
    | zero => rfl
    | succ j => exact ih j (Nat.lt_of_succ_lt_succ h)
theorem fr_gE (l : List Nat) (a : Nat) : (l ++ [a]).getD l.length 0 = a := by
  induction l with
  | nil => rfl
  | cons b l ih => exact ih
theorem fr_gL (l : List Nat) (a : Nat) : (l ++ [a]).length = l.length + 1 := by
  rw [List.length_append]
  rfl
theorem fr_Ll (P : Nat → Bool) : ∀ i, (fr_L P i).length ≤ i := by
  intro i
  induction i with
  | zero => exact Nat.le_refl _
  | succ i ih =>
    show (if P i = true then fr_L P i ++ [i] else fr_L P i).length ≤ i + 1
    split
    · rw [fr_gL]; omega
    · omega
theorem fr_Llt (P : Nat → Bool) : ∀ i j, j < (fr_L P i).length → (fr_L P i).getD j 0 < i := by
  intro i
  induction i with
  | zero => intro j h; exact absurd h (Nat.not_lt_zero _)
  | succ i ih =>
    intro j h
    have e : fr_L P (i + 1) = if P i = true then fr_L P i ++ [i] else fr_L P i := rfl
    rw [e] at h ⊢
    by_cases p : P i = true
    · rw [if_pos p] at h ⊢
      rw [fr_gL] at h
      by_cases q : j < (fr_L P i).length
      · rw [fr_gA _ _ _ q]
        have := ih j q
        omega
      · rw [show j = (fr_L P i).length by omega, fr_gE]
        omega
    · rw [if_neg p] at h ⊢
      have := ih j h
      omega
def fr_sw (s i j : Nat) : Nat := if j = s then i else if j = i then s else j
theorem fr_sw_inj {s i a b : Nat} (e : fr_sw s i a = fr_sw s i b) : a = b := by
  unfold fr_sw at e
  by_cases a1 : a = s
  · rw [if_pos a1] at e
    by_cases b1 : b = s
    · omega
    · rw [if_neg b1] at e
      by_cases b2 : b = i
      · rw [if_pos b2] at e; omega
      · rw [if_neg b2] at e; omega
  · rw [if_neg a1] at e
    by_cases a2 : a = i
    · rw [if_pos a2] at e
      by_cases b1 : b = s
      · rw [if_pos b1] at e; omega
      · rw [if_neg b1] at e
        by_cases b2 : b = i
        · omega
        · rw [if_neg b2] at e; omega
    · rw [if_neg a2] at e
      by_cases b1 : b = s
      · rw [if_pos b1] at e; omega
      · rw [if_neg b1] at e
        by_cases b2 : b = i
        · rw [if_pos b2] at e; omega
        · rw [if_neg b2] at e; exact e
/-- the system's loop -/
theorem fr_drop0 (n d : Nat) (a : Int32) (P : Nat → Bool) (hc : c ≤ 24) (hP : ∀ i, i < c → (x (f i) 0 = a ↔ ¬ P i = true)) : ∀ (r i m : Nat) (g : Nat → Nat) (X : fn_M), i + r = c → X 1 2 = nI c → (∀ q, 3 ≤ q → q ≤ 27 → X q = x q) → (∀ j, j < 25 → 3 ≤ g j ∧ g j ≤ 27) → (∀ j j', j < 25 → j' < 25 → g j = g j' → j = j') → (∀ j, j < 24 → X 2 j = nI (g j)) → g 24 = f 24 → (∀ j, i ≤ j → j < 24 → g j = f j) → (∀ j, j < (fr_L P i).length → g j = f ((fr_L P i).getD j 0)) →
    ∃ (g' : Nat → Nat) (X' : fn_M), fn_run 0 (fn_ev 0 (n + 2000) d) (fn_lk fn_d56) (m + 29 + 29 * r) 4 [(0, .ref 1), (1, .int a), (2, .int (nI (fr_L P i).length)), (3, .int (nI i))] [] X = some (X', none) ∧ (∀ j, j < 25 → 3 ≤ g' j ∧ g' j ≤ 27) ∧ (∀ j j', j < 25 → j' < 25 → g' j = g' j' → j = j') ∧ (∀ j, j < 24 → X' 2 j = nI (g' j)) ∧ g' 24 = f 24 ∧ (∀ j, j < (fr_L P c).length → g' j = f ((fr_L P c).getD j 0)) ∧
      X' 1 2 = nI (fr_L P c).length ∧ (∀ j, j ≠ 2 → X' 1 j = X 1 j) ∧ (∀ q, q ≠ 1 → q ≠ 2 → X' q = X q) := by
  intro r
  induction r with
  | zero =>
    intro i m g X hi e2 eX bg ig eg e24 er el
    have : i = c := by omega
    subst this
    rw [show m + 29 + 29 * 0 = m + 29 from rfl, ft_Wire_dropFramesOf_at4 n d, e2, if_pos (nI_le (Nat.le_refl _) (by omega))]
    refine ⟨g, _, rfl, bg, ig, fun j b => ?_, e24, el, fw_eq, fun j b => fw_nj b, fun q b1 b2 => fw_row b1⟩
    rw [fw_ne (by decide)]
    exact eg j b
  | succ r ih =>
    intro i m g X hi e2 eX bg ig eg e24 er el
    have hs := fr_Ll P i
    have ci : (nI i).toNatClampNeg = i := fr_cl (by omega)
    have xi : ¬ (nI i < 0 ∨ 24 ≤ i) := by have := fr_ix (c := i) (N := 24) (by omega) (by decide); rwa [ci] at this
    have bi := bg i (by omega)
    have cgi : (nI (g i)).toNatClampNeg = g i := fr_cl (by omega)
    have hpi := hP i (by omega)
    rw [← er i (Nat.le_refl _) (by omega), ← eX (g i) (by omega) (by omega)] at hpi
    have eL : fr_L P (i + 1) = if P i = true then fr_L P i ++ [i] else fr_L P i := rfl
    rw [show m + 29 + 29 * (r + 1) = (m + 29 * (r + 1)) + 29 by omega, ft_Wire_dropFramesOf_at4 n d, e2, if_neg (nI_ge (by omega) (by omega)), ci, if_neg xi, eg i (by omega), cgi, if_pos (fr_fr (g i) bi.2 bi.1), nI_1]
    by_cases p : P i = true
    · rw [if_pos p] at eL
      have cs : (nI (fr_L P i).length).toNatClampNeg = (fr_L P i).length := fr_cl (by omega)
      have xs : ¬ (nI (fr_L P i).length < 0 ∨ 24 ≤ (fr_L P i).length) := by have := fr_ix (c := (fr_L P i).length) (N := 24) (by omega) (by decide); rwa [cs] at this
      have bs := bg (fr_L P i).length (by omega)
      have cgs : (nI (g (fr_L P i).length)).toNatClampNeg = g (fr_L P i).length := fr_cl (by omega)
      have k1 : fn_dy 2 = true ∧ (fn_la 0 2).1 = 4 ∧ fn_lc 0 (g i) = 2 := ⟨fr_dy2.1, fr_dy2.2, fr_fr _ bi.2 bi.1⟩
      have k2 : fn_dy 2 = true ∧ (fn_la 0 2).1 = 4 ∧ fn_lc 0 (g (fr_L P i).length) = 2 := ⟨fr_dy2.1, fr_dy2.2, fr_fr _ bs.2 bs.1⟩
      rw [if_neg (fun q => hpi.mp q p), cs, if_neg xs, eg _ (by omega), cgs, if_pos k2, if_neg xi, if_pos k1, if_neg xs, nI_1, show m + 29 * (r + 1) + 0 = m + 29 + 29 * r by omega]
      have hlen : (fr_L P (i + 1)).length = (fr_L P i).length + 1 := by rw [eL, fr_gL]
      obtain ⟨g', X', q1, q2, q3, q4, q5, q6, q7, q8, q9⟩ := ih (i + 1) m (fun j => g (fr_sw (fr_L P i).length i j)) (fn_w (fn_w X 2 i (nI (g (fr_L P i).length))) 2 (fr_L P i).length (nI (g i))) (by omega) (by rw [fw_ne (by decide), fw_ne (by decide)]; exact e2)
        (fun q b1 b2 => by rw [fw_row (by omega), fw_row (by omega)]; exact eX q b1 b2)
        (fun j b => by
          refine bg _ ?_
          unfold fr_sw
          (repeat' split) <;> omega)
        (fun j j' b b' e => fr_sw_inj (ig _ _ (by unfold fr_sw; (repeat' split) <;> omega) (by unfold fr_sw; (repeat' split) <;> omega) e))
        (fun j b => by
          unfold fr_sw
          by_cases e1 : j = (fr_L P i).length
          · rw [if_pos e1, e1, fw_eq]
          · rw [if_neg e1, fw_nj e1]
            by_cases e2 : j = i
            · rw [if_pos e2, e2, fw_eq]
            · rw [if_neg e2, fw_nj e2]
              exact eg j b)
        (by
          show g (fr_sw (fr_L P i).length i 24) = f 24
          unfold fr_sw
          rw [if_neg (by omega), if_neg (by omega)]
          exact e24)
        (fun j b1 b2 => by
          show g (fr_sw (fr_L P i).length i j) = f j
          unfold fr_sw
          rw [if_neg (by omega), if_neg (by omega)]
          exact er j (by omega) b2)
        (fun j b => by
          show g (fr_sw (fr_L P i).length i j) = f ((fr_L P (i + 1)).getD j 0)
          rw [hlen] at b
          rw [eL]
          unfold fr_sw
          by_cases e1 : j = (fr_L P i).length
          · rw [if_pos e1, e1, fr_gE]
            exact er i (Nat.le_refl _) (by omega)
          · rw [if_neg e1, if_neg (by omega), fr_gA _ _ _ (by omega)]
            exact el j (by omega))
      rw [hlen] at q1
      refine ⟨g', X', q1, q2, q3, q4, q5, q6, q7, fun j b => ?_, fun q b1 b2 => ?_⟩
      · rw [q8 j b, fw_ne (by decide), fw_ne (by decide)]
      · rw [q9 q b1 b2, fw_row b2, fw_row b2]
    · rw [if_neg p] at eL
      rw [if_pos (hpi.mpr p), show m + 29 * (r + 1) + 14 = (m + 14) + 29 + 29 * r by omega]
      obtain ⟨g', X', q1, q2⟩ := ih (i + 1) (m + 14) g X (by omega) e2 eX bg ig eg e24 (fun j b1 b2 => er j (by omega) b2) (by rw [eL]; exact el)
      rw [eL] at q1
      exact ⟨g', X', q1, q2⟩
/-- the reference's loop -/
theorem fr_drop1 (n d : Nat) (a l2 : Int32) (P : Nat → Bool) (hc : c ≤ 24) (hP : ∀ i, i < c → (z 14 i = a ↔ ¬ P i = true)) : ∀ (i m : Nat) (T : List Nat) (Z : fn_M), i + T.length ≤ c → Z 0 10 = nI (i + T.length) → (∀ q j, 10 ≤ q → q ≤ 14 → j < i → Z q j = z q j) → (∀ q j, 10 ≤ q → q ≤ 14 → j < T.length → Z q (i + j) = z q (T.getD j 0)) →
    ∃ Z', fn_run 1 (fn_ev 1 (n + 2000) (d + 1)) (fn_lk fn_d116) (m + 13 + 13 * i) 52 [(0, .ref 0), (1, .int a), (2, .int l2), (3, .int (nI i - 1))] [] Z = some (Z', some (.int 1)) ∧ (∀ q, 0 < q → q < 10 ∨ 14 < q → Z' q = Z q) ∧ (∀ j, j ≠ 10 → Z' 0 j = Z 0 j) ∧ Z' 0 10 = nI (fr_L P i ++ T).length ∧ (∀ q j, 10 ≤ q → q ≤ 14 → j < (fr_L P i ++ T).length → Z' q j = z q ((fr_L P i ++ T).getD j 0)) := by
  intro i
  induction i with
  | zero =>
    intro m T Z hi e10 el eT
    rw [show m + 13 + 13 * 0 = m + 13 from rfl, ft_Model_power_at52 n (d + 1), show nI 0 - 1 = (-1 : Int32) from rfl, if_pos (show (-1 : Int32) < 0 by decide)]
    refine ⟨Z, rfl, fun _ _ _ => rfl, fun _ _ => rfl, ?_, fun q j b1 b2 b3 => ?_⟩
    · rw [e10]
      show nI (0 + T.length) = nI T.length
      rw [Nat.zero_add]
    · have := eT q j b1 b2 b3
      rw [Nat.zero_add] at this
      exact this
  | succ i ih =>
    intro m T Z hi e10 el eT
    have ci : (nI i).toNatClampNeg = i := fr_cl (by omega)
    have xi : ¬ (nI i < 0 ∨ 24 ≤ i) := by have := fr_ix (c := i) (N := 24) (by omega) (by decide); rwa [ci] at this
    have hpi := hP i (by omega)
    rw [← el 14 i (by decide) (by decide) (by omega)] at hpi
    have eL : fr_L P (i + 1) = if P i = true then fr_L P i ++ [i] else fr_L P i := rfl
    rw [show m + 13 + 13 * (i + 1) = (m + 13 * (i + 1)) + 13 by omega, ft_Model_power_at52 n (d + 1), nI_pred, if_neg (nI_pos (by omega)), ci, if_neg xi, show nI i + (-1) = nI i - 1 from (Int32.sub_eq_add_neg _ _).symm]
    by_cases p : P i = true
    · rw [if_pos p] at eL
      rw [if_neg (fun q => hpi.mp q p), show m + 13 * (i + 1) + 3 = (m + 3) + 13 + 13 * i by omega]
      obtain ⟨Z', q1, q2, q3, q4, q5⟩ := ih (m + 3) (i :: T) Z (by rw [List.length_cons]; omega) (by rw [List.length_cons, e10]; congr 1; omega) (fun q j b1 b2 b3 => el q j b1 b2 (by omega))
        (fun q j b1 b2 b3 => by
          cases j with
          | zero => exact el q i b1 b2 (by omega)
          | succ j =>
            have := eT q j b1 b2 (Nat.lt_of_succ_lt_succ b3)
            rw [show i + (j + 1) = i + 1 + j by omega]
            exact this)
      have eA : fr_L P (i + 1) ++ T = fr_L P i ++ (i :: T) := by rw [eL, List.append_assoc]; rfl
      rw [eA]
      exact ⟨Z', q1, q2, q3, q4, q5⟩
    · rw [if_neg p] at eL
      have hc1 : Z 0 10 - 1 = nI (i + T.length) := by rw [e10, show i + 1 + T.length = (i + T.length) + 1 by omega, nI_pred]
      obtain ⟨Z1, p1, p2, p3⟩ := fr_up1 n d (nI i) (c' := i + T.length) (by omega) T.length i (n + 1936 - 56 * T.length) (fn_w Z 0 10 (nI (i + T.length))) rfl fw_eq
      rw [if_pos (hpi.mpr p), ft_Model_remove n d, hc1, show n + 1992 = n + 1936 - 56 * T.length + 56 + 56 * T.length by omega, p1, fb_v, show m + 13 * (i + 1) + 0 = m + 13 + 13 * i by omega]
      obtain ⟨Z', q1, q2, q3, q4, q5⟩ := ih m T Z1 (by omega) (by rw [p2 0 (by decide), fw_eq])
        (fun q j b1 b2 b3 => by
          rw [p3 q j b1 b2, if_neg (by omega), fw_ne (by omega)]
          exact el q j b1 b2 (by omega))
        (fun q j b1 b2 b3 => by
          rw [p3 q (i + j) b1 b2, if_pos (by omega), fw_ne (by omega), show i + j + 1 = i + 1 + j by omega]
          exact eT q j b1 b2 b3)
      rw [eL]
      refine ⟨Z', q1, fun q b1 b2 => ?_, fun j b => ?_, q4, q5⟩
      · rw [q2 q b1 b2, p2 q b2, fw_row (by omega)]
      · rw [q3 j b, p2 0 (by decide), fw_nj b]
theorem fr_app_nil (l : List Nat) : l ++ [] = l := List.append_nil l
/-- both drop the frames of node k -/
theorem fr_drop (h : fr_R t c f x z) (h1 : 1 ≤ k) (h2 : k ≤ 4) (n d n1 d1 m : Nat) (l2 : Int32) (hm : 360 ≤ m) : ∃ x' z' c' f', fn_ev 0 (n + 2000) (d + 1) 56 [.ref 1, .int (nI k)] x = some (x', none) ∧ fn_run 1 (fn_ev 1 (n1 + 2000) (d1 + 1)) (fn_lk fn_d116) m 52 [(0, .ref 0), (1, .int (nI k)), (2, .int l2), (3, .int (nI c - 1))] [] z = some (z', some (.int 1)) ∧ fr_R t c' f' x' z' := by
  have hR := h
  obtain ⟨⟨hc, g1, g2, g3, g4, g5, g6, g7, g8, g9, g10, g11, g12, ht⟩, -⟩ := h
  have hk5 : nI k ≠ 5 := fun e => by have := (fr_eq (b := 5) (by omega) (by decide)).mp e; omega
  have hkm : nI k ≠ -1 := fun e => by
    have := congrArg Int32.toInt e
    rw [nI_toInt (by omega), show (-1 : Int32).toInt = -1 from rfl] at this
    omega
  have hz : ∀ i, i < c → (z 14 i = nI k ↔ ¬ (decide (¬ z 14 i = nI k)) = true) := fun i _ => by simp
  have hx : ∀ i, i < c → (x (f i) 0 = nI k ↔ ¬ (decide (¬ z 14 i = nI k)) = true) := fun i hi => by
    rw [← fr_from_iff (g12 i hi).2.2.2.2 hkm hk5]
    simp
  obtain ⟨g', X', p1, p2, p3, p4, p5, p6, p7, p8, p9⟩ := fr_drop0 n d (nI k) (fun i => decide (¬ z 14 i = nI k)) hc hx c 0 (n + 1967 - 29 * c) f x (by omega) g1 (fun _ _ _ => rfl) g8 g9 g10 rfl (fun _ _ _ => rfl) (fun j b => absurd b (Nat.not_lt_zero _))
  obtain ⟨Z', q1, q2, q3, q4, q5⟩ := fr_drop1 n1 d1 (nI k) l2 (fun i => decide (¬ z 14 i = nI k)) hc hz c (m - 13 - 13 * c) [] z (Nat.le_refl _) g2 (fun _ _ _ _ _ => rfl) (fun q j b1 b2 b => absurd b (Nat.not_lt_zero _))
  rw [show m - 13 - 13 * c + 13 + 13 * c = m by omega] at q1
  rw [show n + 1967 - 29 * c + 29 + 29 * c = n + 1996 by omega, show nI (fr_L (fun i => decide (¬ z 14 i = nI k)) 0).length = 0 from rfl, nI_0] at p1
  rw [fr_app_nil] at q4 q5
  have hl := fr_Ll (fun i => decide (¬ z 14 i = nI k)) c
  have hlt := fr_Llt (fun i => decide (¬ z 14 i = nI k)) c
  rw [ft_Wire_dropFramesOf n d, p1, q1]
  refine ⟨X', Z', (fr_L (fun i => decide (¬ z 14 i = nI k)) c).length, g', rfl, rfl, fr_Rb hR ⟨by omega, p7, q4, ?_, ?_, ?_, ?_, ?_, p2, p3, p4, ?_, ?_, ht⟩ (fun q b => p9 q (by omega) (by omega)) q2 (fun j b => q3 j (by omega))⟩
  · rw [p8 6 (by decide)]; exact g3
  · rw [q3 0 (by decide)]; exact g4
  · rw [p8 3 (by decide), q3 16 (by decide)]; exact g5
  · rw [p8 4 (by decide), q3 17 (by decide)]; exact g6
  · rw [p8 5 (by decide), q3 18 (by decide)]; exact g7
  · rw [p8 1 (by decide), p5]; exact g11
  · intro i hi
    have hb := p2 i (by omega)
    rw [p9 (g' i) (by omega) (by omega), p6 i hi, q5 10 i (by decide) (by decide) hi, q5 11 i (by decide) (by decide) hi, q5 12 i (by decide) (by decide) hi, q5 13 i (by decide) (by decide) hi, q5 14 i (by decide) (by decide) hi]
    exact g12 _ (hlt i hi)
theorem fp_power (h : fr_R t c f x z) (n d n1 d1 : Nat) (a b : Int32) (hb : b = 0 ∨ b = 1) : fr_pub t (fn_ev 0 (n + 2000) (d + 3) 61 [.ref 0, .int a, .int b] x) (fn_ev 1 (n1 + 2000) (d1 + 3) 116 [.ref 0, .int a, .int b] z) := by
  have ok : ∀ v : Int32, fr_pub t (some (x, some (.int v))) (some (z, some (.int v))) := fun v => ⟨x, z, c, f, v, rfl, rfl, h⟩
  rw [ft_Net_power n (d + 2), ft_Model_power n1 (d1 + 2), fe_nd0, fe_nd1, fb_i, fb_i]
  by_cases w1 : fr_w a 1 4 = 0
  · rw [if_pos w1, if_pos w1]
    exact ok _
  · obtain ⟨k, k1, k2, rfl⟩ := fr_bt (lo := 1) (hi := 4) (by decide) (by decide) (fr_no1 (fr_w01 _ _ _) w1)
    have hcl : (nI k).toNatClampNeg = k := fr_cl (by omega)
    have hix : ¬ (nI k < 0 ∨ 5 ≤ k) := by have := fr_ix (c := k) (N := 5) (by omega) (by decide); rwa [hcl] at this
    have h14 : 1 ≤ k ∧ k ≤ 4 := ⟨k1, k2⟩
    obtain ⟨a1, a2, -⟩ := h.2.1 k k1 k2
    rw [if_neg w1, if_neg w1]
    simp only [hcl, if_neg hix, if_pos h14, if_pos (fr_nodeT k k2 k1)]
    rw [fk_Node_isOn n (d + 1) k1 k2, ← a2]
    by_cases s0 : x (28 + k) 3 = 0
    · rw [if_pos s0, if_pos s0, fb_i]
      rcases hb with rfl | rfl
      · rw [if_pos rfl, if_pos rfl]
        exact ok _
      · obtain ⟨y, y', c', q1, q2, q3, q4⟩ := fr_reset h k1 k2 n d n1 d1
        rw [if_neg (show ¬ (0 : Int32) = 1 by decide), if_neg fr_10, if_neg (show ¬ (0 : Int32) = 1 by decide), if_neg fr_10, q1, q2, fb_v, fb_v]
        exact ⟨y, y', c', f, _, rfl, rfl, q3⟩
    · rw [if_neg s0, if_neg s0, fb_i]
      rcases hb with rfl | rfl
      · have h3 := fr_s_off h k1 k2
        obtain ⟨y, y', c', f', q1, q2, q3⟩ := fr_drop h3 k1 k2 n d n1 (d1 + 1) (n1 + 1976) 0 (by omega)
        rw [if_neg fr_10, if_pos rfl, if_neg fr_10, if_pos rfl, fk_Node_switchOff n (d + 1) k1 k2, a1, q1, fb_v, fb_v, h.1.2.2.1, q2]
        exact ⟨y, y', c', f', _, rfl, rfl, q3⟩
      · rw [if_pos rfl, if_pos rfl]
        exact ok _
end FPO
