/-! ===== reports; a transfer begins ===== -/
section FB
variable {t c : Nat} {f : Nat → Nat} {x z : fn_M}
theorem fr_mb : ∀ k, k ≤ 4 → 1 ≤ k → fn_lc 0 (48 + k) = 4 := by decide +kernel
/-- a report -/
theorem fr_note (h : fr_R t c f x z) (n d n1 d1 : Nat) (b1 b2 b3 : Int32) : ∃ x' z', fn_ev 0 (n + 2000) (d + 1) 14 [.ref 45, .int b1, .int b2, .int b3] x = some (x', none) ∧ fn_ev 1 (n1 + 2000) (d1 + 1) 105 [.ref 0, .int b1, .int b2, .int b3] z = some (z', none) ∧ fr_R t c f x' z' ∧
    (∀ q, q ≠ 45 → q ≠ 61 → x' q = x q) ∧ (∀ q, q ≠ 0 → q ≠ 23 → z' q = z q) ∧ (∀ j, j ≠ 40 → z' 0 j = z 0 j) := by
  obtain ⟨p1, p2, g, g1, g2, g3, g4⟩ := h.2.2.2.2
  have hcl : (nI g).toNatClampNeg = g := fr_cl (by omega)
  rw [ft_Master_addReport, ft_Model_note, g2, g3]
  by_cases e : g = 80
  · subst e
    rw [if_pos (show (80 : Int32) ≤ nI 80 by decide), if_pos (show nI 80 = 80 from rfl)]
    exact ⟨x, z, rfl, rfl, h, fun _ _ _ => rfl, fun _ _ _ => rfl, fun _ _ => rfl⟩
  · have hix : ¬ (nI g < 0 ∨ 80 ≤ g) := by have := fr_ix (c := g) (N := 80) (by omega) (by decide); rwa [hcl] at this
    rw [if_neg (show ¬ (80 : Int32) ≤ nI g from nI_ge (b := 80) (by omega) (by decide)), if_neg (show ¬ nI g = 80 from fun q => e ((fr_eq (b := 80) (by omega) (by decide)).mp q))]
    simp only [hcl, if_neg hix]
    refine ⟨_, _, rfl, rfl, ?_, fun q q1 q2 => ?_, fun q q1 q2 => ?_, fun j hj => ?_⟩
    · refine fr_Rp h (fun q q1 q2 => ?_) (fun q q1 q2 => ?_) (fun j q1 q2 => ?_) ?_
      · simp (disch := omega) only [fw_row]
      · simp (disch := omega) only [fw_row]
      · simp (disch := omega) only [fw_any]
      · unfold fr_p
        simp (disch := omega) only [fw_any, fw_eq, fw_row]
        refine ⟨p1, p2, g + 1, by omega, nI_1 g, nI_1 g, fun i hi => ?_⟩
        by_cases e2 : i = g
        · subst e2
          rw [fw_eq, fw_eq]
        · rw [fw_nj e2, fw_nj e2]
          exact g4 i (by omega)
    · simp (disch := omega) only [fw_row]
    · simp (disch := omega) only [fw_row]
    · simp (disch := omega) only [fw_any]
/-- the client and the bus change -/
theorem fr_Rc2 {c' : Nat} {x' z' : fn_M} (h : fr_R t c f x z) (hb' : fr_b t c' f x' z') (ex : ∀ q, 27 < q → q ≠ 46 → q ≠ 47 → x' q = x q) (ez : ∀ q, 0 < q → q < 10 ∨ 14 < q → q ≠ 22 → z' q = z q) (e19 : z' 0 19 = z 0 19) (e40 : z' 0 40 = z 0 40) (hc' : fr_c x' z') : fr_R t c' f x' z' := by
  obtain ⟨hb, hn, hm, hcl, hp⟩ := h
  refine ⟨hb', ?_, ?_, hc', ?_⟩
  · intro k a b
    exact fr_n_cg (hn k a b) (ex _ (by omega) (by omega) (by omega)) (ex _ (by omega) (by omega) (by omega)) (ex _ (by omega) (by omega) (by omega)) (ex _ (by omega) (by omega) (by omega)) (fun q a b c => by rw [ez q (by omega) (by omega) (by omega)]) (fun j hj => by rw [ez 2 (by decide) (by decide) (by decide)])
  · intro k a b
    exact fr_m_cg (hm k a b) (ex _ (by omega) (by omega) (by omega)) (ex _ (by omega) (by omega) (by omega)) (ex _ (by omega) (by omega) (by omega)) (fun q a => by rw [ez q (by omega) (by omega) (by omega)]) (fun j hj => by rw [ez 18 (by decide) (by decide) (by decide), ez 19 (by decide) (by decide) (by decide)]; exact ⟨rfl, rfl⟩)
  · exact fr_p_cg hp (ex _ (by omega) (by omega) (by omega)) (ex _ (by omega) (by omega) (by omega)) e19 e40 (ez 23 (by decide) (by decide) (by decide))
theorem fr_fr0 : fr_from 0 0 := Or.inr ⟨rfl, by decide, by decide⟩
/-- a transfer begins: w says whether it writes (1) or reads (0), op is the request's first number -/
theorem fr_beg (h : fr_R t c f x z) {m : Nat} (m1 : 1 ≤ m) (m2 : m ≤ 4) (n d n1 d1 : Nat) (k v w op a5 : Int32) (hw : (w = 0 ∧ op = 2) ∨ (w = 1 ∧ op = 1)) (hfb : x 46 1 = a5)
    (ha5 : a5 = 0 ∨ (a5 = 1 ∧ (x (48 + m) 2 = 2 ∨ (x (48 + m) 2 = 3 ∧ ∃ u, u ≤ 3 ∧ x (48 + m) 7 = nI u ∧ z 0 32 = nI u)))) :
    ∃ x' z' c', fn_bv (fn_ev 0 (n + 2000) (d + 1) 2 [.ref 46, .int (nI m), .int k, .int w, .ref 1] x) (fun y1 => (fn_bv (fn_ev 0 (n + 2000) (d + 1) 55 [.ref 1, .int 0, .int (1536 + nI m), .int op, .int k, .int v] y1) (fun y2 => some (y2, none)))) = some (x', none) ∧
      fn_ev 1 (n1 + 2000) (d1 + 3) 108 [.ref 0, .int (nI m), .int k, .int w, .int v, .int a5] z = some (z', none) ∧ fr_R t c' f x' z' ∧ x' (f 24) = x (f 24) := by
  have hw01 : w = 0 ∨ w = 1 := by rcases hw with ⟨e, -⟩ | ⟨e, -⟩ <;> simp [e]
  have h501 : a5 = 0 ∨ a5 = 1 := by rcases ha5 with e | ⟨e, -⟩ <;> simp [e]
  have h24 := fr_p24 h
  rw [ft_Client_begin, if_pos hw01, fb_v, ft_Model_begin n1 (d1 + 2), if_pos hw01, if_pos h501]
  have hm : (if w = 0 then (fn_bv (fn_ev 1 (n1 + 2000) (d1 + 2) 109 [.ref 0, .int 2, .int k, .int v] (fn_w (fn_w (fn_w (fn_w (fn_w z 0 27 (nI m)) 0 28 k) 0 29 w) 0 31 a5) 0 35 0)) (fun y1 => some (y1, none))) else (fn_bv (fn_ev 1 (n1 + 2000) (d1 + 2) 109 [.ref 0, .int 1, .int k, .int v] (fn_w (fn_w (fn_w (fn_w (fn_w z 0 27 (nI m)) 0 28 k) 0 29 w) 0 31 a5) 0 35 0)) (fun y2 => some (y2, none)))) =
      fn_bv (fn_ev 1 (n1 + 2000) (d1 + 2) 109 [.ref 0, .int op, .int k, .int v] (fn_w (fn_w (fn_w (fn_w (fn_w z 0 27 (nI m)) 0 28 k) 0 29 w) 0 31 a5) 0 35 0)) (fun y1 => some (y1, none)) := by
    rcases hw with ⟨e1, e2⟩ | ⟨e1, e2⟩
    · rw [if_pos e1, e2]
    · rw [if_neg (by rw [e1]; decide), e2]
  rw [hm, ft_Model_ask n1 (d1 + 1)]
  have hb1 : fr_b t c f (fn_w (fn_w (fn_w (fn_w (fn_w (fn_w x 46 0 1) 46 2 (nI m)) 46 3 k) 46 4 w) 46 8 0) 46 5 ((x 1 6) + 5)) (fn_w (fn_w (fn_w (fn_w (fn_w z 0 27 (nI m)) 0 28 k) 0 29 w) 0 31 a5) 0 35 0) := by
    refine fr_b_cg h.1 (fun q b1 b2 => ?_) (fun j hj => ?_) (fun q b1 b2 => ?_)
    · simp (disch := omega) only [fw_row]
    · simp (disch := omega) only [fw_any]
    · simp (disch := omega) only [fw_row]
  obtain ⟨y, y', c', q1, q2, q3, k1, k2, k3, k4, k5⟩ := fr_put hb1 n d n1 d1 0 (1536 + nI m) op k v 0 fr_fr0
  have e27 : (fn_w (fn_w (fn_w (fn_w (fn_w z 0 27 (nI m)) 0 28 k) 0 29 w) 0 31 a5) 0 35 0) 0 27 = nI m := by simp (disch := omega) only [fw_any, fw_eq]
  rw [e27, q1, q2, fb_v, fb_v, fb_v]
  have y46 : ∀ j, y 46 j = (fn_w (fn_w (fn_w (fn_w (fn_w (fn_w x 46 0 1) 46 2 (nI m)) 46 3 k) 46 4 w) 46 8 0) 46 5 ((x 1 6) + 5)) 46 j := fun j => by rw [k1 46 (Or.inl (by decide))]
  have yr : ∀ q, 27 < q → q ≠ 46 → y q = x q := fun q b1 b2 => by
    rw [k1 q (Or.inl b1)]
    simp (disch := omega) only [fw_row]
  have zr : ∀ q, 0 < q → (q < 10 ∨ 14 < q) → y' q = z q := fun q b1 b2 => by
    rw [k4 q b1 b2]
    simp (disch := omega) only [fw_row]
  have z0 : ∀ j, j ≠ 10 → j ≠ 16 → j ≠ 27 → j ≠ 28 → j ≠ 29 → j ≠ 31 → j ≠ 35 → y' 0 j = z 0 j := fun j b1 b2 b3 b4 b5 b6 b7 => by
    rw [k5 j b1 b2]
    simp (disch := omega) only [fw_any]
  refine ⟨y, _, c', rfl, rfl, ?_, ?_⟩
  · refine fr_Rc2 h ?_ (fun q b1 b2 b3 => yr q b1 b2) (fun q b1 b2 b3 => ?_) ?_ ?_ ?_
    · refine fr_b_cg q3 (fun q b1 b2 => rfl) (fun j hj => ?_) (fun q b1 b2 => ?_)
      · simp (disch := omega) only [fw_any]
      · simp (disch := omega) only [fw_row]
    · rw [fw_row (by omega)]
      exact zr q b1 b2
    · rw [fw_nj (by decide)]
      exact z0 19 (by decide) (by decide) (by decide) (by decide) (by decide) (by decide) (by decide)
    · rw [fw_nj (by decide)]
      exact z0 40 (by decide) (by decide) (by decide) (by decide) (by decide) (by decide) (by decide)
    · obtain ⟨d1', d2', ⟨g, g1, g2, g3, g4⟩, -⟩ := h.2.2.2.1
      unfold fr_c
      rw [yr 47 (by decide) (by decide)]
      simp (disch := omega) only [y46, fw_any, fw_eq, fw_row, zr 22 (by decide) (Or.inr (by decide)), z0 33 (by decide) (by decide) (by decide) (by decide) (by decide) (by decide) (by decide), z0 34 (by decide) (by decide) (by decide) (by decide) (by decide) (by decide) (by decide), z0 38 (by decide) (by decide) (by decide) (by decide) (by decide) (by decide) (by decide), z0 32 (by decide) (by decide) (by decide) (by decide) (by decide) (by decide) (by decide), k5 27 (by decide) (by decide), k5 28 (by decide) (by decide), k5 29 (by decide) (by decide), k5 31 (by decide) (by decide), k5 35 (by decide) (by decide)]
      refine ⟨d1', d2', ⟨g, g1, g2, g3, g4⟩, Or.inr ⟨trivial, ⟨m, m1, m2, rfl, rfl, ?_⟩, trivial, trivial, ?_, hfb, trivial, Or.inl trivial⟩⟩
      · rw [yr (48 + m) (by omega) (by omega), hfb]
        exact ha5
      · rw [(fr_now h).1, q3.2.2.2.2.1]
  · rw [k1 _ (Or.inr rfl)]
    simp (disch := omega) only [fw_row]
end FB
