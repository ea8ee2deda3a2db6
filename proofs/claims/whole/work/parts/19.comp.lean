/-! ===== what a change of one component leaves of the others ===== -/
theorem fr_n_cg {t k : Nat} {x x' z z' : fn_M} (h : fr_n t k x z) (e1 : x' (28 + k) = x (28 + k)) (e2 : x' (32 + k) = x (32 + k)) (e3 : x' (36 + k) = x (36 + k)) (e4 : x' (40 + k) = x (40 + k))
    (g : ∀ q, q ≠ 0 → q ≠ 2 → q ≤ 9 → z' q k = z q k) (g2 : ∀ j, j < 16 → z' 2 (16 * k + j) = z 2 (16 * k + j)) : fr_n t k x' z' := by
  unfold fr_n at h ⊢
  obtain ⟨a1, a2, a3, a4, a5, a6, a7, a8, a9, a10, a11, a12, a13, a14, a15⟩ := h
  rw [e1, e2, e3, e4, g 1 (by decide) (by decide) (by decide), g 9 (by decide) (by decide) (by decide), g 3 (by decide) (by decide) (by decide), g 4 (by decide) (by decide) (by decide), g 5 (by decide) (by decide) (by decide), g 6 (by decide) (by decide) (by decide), g 7 (by decide) (by decide) (by decide), g 8 (by decide) (by decide) (by decide)]
  exact ⟨a1, a2, a3, fun j hj => (g2 j hj).trans (a4 j hj), a5, a6, a7, a8, a9, a10, a11, a12, a13, a14, a15⟩
theorem fr_m_cg {t k : Nat} {x x' z z' : fn_M} (h : fr_m t k x z) (e1 : x' (48 + k) = x (48 + k)) (e2 : x' (52 + k) = x (52 + k)) (e3 : x' (56 + k) = x (56 + k))
    (g : ∀ q, q = 15 ∨ q = 16 ∨ q = 17 ∨ q = 20 ∨ q = 21 → z' q k = z q k) (g2 : ∀ j, j < 3 → z' 18 (3 * k + j) = z 18 (3 * k + j) ∧ z' 19 (3 * k + j) = z 19 (3 * k + j)) : fr_m t k x' z' := by
  unfold fr_m at h ⊢
  obtain ⟨a1, a2, a3, a4, a5, a6, a7, w, a8, a9, a10, a11⟩ := h
  rw [e1, e2, e3, g 15 (by decide), g 16 (by decide), g 17 (by decide), g 20 (by decide), g 21 (by decide)]
  exact ⟨a1, a2, a3, a4, a5, a6, a7, w, a8, a9, a10, fun i hi => by rw [(g2 i (by omega)).1, (g2 i (by omega)).2]; exact a11 i hi⟩
theorem fr_c_cg {x x' z z' : fn_M} (h : fr_c x z) (e1 : x' 46 = x 46) (e2 : x' 47 = x 47) (e3 : ∀ n, 1 ≤ n → n ≤ 4 → x' (48 + n) 2 = x (48 + n) 2 ∧ x' (48 + n) 7 = x (48 + n) 7)
    (g : ∀ j, 27 ≤ j → j ≤ 38 → z' 0 j = z 0 j) (g2 : z' 22 = z 22) : fr_c x' z' := by
  unfold fr_c at h ⊢
  rw [e1, e2, g 33 (by decide) (by decide), g 34 (by decide) (by decide), g 38 (by decide) (by decide), g 27 (by decide) (by decide), g 28 (by decide) (by decide), g 29 (by decide) (by decide), g 30 (by decide) (by decide), g 31 (by decide) (by decide), g 32 (by decide) (by decide), g 35 (by decide) (by decide), g 36 (by decide) (by decide), g 37 (by decide) (by decide), g2]
  obtain ⟨a1, a2, a3, a4⟩ := h
  refine ⟨a1, a2, a3, ?_⟩
  rcases a4 with a4 | ⟨b1, ⟨n, n1, n2, n3, n4, n5⟩, b3⟩
  · exact Or.inl a4
  · refine Or.inr ⟨b1, ⟨n, n1, n2, n3, n4, ?_⟩, b3⟩
    rw [(e3 n n1 n2).1, (e3 n n1 n2).2]
    exact n5
theorem fr_p_cg {x x' z z' : fn_M} (h : fr_p x z) (e1 : x' 45 = x 45) (e2 : x' 61 = x 61) (g : z' 0 19 = z 0 19) (g1 : z' 0 40 = z 0 40) (g2 : z' 23 = z 23) : fr_p x' z' := by
  unfold fr_p at h ⊢
  rw [e1, e2, g, g1, g2]
  exact h
theorem fr_b_cg {t c : Nat} {f : Nat → Nat} {x x' z z' : fn_M} (h : fr_b t c f x z) (e : ∀ q, 1 ≤ q → q ≤ 27 → x' q = x q) (g : ∀ j, j = 0 ∨ j = 10 ∨ j = 16 ∨ j = 17 ∨ j = 18 → z' 0 j = z 0 j) (g2 : ∀ q, 10 ≤ q → q ≤ 14 → z' q = z q) : fr_b t c f x' z' := by
  unfold fr_b at h ⊢
  obtain ⟨hc, h1, h2, h3, h4, h5, h6, h7, h8, h9, h10, h11, h12, ht⟩ := h
  rw [e 1 (by decide) (by decide), e 2 (by decide) (by decide), g 0 (by decide), g 10 (by decide), g 16 (by decide), g 17 (by decide), g 18 (by decide), g2 10 (by decide) (by decide), g2 11 (by decide) (by decide), g2 12 (by decide) (by decide), g2 13 (by decide) (by decide), g2 14 (by decide) (by decide)]
  refine ⟨hc, h1, h2, h3, h4, h5, h6, h7, h8, h9, h10, h11, fun i hi => ?_, ht⟩
  have := h8 i (by omega)
  rw [e (f i) (by omega) (by omega)]
  exact h12 i hi
/-- behind a put -/
theorem fr_Rput {t c : Nat} {f : Nat → Nat} {x z : fn_M} (h : fr_R t c f x z) (n d n1 d1 : Nat) (a1 a2 a3 a4 a5 b1 : Int32) (hf : fr_from a1 b1) :
    ∃ x' z' c', fn_ev 0 (n + 2000) (d + 1) 55 [.ref 1, .int a1, .int a2, .int a3, .int a4, .int a5] x = some (x', none) ∧ fn_ev 1 (n1 + 2000) (d1 + 1) 87 [.ref 0, .int b1, .int a2, .int a3, .int a4, .int a5] z = some (z', none) ∧ fr_R t c' f x' z' ∧ fr_keep (f 24) x x' z z' := by
  obtain ⟨hb, hn, hm, hcl, hp⟩ := h
  obtain ⟨x', z', c', q1, q2, q3, q4⟩ := fr_put hb n d n1 d1 a1 a2 a3 a4 a5 b1 hf
  refine ⟨x', z', c', q1, q2, ⟨q3, ?_, ?_, ?_, ?_⟩, q4⟩
  all_goals obtain ⟨k1, k2, k3, k4, k5⟩ := q4
  · intro k h1 h2
    exact fr_n_cg (hn k h1 h2) (k1 _ (by omega)) (k1 _ (by omega)) (k1 _ (by omega)) (k1 _ (by omega)) (fun q a b c => by rw [k4 q (by omega) (by omega)]) (fun j hj => by rw [k4 2 (by decide) (by decide)])
  · intro k h1 h2
    exact fr_m_cg (hm k h1 h2) (k1 _ (by omega)) (k1 _ (by omega)) (k1 _ (by omega)) (fun q a => by rw [k4 q (by omega) (by omega)]) (fun j hj => by rw [k4 18 (by decide) (by decide), k4 19 (by decide) (by decide)]; exact ⟨rfl, rfl⟩)
  · exact fr_c_cg hcl (k1 _ (Or.inl (by decide))) (k1 _ (Or.inl (by decide))) (fun n a b => by rw [k1 (48 + n) (by omega)]; exact ⟨rfl, rfl⟩) (fun j a b => k5 j (by omega) (by omega)) (k4 22 (by decide) (by decide))
  · exact fr_p_cg hp (k1 _ (Or.inl (by decide))) (k1 _ (Or.inl (by decide))) (k5 19 (by decide) (by decide)) (k5 40 (by decide) (by decide)) (k4 23 (by decide) (by decide))
/-- one node changes -/
theorem fr_Rn {t c k : Nat} {f : Nat → Nat} {x x' z z' : fn_M} (h : fr_R t c f x z) (h1 : 1 ≤ k) (h2 : k ≤ 4) (ex : ∀ q, q ≠ 28 + k → q ≠ 32 + k → q ≠ 36 + k → q ≠ 40 + k → x' q = x q)
    (ez : ∀ q, q = 0 ∨ 9 < q → z' q = z q) (ej : ∀ q j, q ≠ 0 → q ≠ 2 → q ≤ 9 → j ≠ k → z' q j = z q j) (eo : ∀ j, j < 16 * k ∨ 16 * k + 16 ≤ j → z' 2 j = z 2 j) (hn' : fr_n t k x' z') : fr_R t c f x' z' := by
  obtain ⟨hb, hn, hm, hcl, hp⟩ := h
  refine ⟨fr_b_cg hb (fun q a b => ex q (by omega) (by omega) (by omega) (by omega)) (fun j _ => by rw [ez 0 (by decide)]) (fun q a b => ez q (by omega)), ?_, ?_, ?_, ?_⟩
  · intro k' a b
    by_cases e : k' = k
    · subst e
      exact hn'
    · exact fr_n_cg (hn k' a b) (ex _ (by omega) (by omega) (by omega) (by omega)) (ex _ (by omega) (by omega) (by omega) (by omega)) (ex _ (by omega) (by omega) (by omega) (by omega)) (ex _ (by omega) (by omega) (by omega) (by omega)) (fun q a b c => ej q k' a b c e) (fun j hj => eo _ (by omega))
  · intro k' a b
    exact fr_m_cg (hm k' a b) (ex _ (by omega) (by omega) (by omega) (by omega)) (ex _ (by omega) (by omega) (by omega) (by omega)) (ex _ (by omega) (by omega) (by omega) (by omega)) (fun q a => by rw [ez q (by omega)]) (fun j hj => by rw [ez 18 (by decide), ez 19 (by decide)]; exact ⟨rfl, rfl⟩)
  · exact fr_c_cg hcl (ex _ (by omega) (by omega) (by omega) (by omega)) (ex _ (by omega) (by omega) (by omega) (by omega)) (fun n a b => by rw [ex (48 + n) (by omega) (by omega) (by omega) (by omega)]; exact ⟨rfl, rfl⟩) (fun j a b => by rw [ez 0 (by decide)]) (ez 22 (by decide))
  · exact fr_p_cg hp (ex _ (by omega) (by omega) (by omega) (by omega)) (ex _ (by omega) (by omega) (by omega) (by omega)) (by rw [ez 0 (by decide)]) (by rw [ez 0 (by decide)]) (ez 23 (by decide))
/-- what the master holds of one node changes; what the client needs of it is said anew -/
theorem fr_Rm {t c k : Nat} {f : Nat → Nat} {x x' z z' : fn_M} (h : fr_R t c f x z) (h1 : 1 ≤ k) (h2 : k ≤ 4) (ex : ∀ q, q ≠ 48 + k → q ≠ 52 + k → q ≠ 56 + k → x' q = x q)
    (ez : ∀ q, q < 15 ∨ 21 < q → z' q = z q) (ej : ∀ q j, q = 15 ∨ q = 16 ∨ q = 17 ∨ q = 20 ∨ q = 21 → j ≠ k → z' q j = z q j) (eo : ∀ j, j < 3 * k ∨ 3 * k + 3 ≤ j → z' 18 j = z 18 j ∧ z' 19 j = z 19 j) (hm' : fr_m t k x' z') (hc' : fr_c x' z') : fr_R t c f x' z' := by
  obtain ⟨hb, hn, hm, hcl, hp⟩ := h
  refine ⟨fr_b_cg hb (fun q a b => ex q (by omega) (by omega) (by omega)) (fun j _ => by rw [ez 0 (by decide)]) (fun q a b => ez q (by omega)), ?_, ?_, hc', ?_⟩
  · intro k' a b
    exact fr_n_cg (hn k' a b) (ex _ (by omega) (by omega) (by omega)) (ex _ (by omega) (by omega) (by omega)) (ex _ (by omega) (by omega) (by omega)) (ex _ (by omega) (by omega) (by omega)) (fun q a b c => by rw [ez q (by omega)]) (fun j hj => by rw [ez 2 (by decide)])
  · intro k' a b
    by_cases e : k' = k
    · subst e
      exact hm'
    · exact fr_m_cg (hm k' a b) (ex _ (by omega) (by omega) (by omega)) (ex _ (by omega) (by omega) (by omega)) (ex _ (by omega) (by omega) (by omega)) (fun q a => ej q k' a e) (fun j hj => eo _ (by omega))
  · exact fr_p_cg hp (ex _ (by omega) (by omega) (by omega)) (ex _ (by omega) (by omega) (by omega)) (by rw [ez 0 (by decide)]) (by rw [ez 0 (by decide)]) (ez 23 (by decide))
/-- the client changes -/
theorem fr_Rc {t c : Nat} {f : Nat → Nat} {x x' z z' : fn_M} (h : fr_R t c f x z) (ex : ∀ q, q ≠ 46 → q ≠ 47 → x' q = x q) (ez : ∀ q, q ≠ 0 → q ≠ 22 → z' q = z q) (e0 : ∀ j, j < 27 ∨ 38 < j → z' 0 j = z 0 j) (hc' : fr_c x' z') : fr_R t c f x' z' := by
  obtain ⟨hb, hn, hm, hcl, hp⟩ := h
  refine ⟨fr_b_cg hb (fun q a b => ex q (by omega) (by omega)) (fun j _ => e0 j (by omega)) (fun q a b => ez q (by omega) (by omega)), ?_, ?_, hc', ?_⟩
  · intro k' a b
    exact fr_n_cg (hn k' a b) (ex _ (by omega) (by omega)) (ex _ (by omega) (by omega)) (ex _ (by omega) (by omega)) (ex _ (by omega) (by omega)) (fun q a b c => by rw [ez q (by omega) (by omega)]) (fun j hj => by rw [ez 2 (by decide) (by decide)])
  · intro k' a b
    exact fr_m_cg (hm k' a b) (ex _ (by omega) (by omega)) (ex _ (by omega) (by omega)) (ex _ (by omega) (by omega)) (fun q a => by rw [ez q (by omega) (by omega)]) (fun j hj => by rw [ez 18 (by decide) (by decide), ez 19 (by decide) (by decide)]; exact ⟨rfl, rfl⟩)
  · exact fr_p_cg hp (ex _ (by omega) (by omega)) (ex _ (by omega) (by omega)) (e0 19 (by decide)) (e0 40 (by decide)) (ez 23 (by decide) (by decide))
/-- the reports change -/
theorem fr_Rp {t c : Nat} {f : Nat → Nat} {x x' z z' : fn_M} (h : fr_R t c f x z) (ex : ∀ q, q ≠ 45 → q ≠ 61 → x' q = x q) (ez : ∀ q, q ≠ 0 → q ≠ 23 → z' q = z q) (e0 : ∀ j, j ≠ 19 → j ≠ 40 → z' 0 j = z 0 j) (hp' : fr_p x' z') : fr_R t c f x' z' := by
  obtain ⟨hb, hn, hm, hcl, hp⟩ := h
  refine ⟨fr_b_cg hb (fun q a b => ex q (by omega) (by omega)) (fun j _ => e0 j (by omega) (by omega)) (fun q a b => ez q (by omega) (by omega)), ?_, ?_, ?_, hp'⟩
  · intro k' a b
    exact fr_n_cg (hn k' a b) (ex _ (by omega) (by omega)) (ex _ (by omega) (by omega)) (ex _ (by omega) (by omega)) (ex _ (by omega) (by omega)) (fun q a b c => by rw [ez q (by omega) (by omega)]) (fun j hj => by rw [ez 2 (by decide) (by decide)])
  · intro k' a b
    exact fr_m_cg (hm k' a b) (ex _ (by omega) (by omega)) (ex _ (by omega) (by omega)) (ex _ (by omega) (by omega)) (fun q a => by rw [ez q (by omega) (by omega)]) (fun j hj => by rw [ez 18 (by decide) (by decide), ez 19 (by decide) (by decide)]; exact ⟨rfl, rfl⟩)
  · exact fr_c_cg hcl (ex _ (by omega) (by omega)) (ex _ (by omega) (by omega)) (fun n a b => by rw [ex (48 + n) (by omega) (by omega)]; exact ⟨rfl, rfl⟩) (fun j a b => e0 j (by omega) (by omega)) (ez 22 (by decide) (by decide))
