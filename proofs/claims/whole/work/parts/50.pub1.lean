/-! ===== public methods: both answer alike, and the relation holds again ===== -/
def fr_pub (t : Nat) (o1 o2 : Option fn_R) : Prop := ∃ x' z' c' f' v, o1 = some (x', some (.int v)) ∧ o2 = some (z', some (.int v)) ∧ fr_R t c' f' x' z'
section FPU
variable {t c : Nat} {f : Nat → Nat} {x z : fn_M}
theorem fr_nodeB : ∀ k, k ≤ 4 → 1 ≤ k → fn_lc 0 (28 + k) = 5 := by decide +kernel
theorem fp_state (h : fr_R t c f x z) (n d n1 d1 : Nat) (a : Int32) : fr_pub t (fn_ev 0 (n + 2000) (d + 2) 73 [.ref 0, .int a] x) (fn_ev 1 (n1 + 2000) (d1 + 2) 128 [.ref 0, .int a] z) := by
  rw [ft_Net_state n (d + 1), ft_Model_state n1 (d1 + 1), fe_nd0, fe_nd1, fb_i, fb_i]
  by_cases w : fr_w a 1 4 = 0
  · rw [if_pos w, if_pos w]
    exact ⟨x, z, c, f, _, rfl, rfl, h⟩
  · obtain ⟨k, k1, k2, rfl⟩ := fr_bt (lo := 1) (hi := 4) (by decide) (by decide) (fr_no1 (fr_w01 _ _ _) w)
    have hcl : (nI k).toNatClampNeg = k := fr_cl (by omega)
    have hix : ¬ (nI k < 0 ∨ 5 ≤ k) := by have := fr_ix (c := k) (N := 5) (by omega) (by decide); rwa [hcl] at this
    have h14 : 1 ≤ k ∧ k ≤ 4 := ⟨k1, k2⟩
    rw [if_neg w, if_neg w]
    simp only [hcl, if_neg hix, if_pos h14, if_pos (fr_nodeB k k2 k1)]
    rw [(h.2.1 k k1 k2).2.1]
    exact ⟨x, z, c, f, _, rfl, rfl, h⟩
theorem fp_phase (h : fr_R t c f x z) (n d n1 d1 : Nat) (a : Int32) : fr_pub t (fn_ev 0 (n + 2000) (d + 2) 74 [.ref 0, .int a] x) (fn_ev 1 (n1 + 2000) (d1 + 2) 129 [.ref 0, .int a] z) := by
  rw [ft_Net_phase n (d + 1), ft_Model_phase n1 (d1 + 1), fe_nd0, fe_nd1, fb_i, fb_i]
  by_cases w : fr_w a 1 4 = 0
  · rw [if_pos w, if_pos w]
    exact ⟨x, z, c, f, _, rfl, rfl, h⟩
  · obtain ⟨k, k1, k2, rfl⟩ := fr_bt (lo := 1) (hi := 4) (by decide) (by decide) (fr_no1 (fr_w01 _ _ _) w)
    have hcl : (nI k).toNatClampNeg = k := fr_cl (by omega)
    have hix : ¬ (nI k < 0 ∨ 5 ≤ k) := by have := fr_ix (c := k) (N := 5) (by omega) (by decide); rwa [hcl] at this
    have h14 : 1 ≤ k ∧ k ≤ 4 := ⟨k1, k2⟩
    rw [if_neg w, if_neg w]
    simp only [hcl, if_neg hix, if_pos h14, if_pos (fr_mb k k2 k1)]
    rw [(h.2.2.1 k k1 k2).2.2.2.2.1]
    exact ⟨x, z, c, f, _, rfl, rfl, h⟩
theorem fp_sync (h : fr_R t c f x z) (n d n1 d1 : Nat) (a : Int32) : fr_pub t (fn_ev 0 (n + 2000) (d + 2) 68 [.ref 0, .int a] x) (fn_ev 1 (n1 + 2000) (d1 + 2) 123 [.ref 0, .int a] z) := by
  rw [ft_Net_sync n (d + 1), ft_Model_sync n1 (d1 + 1), fe_w0, fe_w1, fb_i, fb_i]
  by_cases w : fr_w a 0 20 = 0
  · rw [if_pos w, if_pos w]
    exact ⟨x, z, c, f, _, rfl, rfl, h⟩
  · obtain ⟨k, k1, k2, rfl⟩ := fr_bt (lo := 0) (hi := 20) (by decide) (by decide) (fr_no1 (fr_w01 _ _ _) w)
    rw [if_neg w, if_neg w]
    refine ⟨_, _, c, f, _, rfl, rfl, fr_Rp h (fun q b1 b2 => fw_row b1) (fun q b1 b2 => fw_row b1) (fun j b1 b2 => fw_nj b1) ?_⟩
    obtain ⟨p1, p2, p3⟩ := h.2.2.2.2
    unfold fr_p
    simp (disch := omega) only [fw_any, fw_eq, fw_row]
    exact ⟨trivial, ⟨k, k2, rfl⟩, p3⟩
theorem fp_disturb (h : fr_R t c f x z) (n d n1 d1 : Nat) (a : Int32) : fr_pub t (fn_ev 0 (n + 2000) (d + 2) 70 [.ref 0, .int a] x) (fn_ev 1 (n1 + 2000) (d1 + 2) 125 [.ref 0, .int a] z) := by
  rw [ft_Net_disturb n (d + 1), ft_Model_disturb n1 (d1 + 1), fe_w0, fe_w1, fb_i, fb_i]
  by_cases w : fr_w a 0 9 = 0
  · rw [if_pos w, if_pos w]
    exact ⟨x, z, c, f, _, rfl, rfl, h⟩
  · rw [if_neg w, if_neg w]
    obtain ⟨⟨hc, h1, h2, h3, h4, h5, h6, h7, h8, h9, h10, h11, h12, ht⟩, hn, hm, hcl, hp⟩ := h
    refine ⟨_, _, c, f, _, rfl, rfl, ⟨hc, ?_, ?_, ?_, ?_, ?_, ?_, ?_, h8, h9, ?_, ?_, ?_, ht⟩, fun k b1 b2 => ?_, fun k b1 b2 => ?_, ?_, ?_⟩
    · rw [fw_nj (by decide)]; exact h1
    · rw [fw_nj (by decide)]; exact h2
    · rw [fw_nj (by decide)]; exact h3
    · rw [fw_nj (by decide)]; exact h4
    · rw [fw_nj (by decide), fw_nj (by decide)]; exact h5
    · rw [fw_nj (by decide), fw_nj (by decide)]; exact h6
    · rw [fw_eq, fw_eq]
    · intro i hi
      rw [fw_ne (by decide)]
      exact h10 i hi
    · rw [fw_nj (by decide)]; exact h11
    · intro i hi
      have := h8 i (by omega)
      simp (disch := omega) only [fw_any]
      exact h12 i hi
    · exact fr_n_cg (hn k b1 b2) (fw_row (by omega)) (fw_row (by omega)) (fw_row (by omega)) (fw_row (by omega)) (fun q b1 b2 b3 => fw_ne b1) (fun j hj => fw_ne (by decide))
    · exact fr_m_cg (hm k b1 b2) (fw_row (by omega)) (fw_row (by omega)) (fw_row (by omega)) (fun q b => fw_ne (by omega)) (fun j hj => ⟨fw_ne (by decide), fw_ne (by decide)⟩)
    · exact fr_c_cg hcl (fw_row (by decide)) (fw_row (by decide)) (fun n b1 b2 => ⟨fw_ne (by omega), fw_ne (by omega)⟩) (fun j b1 b2 => fw_nj (by omega)) (fw_row (by decide))
    · exact fr_p_cg hp (fw_row (by decide)) (fw_row (by decide)) (fw_nj (by decide)) (fw_nj (by decide)) (fw_row (by decide))
end FPU
