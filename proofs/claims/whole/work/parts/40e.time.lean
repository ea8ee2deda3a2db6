section FTI
variable {t c : Nat} {f : Nat → Nat} {x z : fn_M}
theorem fr_at_up {v : Int32} (h : fr_at t v) : fr_at (t + 1) v := by
  obtain ⟨b, b1, b2⟩ := h
  exact ⟨b, by omega, b2⟩
theorem fr_ever_up {v : Int32} (h : fr_ever t v) : fr_ever (t + 1) v := h.imp id fr_at_up
/-- the time goes on -/
theorem fr_s_now (h : fr_R t c f x z) (ht : t + 1 ≤ 1000) : fr_R (t + 1) c f (fn_w x 1 6 (nI (t + 1))) (fn_w z 0 0 (nI (t + 1))) := by
  obtain ⟨⟨hc, h1, h2, h3, h4, h5, h6, h7, h8, h9, h10, h11, h12, -⟩, hn, hm, hcl, hp⟩ := h
  refine ⟨⟨hc, ?_, ?_, ?_, ?_, ?_, ?_, ?_, h8, h9, ?_, ?_, ?_, ht⟩, fun k b1 b2 => ?_, fun k b1 b2 => ?_, ?_, ?_⟩
  · rw [fw_nj (by decide)]; exact h1
  · rw [fw_nj (by decide)]; exact h2
  · exact fw_eq
  · exact fw_eq
  · rw [fw_nj (by decide), fw_nj (by decide)]; exact h5
  · rw [fw_nj (by decide), fw_nj (by decide)]; exact h6
  · rw [fw_nj (by decide), fw_nj (by decide)]; exact h7
  · intro i hi
    rw [fw_ne (by decide)]
    exact h10 i hi
  · rw [fw_nj (by decide)]; exact h11
  · intro i hi
    have := h8 i (by omega)
    simp (disch := omega) only [fw_any]
    exact h12 i hi
  · obtain ⟨a1, a2, a3, a4, a5, a6, a7, a8, a9, a10, a11, a12, a13, a14, a15⟩ := fr_n_cg (x' := fn_w x 1 6 (nI (t + 1))) (z' := fn_w z 0 0 (nI (t + 1))) (hn k b1 b2) (fw_row (by omega)) (fw_row (by omega)) (fw_row (by omega)) (fw_row (by omega)) (fun q b1 b2 b3 => fw_ne b1) (fun j hj => fw_ne (by decide))
    exact ⟨a1, a2, a3, a4, a5, a6, fr_at_up a7, a8, fr_ever_up a9, a10, a11, a12, fr_ever_up a13, a14, a15⟩
  · obtain ⟨a1, a2, a3, a4, a5, a6, a7, a8⟩ := fr_m_cg (x' := fn_w x 1 6 (nI (t + 1))) (z' := fn_w z 0 0 (nI (t + 1))) (hm k b1 b2) (fw_row (by omega)) (fw_row (by omega)) (fw_row (by omega)) (fun q b => fw_ne (by omega)) (fun j hj => ⟨fw_ne (by decide), fw_ne (by decide)⟩)
    exact ⟨a1, a2, a3, a4, a5, a6, fr_ever_up a7, a8⟩
  · exact fr_c_cg hcl (fw_row (by decide)) (fw_row (by decide)) (fun n b1 b2 => ⟨fw_ne (by omega), fw_ne (by omega)⟩) (fun j b1 b2 => fw_nj (by omega)) (fw_row (by decide))
  · exact fr_p_cg hp (fw_row (by decide)) (fw_row (by decide)) (fw_nj (by decide)) (fw_nj (by decide)) (fw_row (by decide))
end FTI
