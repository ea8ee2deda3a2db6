section FPV
variable {t c : Nat} {f : Nat → Nat} {x z : fn_M}
theorem fp_client (h : fr_R t c f x z) (n d n1 d1 : Nat) (a : Int32) : fr_pub t (fn_ev 0 (n + 2000) (d + 2) 75 [.ref 0, .int a] x) (fn_ev 1 (n1 + 2000) (d1 + 1) 130 [.ref 0, .int a] z) := by
  have ok : ∀ v : Int32, fr_pub t (some (x, some (.int v))) (some (z, some (.int v))) := fun v => ⟨x, z, c, f, v, rfl, rfl, h⟩
  obtain ⟨d1', d2', -, -⟩ := h.2.2.2.1
  rw [ft_Net_client n (d + 1), ft_Client_detail n d, ft_Model_client n1 d1, ← d1', ← d2']
  have idle : x 46 0 = 0 → z 0 27 = 0 := fr_idle27 h
  by_cases b0 : x 46 0 = 0
  · rw [idle b0]
    simp only [if_pos b0, if_pos (show (0 : Int32) ≤ 0 by decide)]
    by_cases e0 : a = 0
    · rw [if_pos e0, if_pos e0, fb_i]; exact ok _
    · by_cases e1 : a = 1
      · rw [if_neg e0, if_neg e0, if_pos e1, if_pos e1, fb_i]; exact ok _
      · by_cases e2 : a = 2
        · rw [if_neg e0, if_neg e0, if_neg e1, if_neg e1, if_pos e2, if_pos e2, fb_i]; exact ok _
        · by_cases e3 : a = 3
          · rw [if_neg e0, if_neg e0, if_neg e1, if_neg e1, if_neg e2, if_neg e2, if_pos e3, if_pos e3, fb_i]; exact ok _
          · rw [if_neg e0, if_neg e0, if_neg e1, if_neg e1, if_neg e2, if_neg e2, if_neg e3, if_neg e3]
            by_cases e4 : a = 4
            · rw [if_pos e4, if_pos e4, fb_i]; exact ok _
            · rw [if_neg e4, if_neg e4, fb_i]; exact ok _
  · obtain ⟨m, hb⟩ := fr_busy_of h b0
    have hm1 : 1 ≤ m := hb.2.1
    have hm4 : m ≤ 4 := hb.2.2.1
    have hz : ¬ nI m ≤ 0 := nI_nle (by omega) (by omega)
    rw [hb.2.2.2.2.1, hb.2.2.2.1, ← hb.2.2.2.2.2.2.1]
    simp only [if_neg b0, if_neg hz]
    by_cases e0 : a = 0
    · rw [if_pos e0, if_pos e0, fb_i]; exact ok _
    · by_cases e1 : a = 1
      · rw [if_neg e0, if_neg e0, if_pos e1, if_pos e1, fb_i]; exact ok _
      · by_cases e2 : a = 2
        · rw [if_neg e0, if_neg e0, if_neg e1, if_neg e1, if_pos e2, if_pos e2, fb_i]; exact ok _
        · by_cases e3 : a = 3
          · rw [if_neg e0, if_neg e0, if_neg e1, if_neg e1, if_neg e2, if_neg e2, if_pos e3, if_pos e3, fb_i]; exact ok _
          · rw [if_neg e0, if_neg e0, if_neg e1, if_neg e1, if_neg e2, if_neg e2, if_neg e3, if_neg e3]
            by_cases e4 : a = 4
            · rw [if_pos e4, if_pos e4, fb_i]; exact ok _
            · rw [if_neg e4, if_neg e4, fb_i]; exact ok _
end FPV
