section FPW
variable {t c : Nat} {f : Nat → Nat} {x z : fn_M}
theorem fr_pre {g : Nat} (hg : g ≤ 80) (a : Int32) : nI g - 1 < a ↔ nI g ≤ a := by
  cases g with
  | zero =>
    rw [show nI 0 - 1 = -1 from rfl, show nI 0 = 0 from rfl, Int32.lt_iff_toInt_lt, Int32.le_iff_toInt_le, show (-1 : Int32).toInt = -1 from rfl, Int32.toInt_zero]
    omega
  | succ g =>
    rw [nI_pred, Int32.lt_iff_toInt_lt, Int32.le_iff_toInt_le, nI_toInt (by omega), nI_toInt (by omega)]
    omega
theorem fp_report (h : fr_R t c f x z) (n d n1 d1 : Nat) (a : Int32) : fr_pub t (fn_ev 0 (n + 2000) (d + 3) 77 [.ref 0, .int a] x) (fn_ev 1 (n1 + 2000) (d1 + 1) 132 [.ref 0, .int a] z) := by
  have ok : ∀ v : Int32, fr_pub t (some (x, some (.int v))) (some (z, some (.int v))) := fun v => ⟨x, z, c, f, v, rfl, rfl, h⟩
  obtain ⟨-, -, g, g1, g2, g3, g4⟩ := h.2.2.2.2
  rw [ft_Net_report n (d + 2), ft_Master_reportAt n (d + 1), ft_Model_report n1 d1, g2, g3]
  by_cases e : a = -1
  · rw [if_pos e, if_pos e, fb_i]
    exact ok _
  · rw [if_neg e, if_neg e, fe_w0, fb_i]
    by_cases l : a < 0
    · rw [if_pos l, if_pos (show fr_w a 0 (nI g - 1) = 0 by unfold fr_w; rw [if_pos l]), fb_i]
      exact ok _
    · rw [if_neg l]
      by_cases q : nI g ≤ a
      · rw [if_pos q, if_pos (show fr_w a 0 (nI g - 1) = 0 by unfold fr_w; rw [if_neg l, if_pos ((fr_pre g1 a).mpr q)]), fb_i]
        exact ok _
      · have w : ¬ fr_w a 0 (nI g - 1) = 0 := by
          unfold fr_w
          rw [if_neg l, if_neg (fun r => q ((fr_pre g1 a).mp r))]
          decide
        obtain ⟨j, j1, rfl⟩ := nI_of l
        have jg : j < g := Nat.lt_of_not_le fun r => q (nI_le r j1)
        have hcl : (nI j).toNatClampNeg = j := fr_cl (by omega)
        have hix : ¬ (nI j < 0 ∨ 80 ≤ j) := by have := fr_ix (c := j) (N := 80) (by omega) (by decide); rwa [hcl] at this
        rw [if_neg w, if_neg q]
        simp only [hcl, if_neg hix]
        rw [fb_i, g4 j jg]
        exact ok _
end FPW
