/-! ===== public methods: text, bus, object, inject, transfer, expect, configure, fail, input ===== -/
section FPX
variable {t c : Nat} {f : Nat → Nat} {x z : fn_M}
theorem fp_text (h : fr_R t c f x z) (n d n1 d1 : Nat) (a : Int32) : fr_pub t (fn_ev 0 (n + 2000) (d + 3) 76 [.ref 0, .int a] x) (fn_ev 1 (n1 + 2000) (d1 + 1) 131 [.ref 0, .int a] z) := by
  have ok : ∀ v : Int32, fr_pub t (some (x, some (.int v))) (some (z, some (.int v))) := fun v => ⟨x, z, c, f, v, rfl, rfl, h⟩
  obtain ⟨-, -, ⟨g, g1, g2, g3, g4⟩, -⟩ := h.2.2.2.1
  rw [ft_Net_text n (d + 2), ft_Client_letter n (d + 1), ft_Model_text n1 d1, g2, g3, fe_w0, fb_i]
  by_cases l : a < 0
  · rw [if_pos l, if_pos (show fr_w a 0 (nI g - 1) = 0 by unfold fr_w; rw [if_pos l]), fb_i]
    exact ok _
  · rw [if_neg l]
    by_cases q : nI g ≤ a
    · rw [if_pos q, if_pos (show fr_w a 0 (nI g - 1) = 0 by unfold fr_w; rw [if_neg l, if_pos ((fr_pre (by omega) a).mpr q)]), fb_i]
      exact ok _
    · have w : ¬ fr_w a 0 (nI g - 1) = 0 := by
        unfold fr_w
        rw [if_neg l, if_neg (fun r => q ((fr_pre (by omega) a).mp r))]
        decide
      obtain ⟨j, j1, rfl⟩ := nI_of l
      have jg : j < g := Nat.lt_of_not_le fun r => q (nI_le r j1)
      have hcl : (nI j).toNatClampNeg = j := fr_cl (by omega)
      have hix : ¬ (nI j < 0 ∨ 12 ≤ j) := by have := fr_ix (c := j) (N := 12) (by omega) (by decide); rwa [hcl] at this
      rw [if_neg w, if_neg q]
      simp only [hcl, if_neg hix]
      rw [fb_i, g4 j jg]
      exact ok _
theorem fr_w03 {b : Int32} (h0 : ¬ b = 0) (h1 : ¬ b = 1) (h2 : ¬ b = 2) (h3 : ¬ b = 3) : fr_w b 0 3 = 0 := by
  rcases fr_w01 b 0 3 with e | e
  · exact e
  · obtain ⟨j, j1, j2, j3⟩ := fr_bt (lo := 0) (hi := 3) (by decide) (by decide) e
    exfalso
    rcases (by omega : j = 0 ∨ j = 1 ∨ j = 2 ∨ j = 3) with rfl | rfl | rfl | rfl
    · exact h0 j3
    · exact h1 j3
    · exact h2 j3
    · exact h3 j3
theorem fp_bus (h : fr_R t c f x z) (n d n1 d1 : Nat) (a b : Int32) : fr_pub t (fn_ev 0 (n + 2000) (d + 3) 78 [.ref 0, .int a, .int b] x) (fn_ev 1 (n1 + 2000) (d1 + 2) 133 [.ref 0, .int a, .int b] z) := by
  have ok : ∀ v : Int32, fr_pub t (some (x, some (.int v))) (some (z, some (.int v))) := fun v => ⟨x, z, c, f, v, rfl, rfl, h⟩
  obtain ⟨⟨hc, h1, h2, h3, h4, h5, h6, h7, h8, h9, h10, h11, h12, ht⟩, -⟩ := id h
  rw [ft_Net_bus n (d + 2), ft_Model_bus n1 (d1 + 1), h2, fe_w1, fb_i]
  by_cases e : a = -1
  · subst e
    have hlt : ¬ nI c ≤ -1 := fun q => by
      rw [Int32.le_iff_toInt_le, nI_toInt (by omega), show (-1 : Int32).toInt = -1 from rfl] at q
      omega
    rw [if_pos rfl, if_neg (show ¬ (-1 : Int32) < -1 by decide), if_neg hlt, if_neg (show ¬ (0 : Int32) ≤ -1 by decide), ft_Wire_figure n (d + 1)]
    by_cases e0 : b = 0
    · subst e0
      rw [if_pos rfl, fb_i, if_neg (show ¬ fr_w 0 0 3 = 0 by decide), if_pos rfl, h1, h2]
      exact ok _
    · by_cases e1 : b = 1
      · subst e1
        rw [if_neg (show ¬ (1 : Int32) = 0 by decide), if_pos rfl, fb_i, if_neg (show ¬ fr_w 1 0 3 = 0 by decide), if_neg (show ¬ (1 : Int32) = 0 by decide), if_pos rfl, h5]
        exact ok _
      · by_cases e2 : b = 2
        · subst e2
          rw [if_neg (show ¬ (2 : Int32) = 0 by decide), if_neg (show ¬ (2 : Int32) = 1 by decide), if_pos rfl, fb_i, if_neg (show ¬ fr_w 2 0 3 = 0 by decide), if_neg (show ¬ (2 : Int32) = 0 by decide), if_neg (show ¬ (2 : Int32) = 1 by decide), if_pos rfl, h6]
          exact ok _
        · by_cases e3 : b = 3
          · subst e3
            rw [if_neg (show ¬ (3 : Int32) = 0 by decide), if_neg (show ¬ (3 : Int32) = 1 by decide), if_neg (show ¬ (3 : Int32) = 2 by decide), if_pos rfl, fb_i, if_neg (show ¬ fr_w 3 0 3 = 0 by decide), if_neg (show ¬ (3 : Int32) = 0 by decide), if_neg (show ¬ (3 : Int32) = 1 by decide), if_neg (show ¬ (3 : Int32) = 2 by decide), h3, h4]
            exact ok _
          · rw [if_neg e0, if_neg e1, if_neg e2, if_neg e3, fb_i, if_pos (fr_w03 e0 e1 e2 e3)]
            exact ok _
  · rw [if_neg e, ft_Wire_numberOfFrame n (d + 1), h1, fe_w0, fb_i]
    by_cases l : a < 0
    · have l1 : a < -1 := by
        rw [Int32.lt_iff_toInt_lt] at l ⊢
        have : a.toInt ≠ (-1 : Int32).toInt := fun q => e (Int32.toInt_inj.mp q)
        rw [show (-1 : Int32).toInt = -1 from rfl] at this ⊢
        rw [Int32.toInt_zero] at l
        omega
      rw [if_pos l1, if_pos (show fr_w a 0 (nI c - 1) = 0 by unfold fr_w; rw [if_pos l]), fb_i]
      exact ok _
    · obtain ⟨j, j1, rfl⟩ := nI_of l
      have l1 : ¬ nI j < -1 := fun q => by
        rw [Int32.lt_iff_toInt_lt, nI_toInt j1, show (-1 : Int32).toInt = -1 from rfl] at q
        omega
      rw [if_neg l1]
      by_cases q : nI c ≤ nI j
      · rw [if_pos q, if_pos (show fr_w (nI j) 0 (nI c - 1) = 0 by unfold fr_w; rw [if_neg l, if_pos ((fr_pre (by omega) _).mpr q)]), fb_i]
        exact ok _
      · have w : ¬ fr_w (nI j) 0 (nI c - 1) = 0 := by
          unfold fr_w
          rw [if_neg l, if_neg (fun r => q ((fr_pre (by omega) _).mp r))]
          decide
        have jg : j < c := Nat.lt_of_not_le fun r => q (nI_le r j1)
        have hcl : (nI j).toNatClampNeg = j := fr_cl (by omega)
        have hix : ¬ (nI j < 0 ∨ 24 ≤ j) := by have := fr_ix (c := j) (N := 24) (by omega) (by decide); rwa [hcl] at this
        have hb := h8 j (by omega)
        have hfc : (nI (f j)).toNatClampNeg = f j := fr_cl (by omega)
        have hlc : fn_lc 0 (f j) = 2 := fr_fr _ hb.2 hb.1
        have hlb : (fn_lc 0 (f j) == 2) = true := by rw [hlc]; rfl
        obtain ⟨g1, g2, g3, g4, -⟩ := h12 j jg
        rw [if_neg w, if_neg q, if_pos (show (0 : Int32) ≤ nI j from nI_pos' (by omega))]
        simp only [hcl, if_neg hix, h10 j (by omega), hfc, if_pos hlb]
        rw [ft_Frame_numberAt n d]
        simp only [if_pos hlc]
        by_cases e0 : b = 0
        · subst e0
          rw [if_pos rfl, fb_i, fb_i, if_neg (show ¬ fr_w 0 0 3 = 0 by decide), if_pos rfl, g1]
          exact ok _
        · by_cases e1 : b = 1
          · subst e1
            rw [if_neg (show ¬ (1 : Int32) = 0 by decide), if_pos rfl, fb_i, fb_i, if_neg (show ¬ fr_w 1 0 3 = 0 by decide), if_neg (show ¬ (1 : Int32) = 0 by decide), if_pos rfl, g2]
            exact ok _
          · by_cases e2 : b = 2
            · subst e2
              rw [if_neg (show ¬ (2 : Int32) = 0 by decide), if_neg (show ¬ (2 : Int32) = 1 by decide), if_pos rfl, fb_i, fb_i, if_neg (show ¬ fr_w 2 0 3 = 0 by decide), if_neg (show ¬ (2 : Int32) = 0 by decide), if_neg (show ¬ (2 : Int32) = 1 by decide), if_pos rfl, g3]
              exact ok _
            · by_cases e3 : b = 3
              · subst e3
                rw [if_neg (show ¬ (3 : Int32) = 0 by decide), if_neg (show ¬ (3 : Int32) = 1 by decide), if_neg (show ¬ (3 : Int32) = 2 by decide), if_pos rfl, fb_i, fb_i, if_neg (show ¬ fr_w 3 0 3 = 0 by decide), if_neg (show ¬ (3 : Int32) = 0 by decide), if_neg (show ¬ (3 : Int32) = 1 by decide), if_neg (show ¬ (3 : Int32) = 2 by decide), g4]
                exact ok _
              · rw [if_neg e0, if_neg e1, if_neg e2, if_neg e3, fb_i, fb_i, if_pos (fr_w03 e0 e1 e2 e3)]
                exact ok _
theorem fr_w1516 {b : Int32} (hb : ¬ b = 16) : fr_w b 0 15 = fr_w b 0 16 := by
  have h16 : b.toInt ≠ (16 : Int32).toInt := fun q => hb (Int32.toInt_inj.mp q)
  rw [show (16 : Int32).toInt = 16 from rfl] at h16
  unfold fr_w
  by_cases l : b < 0
  · rw [if_pos l, if_pos l]
  · rw [if_neg l, if_neg l]
    have : (15 < b) = (16 < b) := by
      rw [Int32.lt_iff_toInt_lt, Int32.lt_iff_toInt_lt, show (16 : Int32).toInt = 16 from rfl, show (15 : Int32).toInt = 15 from rfl]
      exact propext ⟨fun _ => by omega, fun _ => by omega⟩
    simp only [this]
theorem fr_nodeT : ∀ k, k ≤ 4 → 1 ≤ k → (fn_lc 0 (28 + k) == 5) = true := by decide +kernel
theorem fr_membT : ∀ k, k ≤ 4 → 1 ≤ k → (fn_lc 0 (48 + k) == 4) = true := by decide +kernel
theorem fp_object (h : fr_R t c f x z) (n d n1 d1 : Nat) (a b : Int32) : fr_pub t (fn_ev 0 (n + 2000) (d + 4) 72 [.ref 0, .int a, .int b] x) (fn_ev 1 (n1 + 2000) (d1 + 3) 127 [.ref 0, .int a, .int b] z) := by
  have ok : ∀ v : Int32, fr_pub t (some (x, some (.int v))) (some (z, some (.int v))) := fun v => ⟨x, z, c, f, v, rfl, rfl, h⟩
  rw [ft_Net_object n (d + 3), ft_Model_object n1 (d1 + 2), fe_nd0, fe_nd1, fb_i, fb_i]
  by_cases w : fr_w a 1 4 = 0
  · rw [if_pos w, if_pos w]
    exact ok _
  · obtain ⟨k, k1, k2, rfl⟩ := fr_bt (lo := 1) (hi := 4) (by decide) (by decide) (fr_no1 (fr_w01 _ _ _) w)
    have hcl : (nI k).toNatClampNeg = k := fr_cl (by omega)
    have hix : ¬ (nI k < 0 ∨ 5 ≤ k) := by have := fr_ix (c := k) (N := 5) (by omega) (by decide); rwa [hcl] at this
    have h14 : 1 ≤ k ∧ k ≤ 4 := ⟨k1, k2⟩
    obtain ⟨a1, a2, a3, a4, a5, a6, a7, a8, a9, a10, a11, a12, a13, ⟨v, v1, v2, v3, v4, v5⟩, a15⟩ := h.2.1 k k1 k2
    rw [if_neg w, if_neg w]
    simp only [hcl, if_neg hix, if_pos h14, if_pos (fr_nodeT k k2 k1)]
    rw [fk_Node_valueOf n (d + 2) k1 k2, fe_w1, fb_i]
    by_cases e : b = 16
    · subst e
      rw [if_pos rfl, fe_len n d x k1 k2, fb_i, fb_i, if_neg (show ¬ fr_w 16 0 16 = 0 by decide), if_pos rfl, fe_size n1 d1 z k2 v1 (by rw [a4 0 (by decide), v2]), fb_i, v3]
      exact ok _
    · rw [if_neg e, fe_w0, fb_i, fr_w1516 e]
      by_cases w2 : fr_w b 0 16 = 0
      · rw [if_pos w2, if_pos w2, fb_i]
        exact ok _
      · obtain ⟨j, j1, j2, rfl⟩ := fr_bt (lo := 0) (hi := 16) (by decide) (by decide) (fr_no1 (fr_w01 _ _ _) w2)
        have j16 : j < 16 := by
          rcases Nat.lt_or_ge j 16 with q | q
          · exact q
          · exact absurd (by rw [show j = 16 by omega]; rfl) e
        have cj : (nI j).toNatClampNeg = j := fr_cl (by omega)
        have xj : ¬ (nI j < 0 ∨ 16 ≤ j) := by have := fr_ix (c := j) (N := 16) (by omega) (by decide); rwa [cj] at this
        rw [if_neg w2, if_neg w2, if_neg e, fe_of n1 (d1 + 1) z k2 j16 rfl, fb_i, a4 j j16]
        simp only [cj, if_neg xj]
        rw [fb_i]
        exact ok _
theorem fp_inject (h : fr_R t c f x z) (n d n1 d1 : Nat) (a b1 b2 b3 : Int32) : fr_pub t (fn_ev 0 (n + 2000) (d + 2) 69 [.ref 0, .int a, .int b1, .int b2, .int b3] x) (fn_ev 1 (n1 + 2000) (d1 + 2) 124 [.ref 0, .int a, .int b1, .int b2, .int b3] z) := by
  have ok : ∀ v : Int32, fr_pub t (some (x, some (.int v))) (some (z, some (.int v))) := fun v => ⟨x, z, c, f, v, rfl, rfl, h⟩
  obtain ⟨⟨hc, h1, h2, -⟩, -⟩ := id h
  rw [ft_Net_inject n (d + 1), ft_Model_inject n1 (d1 + 1), fe_w0, fe_w1, fb_i, fb_i]
  by_cases w : fr_w a 0 2047 = 0
  · rw [if_pos w, if_pos w]
    exact ok _
  · rw [if_neg w, if_neg w, ft_Wire_isFull n d, h1, h2]
    by_cases e : c = 24
    · subst e
      rw [if_neg (by decide), fb_i, if_neg fr_10, if_pos (show nI 24 = (24 : Int32) from rfl)]
      exact ok _
    · obtain ⟨y, y', c', q1, q2, q3, q4⟩ := fr_Rput h n d n1 d1 (-1) a b1 b2 b3 5 (Or.inl ⟨rfl, rfl⟩)
      rw [if_pos (show nI c < 24 from nI_lt (b := 24) (by omega) (by decide)), fb_i, if_pos rfl, if_neg (show ¬ nI c = 24 from fun q => e ((fr_eq (b := 24) (by omega) (by decide)).mp q)), q1, q2, fb_v, fb_v]
      exact ⟨y, y', c', f, _, rfl, rfl, q3⟩
theorem fp_transfer (h : fr_R t c f x z) (n d n1 d1 : Nat) (a b w v : Int32) (hw : w = 0 ∨ w = 1) : fr_pub t (fn_ev 0 (n + 2000) (d + 4) 67 [.ref 0, .int a, .int b, .int w, .int v] x) (fn_ev 1 (n1 + 2000) (d1 + 4) 122 [.ref 0, .int a, .int b, .int w, .int v] z) := by
  have ok : ∀ v : Int32, fr_pub t (some (x, some (.int v))) (some (z, some (.int v))) := fun v => ⟨x, z, c, f, v, rfl, rfl, h⟩
  rw [ft_Net_transfer n (d + 3), ft_Model_transfer n1 (d1 + 3), fe_nd0, fe_nd1, fb_i, fb_i]
  by_cases w1 : fr_w a 1 4 = 0
  · rw [if_pos w1, if_pos w1]
    exact ok _
  · rw [if_neg w1, if_neg w1, fe_w0, fe_w1, fb_i, fb_i]
    by_cases w2 : fr_w b 0 31 = 0
    · rw [if_pos w2, if_pos w2]
      exact ok _
    · rw [if_neg w2, if_neg w2]
      by_cases b0 : x 46 0 = 0
      · have z27 := fr_idle27 h b0
        obtain ⟨k, k1, k2, rfl⟩ := fr_bt (lo := 1) (hi := 4) (by decide) (by decide) (fr_no1 (fr_w01 _ _ _) w1)
        have h3 := fr_s_fb h b0 z27 0
        rw [if_pos b0, z27, if_pos (show (0 : Int32) ≤ 0 by decide), ft_Master_beginForCaller n (d + 2)]
        rcases hw with rfl | rfl
        · obtain ⟨y, y', c', q1, q2, q3, q4⟩ := fr_beg h3 k1 k2 n d n1 d1 b 0 0 2 0 (Or.inl ⟨rfl, rfl⟩) fw_eq (Or.inl rfl)
          rw [if_pos rfl, if_pos rfl, ft_Client_beginRead n (d + 1), q1, q2, fb_v, fb_v, fb_v]
          exact ⟨y, y', c', f, _, rfl, rfl, q3⟩
        · obtain ⟨y, y', c', q1, q2, q3, q4⟩ := fr_beg h3 k1 k2 n d n1 d1 b v 1 1 0 (Or.inr ⟨rfl, rfl⟩) fw_eq (Or.inl rfl)
          rw [if_neg fr_10, if_neg fr_10, ft_Client_beginWrite n (d + 1), q1, q2, fb_v, fb_v, fb_v]
          exact ⟨y, y', c', f, _, rfl, rfl, q3⟩
      · obtain ⟨m, hb⟩ := fr_busy_of h b0
        have hm1 : 1 ≤ m := hb.2.1
        have hm4 : m ≤ 4 := hb.2.2.1
        rw [if_neg b0, hb.2.2.2.2.1, if_neg (nI_nle (by omega) (by omega))]
        exact ok _
theorem fp_expect (h : fr_R t c f x z) (n d n1 d1 : Nat) (a b v : Int32) : fr_pub t (fn_ev 0 (n + 2000) (d + 2) 65 [.ref 0, .int a, .int b, .int v] x) (fn_ev 1 (n1 + 2000) (d1 + 2) 120 [.ref 0, .int a, .int b, .int v] z) := by
  have ok : ∀ v : Int32, fr_pub t (some (x, some (.int v))) (some (z, some (.int v))) := fun v => ⟨x, z, c, f, v, rfl, rfl, h⟩
  rw [ft_Net_expect n (d + 1), ft_Model_expect n1 (d1 + 1), fe_nd0, fe_nd1, fb_i, fb_i]
  by_cases w1 : fr_w a 1 4 = 0
  · rw [if_pos w1, if_pos w1]
    exact ok _
  · rw [if_neg w1, if_neg w1, fe_w0, fe_w1, fb_i, fb_i]
    by_cases w2 : fr_w b (-1) 9999 = 0
    · rw [if_pos w2, if_pos w2]
      exact ok _
    · rw [if_neg w2, if_neg w2, fe_w0, fe_w1, fb_i, fb_i]
      by_cases w3 : fr_w v 0 50 = 0
      · rw [if_pos w3, if_pos w3]
        exact ok _
      · obtain ⟨k, k1, k2, rfl⟩ := fr_bt (lo := 1) (hi := 4) (by decide) (by decide) (fr_no1 (fr_w01 _ _ _) w1)
        obtain ⟨u, u1, u2, rfl⟩ := fr_bt (lo := 0) (hi := 50) (by decide) (by decide) (fr_no1 (fr_w01 _ _ _) w3)
        have hcl : (nI k).toNatClampNeg = k := fr_cl (by omega)
        have hix : ¬ (nI k < 0 ∨ 5 ≤ k) := by have := fr_ix (c := k) (N := 5) (by omega) (by decide); rwa [hcl] at this
        have h14 : 1 ≤ k ∧ k ≤ 4 := ⟨k1, k2⟩
        rw [if_neg w3, if_neg w3]
        simp only [hcl, if_neg hix, if_pos h14, if_pos (fr_membT k k2 k1)]
        rw [fk_Member_expectAnew n d k1 k2, fb_v]
        obtain ⟨a1, a2, a3, a4, a5, a6, a7, a8⟩ := h.2.2.1 k k1 k2
        refine ⟨_, _, c, f, _, rfl, rfl, fr_Rm h k1 k2 (fun q b1 b2 b3 => ?_) (fun q b1 => ?_) (fun q j b1 b2 => ?_) (fun j b1 => ?_) ?_ ?_⟩
        · simp (disch := omega) only [fw_row]
        · simp (disch := omega) only [fw_row]
        · simp (disch := omega) only [fw_any]
        · simp (disch := omega) only [fw_any]
          exact ⟨trivial, trivial⟩
        · unfold fr_m
          simp (disch := omega) only [fw_any, fw_eq, fw_row]
          refine ⟨trivial, ?_, trivial, ⟨u, u2, rfl⟩, a5, a6, a7, 0, by decide, nI_0.symm, nI_0.symm, fun i hi => absurd hi (by omega)⟩
          have := (fr_w1 (fr_no1 (fr_w01 _ _ _) w2)).1
          rw [Int32.lt_iff_toInt_lt] at this
          rw [Int32.le_iff_toInt_le]
          omega
        · refine fr_c_cg h.2.2.2.1 ?_ ?_ (fun n b1 b2 => ?_) (fun j b1 b2 => ?_) ?_
          · simp (disch := omega) only [fw_row]
          · simp (disch := omega) only [fw_row]
          · by_cases e : n = k
            · subst e
              simp (disch := omega) only [fw_any]
              exact ⟨trivial, trivial⟩
            · simp (disch := omega) only [fw_any]
              exact ⟨trivial, trivial⟩
          · simp (disch := omega) only [fw_any]
          · simp (disch := omega) only [fw_row]
theorem fp_configure (h : fr_R t c f x z) (n d n1 d1 : Nat) (a b v : Int32) : fr_pub t (fn_ev 0 (n + 2000) (d + 3) 66 [.ref 0, .int a, .int b, .int v] x) (fn_ev 1 (n1 + 2000) (d1 + 2) 121 [.ref 0, .int a, .int b, .int v] z) := by
  have ok : ∀ v : Int32, fr_pub t (some (x, some (.int v))) (some (z, some (.int v))) := fun v => ⟨x, z, c, f, v, rfl, rfl, h⟩
  rw [ft_Net_configure n (d + 2), ft_Model_configure n1 (d1 + 1), fe_nd0, fe_nd1, fb_i, fb_i]
  by_cases w1 : fr_w a 1 4 = 0
  · rw [if_pos w1, if_pos w1]
    exact ok _
  · obtain ⟨k, k1, k2, rfl⟩ := fr_bt (lo := 1) (hi := 4) (by decide) (by decide) (fr_no1 (fr_w01 _ _ _) w1)
    have hcl : (nI k).toNatClampNeg = k := fr_cl (by omega)
    have hix : ¬ (nI k < 0 ∨ 5 ≤ k) := by have := fr_ix (c := k) (N := 5) (by omega) (by decide); rwa [hcl] at this
    have h14 : 1 ≤ k ∧ k ≤ 4 := ⟨k1, k2⟩
    obtain ⟨a1, a2, a3, a4, a5, a6, a7, w, u1, u2, u3, u4⟩ := h.2.2.1 k k1 k2
    rw [if_neg w1, if_neg w1, fe_w0, fe_w1, fb_i]
    simp only [hcl, if_neg hix, if_pos h14, if_pos (fr_membT k k2 k1)]
    rw [fb_i, ← a1]
    have hneg : x (48 + k) 0 < 0 ↔ x (48 + k) 0 = -1 := by
      rw [Int32.le_iff_toInt_le] at a2
      rw [Int32.lt_iff_toInt_lt, ← Int32.toInt_inj]
      rw [show (-1 : Int32).toInt = -1 from rfl] at a2 ⊢
      rw [Int32.toInt_zero]
      omega
    by_cases w2 : fr_w b 0 16 = 0
    · rw [if_pos w2, if_pos w2]
      by_cases e : x (48 + k) 0 < 0
      · rw [if_pos e]
        exact ok _
      · rw [if_neg e]
        exact ok _
    · rw [if_neg w2, if_neg w2, fk_Member_addWrite n (d + 1) k1 k2, fk_Member_isExpected n d k1 k2]
      by_cases e : x (48 + k) 0 = -1
      · rw [if_pos e, if_pos (hneg.mpr e), fb_i, if_pos rfl, fb_i, if_pos rfl]
        exact ok _
      · rw [if_neg e, if_neg (fun q => e (hneg.mp q)), fb_i, if_neg fr_10, u2, u3]
        by_cases e3 : w = 3
        · subst e3
          rw [if_neg (by decide), if_pos (show nI 3 = (3 : Int32) from rfl), fb_i, if_pos rfl]
          exact ok _
        · have cw : (nI w).toNatClampNeg = w := fr_cl (by omega)
          have xw : ¬ (nI w < 0 ∨ 3 ≤ w) := by have := fr_ix (c := w) (N := 3) (by omega) (by decide); rwa [cw] at this
          have c3 : (nI (3 * k + w)).toNatClampNeg = 3 * k + w := fr_cl (by omega)
          have x3 : ¬ (nI (3 * k + w) < 0 ∨ 15 ≤ 3 * k + w) := by have := fr_ix (c := 3 * k + w) (N := 15) (by omega) (by decide); rwa [c3] at this
          rw [if_pos (show nI w < 3 from nI_lt (b := 3) (by omega) (by decide)), if_neg (show ¬ nI w = 3 from fun q => e3 ((fr_eq (b := 3) (by omega) (by decide)).mp q)), fr_3]
          simp only [cw, if_neg xw, c3, if_neg x3]
          rw [fb_i, if_neg fr_10, nI_1]
          refine ⟨_, _, c, f, _, rfl, rfl, fr_Rm h k1 k2 (fun q b1 b2 b3 => ?_) (fun q b1 => ?_) (fun q j b1 b2 => ?_) (fun j b1 => ?_) ?_ ?_⟩
          · simp (disch := omega) only [fw_row]
          · simp (disch := omega) only [fw_row]
          · simp (disch := omega) only [fw_any]
          · simp (disch := omega) only [fw_any]
            exact ⟨trivial, trivial⟩
          · unfold fr_m
            simp (disch := omega) only [fw_any, fw_eq, fw_row]
            refine ⟨a1, a2, a3, a4, a5, a6, a7, w + 1, by omega, rfl, rfl, fun i hi => ?_⟩
            by_cases ei : i = w
            · subst ei
              rw [fw_eq, fw_eq, fw_eq, fw_eq]
              exact ⟨rfl, rfl⟩
            · simp (disch := omega) only [fw_any]
              exact u4 i (by omega)
          · refine fr_c_cg h.2.2.2.1 ?_ ?_ (fun n b1 b2 => ?_) (fun j b1 b2 => ?_) ?_
            · simp (disch := omega) only [fw_row]
            · simp (disch := omega) only [fw_row]
            · by_cases e : n = k
              · subst e
                simp (disch := omega) only [fw_any]
                exact ⟨trivial, trivial⟩
              · simp (disch := omega) only [fw_any]
                exact ⟨trivial, trivial⟩
            · simp (disch := omega) only [fw_any]
            · simp (disch := omega) only [fw_row]
theorem fp_fail (h : fr_R t c f x z) (n d n1 d1 : Nat) (a b : Int32) : fr_pub t (fn_ev 0 (n + 2000) (d + 3) 64 [.ref 0, .int a, .int b] x) (fn_ev 1 (n1 + 2000) (d1 + 2) 119 [.ref 0, .int a, .int b] z) := by
  have ok : ∀ v : Int32, fr_pub t (some (x, some (.int v))) (some (z, some (.int v))) := fun v => ⟨x, z, c, f, v, rfl, rfl, h⟩
  rw [ft_Net_fail n (d + 2), ft_Model_fail n1 (d1 + 1), fe_nd0, fe_nd1, fb_i, fb_i]
  by_cases w1 : fr_w a 1 4 = 0
  · rw [if_pos w1, if_pos w1]
    exact ok _
  · obtain ⟨k, k1, k2, rfl⟩ := fr_bt (lo := 1) (hi := 4) (by decide) (by decide) (fr_no1 (fr_w01 _ _ _) w1)
    have hcl : (nI k).toNatClampNeg = k := fr_cl (by omega)
    have hix : ¬ (nI k < 0 ∨ 5 ≤ k) := by have := fr_ix (c := k) (N := 5) (by omega) (by decide); rwa [hcl] at this
    have h14 : 1 ≤ k ∧ k ≤ 4 := ⟨k1, k2⟩
    obtain ⟨a1, a2, a3, a4, a5, -⟩ := h.2.1 k k1 k2
    have c1 : (nI (16 * k + 1)).toNatClampNeg = 16 * k + 1 := fr_cl (by omega)
    have x1 : ¬ (nI (16 * k + 1) < 0 ∨ 80 ≤ 16 * k + 1) := by have := fr_ix (c := 16 * k + 1) (N := 80) (by omega) (by decide); rwa [c1] at this
    have e16 : (16 : Int32) * nI k + 1 = nI (16 * k + 1) := fr_16 k 1
    rw [if_neg w1, if_neg w1]
    simp only [hcl, if_neg hix, if_pos h14, if_pos (fr_nodeT k k2 k1)]
    rw [fk_Node_isOn n (d + 1) k1 k2, ← a2]
    by_cases s0 : x (28 + k) 3 = 0
    · rw [if_pos s0, if_pos s0, fb_i, if_pos rfl]
      exact ok _
    · rw [if_neg s0, if_neg s0, fb_i, if_neg fr_10, fe_w0, fe_w1, fb_i, fb_i]
      by_cases w2 : fr_w b 0 31 = 0
      · rw [if_pos w2, if_pos w2]
        exact ok _
      · rw [if_neg w2, if_neg w2, fk_Node_takeFailure n (d + 1) k1 k2, a1, e16]
        simp only [c1, if_neg x1]
        by_cases b0 : b = 0
        · obtain ⟨y, y', c', q1, q2, q3, q4⟩ := fr_Rput (fr_s_obj (v := 0) h k1 k2 (j := 1) (by decide) (by decide) trivial) n d n1 d1 (nI k) (128 + nI k) b 0 0 (nI k) (fr_frk k1 k2)
          rw [if_pos b0, if_pos b0, q1, q2, fb_v, fb_v, fb_v]
          exact ⟨y, y', c', f, _, rfl, rfl, q3⟩
        · obtain ⟨y, y', c', q1, q2, q3, q4⟩ := fr_Rput (fr_s_obj (v := x (32 + k) 1 ||| 2) h k1 k2 (j := 1) (by decide) (by decide) trivial) n d n1 d1 (nI k) (128 + nI k) b 0 0 (nI k) (fr_frk k1 k2)
          rw [if_neg b0, if_neg b0, fe_of (a2 := 1) n1 d1 z k2 (j := 1) (by decide) rfl, fb_i, a4 1 (by decide), q1, q2, fb_v, fb_v, fb_v]
          exact ⟨y, y', c', f, _, rfl, rfl, q3⟩
theorem fp_input (h : fr_R t c f x z) (n d n1 d1 : Nat) (a b v : Int32) : fr_pub t (fn_ev 0 (n + 2000) (d + 5) 63 [.ref 0, .int a, .int b, .int v] x) (fn_ev 1 (n1 + 2000) (d1 + 3) 118 [.ref 0, .int a, .int b, .int v] z) := by
  have ok : ∀ v : Int32, fr_pub t (some (x, some (.int v))) (some (z, some (.int v))) := fun v => ⟨x, z, c, f, v, rfl, rfl, h⟩
  rw [ft_Net_input n (d + 4), ft_Model_input n1 (d1 + 2), fe_nd0, fe_nd1, fb_i, fb_i]
  by_cases w1 : fr_w a 1 4 = 0
  · rw [if_pos w1, if_pos w1]
    exact ok _
  · obtain ⟨k, k1, k2, rfl⟩ := fr_bt (lo := 1) (hi := 4) (by decide) (by decide) (fr_no1 (fr_w01 _ _ _) w1)
    have hcl : (nI k).toNatClampNeg = k := fr_cl (by omega)
    have hix : ¬ (nI k < 0 ∨ 5 ≤ k) := by have := fr_ix (c := k) (N := 5) (by omega) (by decide); rwa [hcl] at this
    have h14 : 1 ≤ k ∧ k ≤ 4 := ⟨k1, k2⟩
    obtain ⟨a1, a2, a3, a4, a5, a6, a7, a8, a9, a10, a11, a12, a13, a14, a15⟩ := h.2.1 k k1 k2
    rw [if_neg w1, if_neg w1]
    simp only [hcl, if_neg hix, if_pos h14, if_pos (fr_nodeT k k2 k1)]
    rw [fk_Node_isOn n (d + 3) k1 k2, ← a2]
    by_cases s0 : x (28 + k) 3 = 0
    · rw [if_pos s0, if_pos s0, fb_i, if_pos rfl]
      exact ok _
    · rw [if_neg s0, if_neg s0, fb_i, if_neg fr_10, fe_inp, fe_w1, fb_i, fb_i]
      by_cases w2 : fr_w b 8 11 = 0
      · rw [if_pos w2, if_pos w2]
        exact ok _
      · obtain ⟨j, j1, j2, rfl⟩ := fr_bt (lo := 8) (hi := 11) (by decide) (by decide) (fr_no1 (fr_w01 _ _ _) w2)
        have cj : (nI j).toNatClampNeg = j := fr_cl (by omega)
        have xj : ¬ (nI j < 0 ∨ 16 ≤ j) := by have := fr_ix (c := j) (N := 16) (by omega) (by decide); rwa [cj] at this
        have c1 : (nI (16 * k + j)).toNatClampNeg = 16 * k + j := fr_cl (by omega)
        have x1 : ¬ (nI (16 * k + j) < 0 ∨ 80 ≤ 16 * k + j) := by have := fr_ix (c := 16 * k + j) (N := 80) (by omega) (by decide); rwa [c1] at this
        have okj : fr_okv k j v := by
          obtain rfl | rfl | rfl | rfl : j = 8 ∨ j = 9 ∨ j = 10 ∨ j = 11 := by omega
          all_goals exact trivial
        have h3 := fr_s_obj (v := v) h k1 k2 (j := j) (by omega) (by omega) okj
        obtain ⟨b1, b2, b3, b4, b5, b6, b7, b8, b9, b10, b11, b12, b13, b14, b15⟩ := h3.2.1 k k1 k2
        have of6 : ∀ y : Int32, y = nI 6 → fn_ev 1 (n1 + 2000) (d1 + 2) 86 [.ref 0, .int (nI k), .int y] (fn_w z 2 (16 * k + j) v) = some (fn_w z 2 (16 * k + j) v, some (.int (x (32 + k) 6))) := fun y hy => by
          rw [fe_of n1 (d1 + 1) _ k2 (j := 6) (by decide) hy, b4 6 (by decide), fw_nj (by omega)]
        rw [if_neg w2, if_neg w2, fk_Node_takeInput n (d + 3) k1 k2, fe_of n1 (d1 + 1) z k2 (j := j) (by omega) rfl, fb_i, a4 j (by omega), fr_16]
        simp only [cj, if_neg xj, c1, if_neg x1]
        have fin : fr_pub t (some (fn_w x (32 + k) j v, some (.int 1))) (some (fn_w z 2 (16 * k + j) v, some (.int 1))) := ⟨_, _, c, f, _, rfl, rfl, h3⟩
        by_cases e : x (32 + k) j = v
        · rw [if_pos e, if_pos e, fb_v, of6 6 rfl, fb_i]
          by_cases m1 : x (32 + k) 6 / 100 = nI j
          · rw [if_pos m1]
            exact fin
          · rw [if_neg m1, of6 6 rfl, fb_i]
            by_cases m2 : x (32 + k) 6 - x (32 + k) 6 / 100 * 100 = nI j
            · rw [if_pos m2]
              exact fin
            · rw [if_neg m2]
              exact fin
        · have s3 : (fn_w x (32 + k) j v) (28 + k) 3 = x (28 + k) 3 := fw_ne (by omega)
          have s4 : (fn_w x (32 + k) j v) (32 + k) 4 = x (32 + k) 4 := fw_nj (by omega)
          have s6 : (fn_w x (32 + k) j v) (32 + k) 6 = x (32 + k) 6 := fw_nj (by omega)
          have t3 : (fn_w z 2 (16 * k + j) v) 1 k = x (28 + k) 3 := by rw [fw_ne (by decide)]; exact a2.symm
          have of4 : fn_ev 1 (n1 + 2000) (d1 + 2) 86 [.ref 0, .int (nI k), .int 4] (fn_w z 2 (16 * k + j) v) = some (fn_w z 2 (16 * k + j) v, some (.int (x (32 + k) 4))) := by
            rw [fe_of (a2 := 4) n1 (d1 + 1) _ k2 (j := 4) (by decide) rfl, b4 4 (by decide), s4]
          rw [if_neg e, if_neg e, of6 6 rfl, fb_i, of6 6 rfl, fb_i, fk_Node_sendsOnChange n (d + 2) k1 k2, s3, s4, t3]
          have tail : fr_pub t (fn_bv (fn_bi (fn_ev 0 (n + 2000) (d + 3) 33 [.ref (28 + k), .int ((fn_w x (32 + k) j v) 1 6)] (fn_w x (32 + k) j v)) (fun y5 v6 => (if v6 = 0 then some ((fn_w y5 (28 + k) 6 1), none) else (fn_bv (fn_ev 0 (n + 2000) (d + 3) 34 [.ref (28 + k), .ref 1] y5) (fun y7 => some (y7, none)))))) (fun y7 => some (y7, some (.int 1))))
              (fn_bi (fn_ev 1 (n1 + 2000) (d1 + 2) 96 [.ref 0, .int (nI k)] (fn_w z 2 (16 * k + j) v)) (fun y15 v16 => (if v16 = 0 then some ((fn_w y15 4 k 1), some (.int 1)) else (fn_bv (fn_ev 1 (n1 + 2000) (d1 + 2) 95 [.ref 0, .int (nI k)] y15) (fun y17 => some (y17, some (.int 1))))))) := by
            obtain ⟨r, hr, r1, r2⟩ := fe_rest h3 k1 k2 n (d + 2) n1 d1
            rw [r1, r2, fb_i, fb_i]
            rcases hr with rfl | rfl
            · rw [if_pos rfl, if_pos rfl, fb_v]
              exact ⟨_, _, c, f, _, rfl, rfl, fr_s_held h3 k1 k2⟩
            · rw [if_neg fr_10, if_neg fr_10]
              obtain ⟨y, y', c', q1, q2, q3, q4⟩ := fr_send h3 k1 k2 n d n1 d1
              rw [q1, q2, fb_v, fb_v, fb_v]
              exact ⟨_, _, c', f, _, rfl, rfl, q3⟩
          by_cases s5 : x (28 + k) 3 = 5
          · rw [if_pos s5]
            by_cases t0 : x (32 + k) 4 = 0
            · rw [if_pos t0, fb_i, if_neg fr_10, fk_Node_mapNames n (d + 2) k1 k2, s6]
              by_cases m1 : x (32 + k) 6 / 100 = nI j
              · rw [if_pos m1, if_pos m1, if_pos s5, of4, fb_i, if_neg fr_10, fb_i, if_pos t0]
                exact tail
              · rw [if_neg m1, if_neg m1]
                by_cases m2 : x (32 + k) 6 - x (32 + k) 6 / 100 * 100 = nI j
                · rw [if_pos m2, if_pos m2, if_pos s5, of4, fb_i, if_neg fr_10, fb_i, if_pos t0]
                  exact tail
                · rw [if_neg m2, if_neg m2, fb_i, if_pos rfl, fb_v]
                  exact fin
            · rw [if_neg t0, fb_i, if_pos rfl, fb_v]
              by_cases m1 : x (32 + k) 6 / 100 = nI j
              · rw [if_pos m1, if_pos s5, of4, fb_i, if_neg t0]
                exact fin
              · rw [if_neg m1]
                by_cases m2 : x (32 + k) 6 - x (32 + k) 6 / 100 * 100 = nI j
                · rw [if_pos m2, if_pos s5, of4, fb_i, if_neg t0]
                  exact fin
                · rw [if_neg m2]
                  exact fin
          · rw [if_neg s5, fb_i, if_pos rfl, fb_v]
            by_cases m1 : x (32 + k) 6 / 100 = nI j
            · rw [if_pos m1, if_neg s5]
              exact fin
            · rw [if_neg m1]
              by_cases m2 : x (32 + k) 6 - x (32 + k) 6 / 100 * 100 = nI j
              · rw [if_pos m2, if_neg s5]
                exact fin
              · rw [if_neg m2]
                exact fin
end FPX
