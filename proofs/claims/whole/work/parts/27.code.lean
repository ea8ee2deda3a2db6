/-! ===== requests to a node ===== -/
theorem fr_10 : ¬ (1 : Int32) = 0 := by decide
section FQ
variable {t c k : Nat} {f : Nat → Nat} {x z : fn_M}
theorem fe_fitj (h1 : 1 ≤ k) (h2 : k ≤ 4) (x z : fn_M) (hx : x (28 + k) 0 = nI k) (n d n1 d1 : Nat) (v : Int32) {j : Nat} (hj : (2 ≤ j ∧ j ≤ 7) ∨ (12 ≤ j ∧ j ≤ 15)) : ∃ b : Int32, (b = 0 ∨ b = 1) ∧ fn_ev 0 (n + 2000) (d + 2) 50 [.ref (28 + k), .int (nI j), .int v] x = some (x, some (.int b)) ∧ fn_ev 1 (n1 + 2000) (d1 + 2) 100 [.int (nI k), .int (nI j), .int v] z = some (z, some (.int b)) ∧ (b = 1 → fr_okv k j v) := by
  rcases (by omega : j = 2 ∨ j = 3 ∨ j = 4 ∨ j = 5 ∨ j = 6 ∨ j = 7 ∨ j = 12 ∨ j = 13 ∨ j = 14 ∨ j = 15) with rfl | rfl | rfl | rfl | rfl | rfl | rfl | rfl | rfl | rfl
  · exact fe_fit2 h1 h2 x z hx n d n1 d1 v
  · exact fe_fit3 h1 h2 x z hx n d n1 d1 v
  · exact fe_fit4 h1 h2 x z hx n d n1 d1 v
  · exact fe_fit5 h1 h2 x z hx n d n1 d1 v
  · exact fe_fit6 h1 h2 x z hx n d n1 d1 v
  · exact fe_fit7 h1 h2 x z hx n d n1 d1 v
  · exact fe_fit12 h1 h2 x z hx n d n1 d1 v
  · exact fe_fit13 h1 h2 x z hx n d n1 d1 v
  · exact fe_fit14 h1 h2 x z hx n d n1 d1 v
  · exact fe_fit15 h1 h2 x z hx n d n1 d1 v
/-- the code of a write -/
theorem fe_code (h : fr_R t c f x z) (h1 : 1 ≤ k) (h2 : k ≤ 4) (n d n1 d1 : Nat) (a v : Int32) : ∃ b : Int32, (b = 0 ∨ b = 1 ∨ b = 2 ∨ b = 3 ∨ b = 4) ∧ fn_ev 0 (n + 2000) (d + 3) 49 [.ref (28 + k), .int a, .int v] x = some (x, some (.int b)) ∧
    fn_ev 1 (n1 + 2000) (d1 + 3) 101 [.ref 0, .int (nI k), .int 1, .int a, .int v] z = some (z, some (.int b)) ∧ (b = 0 → ∃ j, a = nI j ∧ ((2 ≤ j ∧ j ≤ 7) ∨ (12 ≤ j ∧ j ≤ 15)) ∧ fr_okv k j v) := by
  obtain ⟨a1, a2, a3, a4, a5, a6, a7, a8, a9, a10, a11, a12, a13, a14, a15⟩ := h.2.1 k h1 h2
  have hcl : (nI k).toNatClampNeg = k := fr_cl (by omega)
  have hix : ¬ (nI k < 0 ∨ 5 ≤ k) := by have := fr_ix (c := k) (N := 5) (by omega) (by decide); rwa [hcl] at this
  rw [fk_Node_codeOfWrite n (d + 2) h1 h2, fe_w0, fb_i, ft_Model_refusal n1 (d1 + 2), fe_w1, fb_i]
  by_cases w0 : fr_w a 0 16 = 0
  · rw [if_pos w0, if_pos w0]
    exact ⟨1, by decide, rfl, rfl, fun e => absurd e (by decide)⟩
  · rw [if_neg w0, if_neg w0, if_neg (by decide), fe_w0, fb_i, ft_Model_writable n1 (d1 + 1), fe_w1, fb_i]
    have key : ∀ m j, a = nI j → ((2 ≤ j ∧ j ≤ 7) ∨ (12 ≤ j ∧ j ≤ 15)) → ∃ b : Int32, (b = 0 ∨ b = 1 ∨ b = 2 ∨ b = 3 ∨ b = 4) ∧ fn_run 0 (fn_ev 0 (n + 2000) (d + 2)) (fn_lk fn_d49) (m + 26) 31 [(0, .ref (28 + k)), (1, .int a), (2, .int v)] [] x = some (x, some (.int b)) ∧
        (fn_bi (fn_ev 1 (n1 + 2000) (d1 + 2) 100 [.int (nI k), .int a, .int v] z) (fun y5 v6 => (if v6 = 0 then some (y5, some (.int 3)) else (if a = 4 then (if nI k < 0 ∨ 5 ≤ (nI k).toNatClampNeg then none else (if (y5 1 (nI k).toNatClampNeg) = 5 then some (y5, some (.int 4)) else some (y5, some (.int 0)))) else (if a = 6 then (if nI k < 0 ∨ 5 ≤ (nI k).toNatClampNeg then none else (if (y5 1 (nI k).toNatClampNeg) = 5 then some (y5, some (.int 4)) else some (y5, some (.int 0)))) else (if a = 7 then (if nI k < 0 ∨ 5 ≤ (nI k).toNatClampNeg then none else (if (y5 1 (nI k).toNatClampNeg) = 5 then some (y5, some (.int 4)) else some (y5, some (.int 0)))) else some (y5, some (.int 0)))))))) = some (z, some (.int b)) ∧ (b = 0 → ∃ j, a = nI j ∧ ((2 ≤ j ∧ j ≤ 7) ∨ (12 ≤ j ∧ j ≤ 15)) ∧ fr_okv k j v) := by
      intro m j ea hj
      obtain ⟨b, b0, b1, b2, b3⟩ := fe_fitj h1 h2 x z a1 n d n1 d1 v hj
      rw [fk_Node_codeOfWrite_at31 n (d + 2) _ h1 h2]
      rw [← ea] at b1 b2
      rw [b1, b2, fb_i, fb_i]
      simp only [hcl, if_neg hix]
      rw [← a2]
      rcases b0 with rfl | rfl
      · rw [if_pos rfl, if_pos rfl]
        exact ⟨3, by decide, rfl, rfl, fun e => absurd e (by decide)⟩
      · rw [if_neg fr_10, if_neg fr_10]
        have hok := b3 rfl
        by_cases e4 : a = 4
        · rw [if_pos e4, if_pos e4, fk_Node_codeOfWrite_at59 n (d + 2) _ h1 h2]
          by_cases s5 : x (28 + k) 3 = 5
          · rw [if_pos s5, if_pos s5]
            exact ⟨4, by decide, rfl, rfl, fun e => absurd e (by decide)⟩
          · rw [if_neg s5, if_neg s5, fk_Node_codeOfWrite_at81_1 n (d + 2) _ h1 h2]
            exact ⟨0, by decide, rfl, rfl, fun _ => ⟨j, ea, hj, hok⟩⟩
        · rw [if_neg e4, if_neg e4]
          by_cases e6 : a = 6
          · rw [if_pos e6, if_pos e6, fk_Node_codeOfWrite_at59 n (d + 2) _ h1 h2]
            by_cases s5 : x (28 + k) 3 = 5
            · rw [if_pos s5, if_pos s5]
              exact ⟨4, by decide, rfl, rfl, fun e => absurd e (by decide)⟩
            · rw [if_neg s5, if_neg s5, fk_Node_codeOfWrite_at81_1 n (d + 2) _ h1 h2]
              exact ⟨0, by decide, rfl, rfl, fun _ => ⟨j, ea, hj, hok⟩⟩
          · rw [if_neg e6, if_neg e6]
            by_cases e7 : a = 7
            · rw [if_pos e7, if_pos e7, fk_Node_codeOfWrite_at59 n (d + 2) _ h1 h2]
              by_cases s5 : x (28 + k) 3 = 5
              · rw [if_pos s5, if_pos s5]
                exact ⟨4, by decide, rfl, rfl, fun e => absurd e (by decide)⟩
              · rw [if_neg s5, if_neg s5, fk_Node_codeOfWrite_at81_1 n (d + 2) _ h1 h2]
                exact ⟨0, by decide, rfl, rfl, fun _ => ⟨j, ea, hj, hok⟩⟩
            · rw [if_neg e7, if_neg e7, fk_Node_codeOfWrite_at81_0 n (d + 2) _ h1 h2]
              exact ⟨0, by decide, rfl, rfl, fun _ => ⟨j, ea, hj, hok⟩⟩
    by_cases u1 : fr_w a 2 7 = 0
    · rw [if_pos u1, if_pos u1, fe_out, fb_i, fe_w1, fb_i]
      by_cases u2 : fr_w a 12 15 = 0
      · rw [if_pos u2, if_pos u2, fb_i, if_pos rfl]
        exact ⟨2, by decide, rfl, rfl, fun e => absurd e (by decide)⟩
      · rw [if_neg u2, if_neg u2, fb_i, if_neg fr_10]
        obtain ⟨j, j1, j2, j3⟩ := fr_bt (lo := 12) (hi := 15) (by decide) (by decide) (fr_no1 (fr_w01 _ _ _) u2)
        exact key (n + 1961) j j3 (Or.inr ⟨j1, j2⟩)
    · rw [if_neg u1, if_neg u1, fb_i, if_neg fr_10]
      obtain ⟨j, j1, j2, j3⟩ := fr_bt (lo := 2) (hi := 7) (by decide) (by decide) (fr_no1 (fr_w01 _ _ _) u1)
      exact key (n + 1964) j j3 (Or.inl ⟨j1, j2⟩)
end FQ
