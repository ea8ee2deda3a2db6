/-! ===== parts of a text, answers ===== -/
section FPA
variable {t c : Nat} {f : Nat → Nat} {x z : fn_M}
/-- a letter comes -/
theorem fr_s_letter (h : fr_R t c f x z) {g : Nat} (hg : g < 12) (g2 : x 46 12 = nI g) (v : Int32) : fr_R t c f (fn_w (fn_w x 47 g v) 46 12 (nI (g + 1))) (fn_w (fn_w z 22 g v) 0 38 (nI (g + 1))) := by
  obtain ⟨d1, d2, ⟨g', g1', g2', g3', g4'⟩, d4⟩ := h.2.2.2.1
  have hgg : g' = g := (fr_eq (by omega) (by omega)).mp (by rw [← g2', ← g2])
  subst hgg
  refine fr_Rc h (fun q b1 b2 => ?_) (fun q b1 b2 => ?_) (fun j b1 => ?_) ?_
  · simp (disch := omega) only [fw_row]
  · simp (disch := omega) only [fw_row]
  · simp (disch := omega) only [fw_any]
  · unfold fr_c
    simp (disch := omega) only [fw_any, fw_eq, fw_row]
    refine ⟨d1, d2, ⟨g' + 1, by omega, rfl, rfl, fun i hi => ?_⟩, d4⟩
    by_cases e : i = g'
    · subst e
      rw [fw_eq, fw_eq]
    · rw [fw_nj e, fw_nj e]
      exact g4' i (by omega)
/-- the text begins -/
theorem fr_s_text (h : fr_R t c f x z) {m : Nat} (hb : fr_busy m x z) (v : Int32) : fr_R t c f (fn_w (fn_w (fn_w (fn_w x 46 12 0) 46 8 1) 46 9 v) 46 10 0) (fn_w (fn_w (fn_w (fn_w z 0 36 v) 0 35 1) 0 38 0) 0 37 0) := by
  obtain ⟨d1, d2, -, -⟩ := h.2.2.2.1
  obtain ⟨e0, m1, m2, e2, e27, e1, a3, a4, a5, a1, -, -⟩ := hb
  refine fr_Rc h (fun q b1 b2 => ?_) (fun q b1 b2 => ?_) (fun j b1 => ?_) ?_
  · simp (disch := omega) only [fw_row]
  · simp (disch := omega) only [fw_row]
  · simp (disch := omega) only [fw_any]
  · unfold fr_c
    simp (disch := omega) only [fw_any, fw_eq, fw_row]
    exact ⟨d1, d2, ⟨0, by decide, rfl, rfl, fun i hi => absurd hi (by omega)⟩, Or.inr ⟨e0, ⟨m, m1, m2, e2, e27, e1⟩, a3, a4, a5, a1, trivial, Or.inr ⟨trivial, trivial, trivial, Or.inl trivial⟩⟩⟩
/-- the toggle turns -/
theorem fr_s_tog (h : fr_R t c f x z) {m : Nat} (hb : fr_busy m x z) (h8 : ¬ x 46 8 = 0) : fr_R t c f (fn_w x 46 10 (1 - x 46 10)) (fn_w z 0 37 (1 - z 0 37)) := by
  obtain ⟨d1, d2, d3, -⟩ := h.2.2.2.1
  obtain ⟨e0, m1, m2, e2, e27, e1, a3, a4, a5, a1, a8, a9⟩ := hb
  obtain ⟨b1, b2, b3, b4⟩ := a9.resolve_left h8
  refine fr_Rc h (fun q b1 b2 => ?_) (fun q b1 b2 => ?_) (fun j b1 => ?_) ?_
  · simp (disch := omega) only [fw_row]
  · simp (disch := omega) only [fw_row]
  · simp (disch := omega) only [fw_any]
  · unfold fr_c
    simp (disch := omega) only [fw_any, fw_eq, fw_row]
    refine ⟨d1, d2, d3, Or.inr ⟨e0, ⟨m, m1, m2, e2, e27, e1⟩, a3, a4, a5, a1, a8, Or.inr ⟨b1, b2, by rw [b3], ?_⟩⟩⟩
    rcases b4 with b4 | b4 <;> rw [b4] <;> decide
/-- behind the client: if its transfer is over a boot may go on -/
def fr_go (n d : Nat) (y : fn_M) : Option fn_R := if y 46 0 = 0 then fn_ev 0 (n + 2000) (d + 4) 19 [.ref 45, .ref 1] y else some (y, none)
/-- where the two loops over the letters lead -/
def fr_exc (n d : Nat) (l1 : Int32) (x : fn_M) : Option fn_R := (if (x 46 9) ≤ (x 46 12) then (fn_bv (fn_ev 0 (n + 2000) d 4 [.ref 46, .int 0, .int (x 46 12)] x) (fun y1 => some (y1, none))) else (if 2 ≤ l1 then (fn_bv (fn_ev 0 (n + 2000) d 8 [.ref 46, .ref 1] (fn_w x 46 10 (1 - (x 46 10)))) (fun y2 => some (y2, none))) else (fn_bv (fn_ev 0 (n + 2000) d 4 [.ref 46, .int 0, .int (x 46 12)] x) (fun y3 => some (y3, none)))))
def fr_exm (n d : Nat) (l1 : Int32) (x : fn_M) : Option fn_R := (if (x 0 36) ≤ (x 0 38) then (fn_bv (fn_ev 1 (n + 2000) d 112 [.ref 0, .int 0, .int (x 0 38)] x) (fun y1 => some (y1, none))) else (if 2 ≤ l1 then (fn_bv (fn_ev 1 (n + 2000) d 109 [.ref 0, .int 3, .int (1 - (x 0 37)), .int 0] (fn_w x 0 37 (1 - (x 0 37)))) (fun y2 => some (y2, none))) else (fn_bv (fn_ev 1 (n + 2000) d 112 [.ref 0, .int 0, .int (x 0 38)] x) (fun y3 => some (y3, none)))))
theorem fr_loop (n d n1 d1 : Nat) (l1 l2 L : Int32) (hL : L ≤ 4) {m0 : Nat} : ∀ (r i m m' : Nat) (x z : fn_M), i + r = 4 → fr_R t c f x z → fr_busy m0 x z → ∃ x' z', fn_run 0 (fn_ev 0 (n + 2000) d) (fn_lk fn_d7) (m + 27 * (r + 1)) 15 [(0, .ref 46), (1, .int l1), (2, .int l2), (3, .ref 1), (4, .int L), (5, .int (nI i))] [] x = fr_exc n d l1 x' ∧
    fn_run 1 (fn_ev 1 (n1 + 2000) d1) (fn_lk fn_d111) (m' + 28 * (r + 1)) 21 [(0, .ref 0), (1, .int l1), (2, .int l2), (3, .int L), (4, .int (nI i))] [] z = fr_exm n1 d1 l1 z' ∧ fr_R t c f x' z' ∧ fr_busy m0 x' z' ∧ x' 46 8 = x 46 8 ∧ x' (f 24) = x (f 24) := by
  intro r
  induction r with
  | zero =>
    intro i m m' x z hi h hb
    have hi4 : i = 4 := by omega
    subst hi4
    rw [ft_Client_takePart_at15 n d, ft_Model_collect_at21 n1 d1, if_pos (show L ≤ nI 4 from hL), if_pos (show L ≤ nI 4 from hL)]
    exact ⟨x, z, rfl, rfl, h, hb, rfl, rfl⟩
  | succ r ih =>
    intro i m m' x z hi h hb
    rw [show m + 27 * (r + 1 + 1) = (m + 27 * (r + 1)) + 27 by omega, show m' + 28 * (r + 1 + 1) = (m' + 28 * (r + 1)) + 28 by omega, ft_Client_takePart_at15 n d, ft_Model_collect_at21 n1 d1]
    by_cases e : L ≤ nI i
    · rw [if_pos e, if_pos e]
      exact ⟨x, z, rfl, rfl, h, hb, rfl, rfl⟩
    · rw [if_neg e, if_neg e]
      obtain ⟨-, -, ⟨g, g1, g2, g3, g4⟩, -⟩ := h.2.2.2.1
      have h24 := fr_p24 h
      have hcl : (nI g).toNatClampNeg = g := fr_cl (by omega)
      by_cases e12 : g = 12
      · subst e12
        rw [if_pos (show (12 : Int32) ≤ x 46 12 by rw [g2]; decide), if_pos (show (12 : Int32) ≤ z 0 38 by rw [g3]; decide)]
        exact ⟨x, z, rfl, rfl, h, hb, rfl, rfl⟩
      · have hix : ¬ (nI g < 0 ∨ 12 ≤ g) := by have := fr_ix (c := g) (N := 12) (by omega) (by decide); rwa [hcl] at this
        rw [if_neg (show ¬ (12 : Int32) ≤ x 46 12 by rw [g2]; exact nI_ge (b := 12) (by omega) (by decide)), if_neg (show ¬ (12 : Int32) ≤ z 0 38 by rw [g3]; exact nI_ge (b := 12) (by omega) (by decide)), g2, g3]
        simp only [hcl, if_neg hix, nI_1]
        have h3 := fr_s_letter h (g := g) (by omega) g2 ((l2 >>> ((8 * nI i) &&& 31)) &&& 255)
        have hb3 : fr_busy m0 (fn_w (fn_w x 47 g ((l2 >>> ((8 * nI i) &&& 31)) &&& 255)) 46 12 (nI (g + 1))) (fn_w (fn_w z 22 g ((l2 >>> ((8 * nI i) &&& 31)) &&& 255)) 0 38 (nI (g + 1))) := by
          unfold fr_busy at hb ⊢
          have hm := hb.2.1
          simp (disch := omega) only [fw_any]
          exact hb
        obtain ⟨x', z', p1, p2, p3, p4, p5, p6⟩ := ih (i + 1) m (m' + 1) _ _ (by omega) h3 hb3
        refine ⟨x', z', p1, ?_, p3, p4, ?_, ?_⟩
        · rw [show m' + 28 * (r + 1) + 1 = m' + 1 + 28 * (r + 1) by omega]
          exact p2
        · rw [p5]
          simp (disch := omega) only [fw_any]
        · rw [p6, fw_row (by omega), fw_row (by omega)]
end FPA
