/-! ===== single changes of a node, made on both sides ===== -/
section FN
variable {t c k : Nat} {f : Nat → Nat} {x z : fn_M} {v : Int32}
theorem fr_s_state (h : fr_R t c f x z) (h1 : 1 ≤ k) (h2 : k ≤ 4) (hv : v = 4 ∨ v = 5 ∨ v = 127) (hs : x (28 + k) 3 ≠ 0) : fr_R t c f (fn_w x (28 + k) 3 v) (fn_w z 1 k v) := by
  obtain ⟨a1, a2, a3, a4, a5, a6, a7, a8, a9, a10, a11, a12, a13, a14, a15⟩ := h.2.1 k h1 h2
  refine fr_Rn h h1 h2 (fun q b1 b2 b3 b4 => fw_row b1) (fun q b => fw_row (by omega)) (fun q j b1 b2 b3 b4 => ?_) (fun j b => by rw [fw_row (by omega)]) ?_
  · by_cases e : q = 1
    · subst e; exact fw_nj b4
    · exact fw_ne e
  · unfold fr_n
    simp (disch := omega) only [fw_ne, fw_nj, fw_eq, fw_row]
    refine ⟨a1, trivial, Or.inr hv, a4, a5, a6, a7, a8, a9, a10, a11, a12, a13, a14, fun w b1 b2 => ?_⟩
    rcases a15 w b1 b2 with r | ⟨r1, ⟨p, r2, r3, r4, r5⟩, r6⟩
    · exact Or.inl r
    · exact Or.inr ⟨r1, ⟨p, r2, r3, r4, Or.inr (r5.resolve_left hs)⟩, r6⟩
theorem fr_s_beat (h : fr_R t c f x z) (h1 : 1 ≤ k) (h2 : k ≤ 4) (hv : fr_at t v) : fr_R t c f (fn_w x (28 + k) 4 v) (fn_w z 9 k v) := by
  obtain ⟨a1, a2, a3, a4, a5, a6, a7, a8, a9, a10, a11, a12, a13, a14, a15⟩ := h.2.1 k h1 h2
  refine fr_Rn h h1 h2 (fun q b1 b2 b3 b4 => fw_row b1) (fun q b => fw_row (by omega)) (fun q j b1 b2 b3 b4 => ?_) (fun j b => by rw [fw_row (by omega)]) ?_
  · by_cases e : q = 9
    · subst e; exact fw_nj b4
    · exact fw_ne e
  · unfold fr_n
    simp (disch := omega) only [fw_ne, fw_nj, fw_eq, fw_row]
    exact ⟨a1, a2, a3, a4, a5, trivial, hv, a8, a9, a10, a11, a12, a13, a14, a15⟩
theorem fr_s_sample (h : fr_R t c f x z) (h1 : 1 ≤ k) (h2 : k ≤ 4) (hv : fr_ever t v) : fr_R t c f (fn_w x (28 + k) 5 v) (fn_w z 3 k v) := by
  obtain ⟨a1, a2, a3, a4, a5, a6, a7, a8, a9, a10, a11, a12, a13, a14, a15⟩ := h.2.1 k h1 h2
  refine fr_Rn h h1 h2 (fun q b1 b2 b3 b4 => fw_row b1) (fun q b => fw_row (by omega)) (fun q j b1 b2 b3 b4 => ?_) (fun j b => by rw [fw_row (by omega)]) ?_
  · by_cases e : q = 3
    · subst e; exact fw_nj b4
    · exact fw_ne e
  · unfold fr_n
    simp (disch := omega) only [fw_ne, fw_nj, fw_eq, fw_row]
    exact ⟨a1, a2, a3, a4, a5, a6, a7, trivial, hv, a10, a11, a12, a13, a14, a15⟩
theorem fr_s_held (h : fr_R t c f x z) (h1 : 1 ≤ k) (h2 : k ≤ 4) : fr_R t c f (fn_w x (28 + k) 6 v) (fn_w z 4 k v) := by
  obtain ⟨a1, a2, a3, a4, a5, a6, a7, a8, a9, a10, a11, a12, a13, a14, a15⟩ := h.2.1 k h1 h2
  refine fr_Rn h h1 h2 (fun q b1 b2 b3 b4 => fw_row b1) (fun q b => fw_row (by omega)) (fun q j b1 b2 b3 b4 => ?_) (fun j b => by rw [fw_row (by omega)]) ?_
  · by_cases e : q = 4
    · subst e; exact fw_nj b4
    · exact fw_ne e
  · unfold fr_n
    simp (disch := omega) only [fw_ne, fw_nj, fw_eq, fw_row]
    exact ⟨a1, a2, a3, a4, a5, a6, a7, a8, a9, trivial, a11, a12, a13, a14, a15⟩
theorem fr_s_syncs (h : fr_R t c f x z) (h1 : 1 ≤ k) (h2 : k ≤ 4) : fr_R t c f (fn_w x (28 + k) 7 v) (fn_w z 5 k v) := by
  obtain ⟨a1, a2, a3, a4, a5, a6, a7, a8, a9, a10, a11, a12, a13, a14, a15⟩ := h.2.1 k h1 h2
  refine fr_Rn h h1 h2 (fun q b1 b2 b3 b4 => fw_row b1) (fun q b => fw_row (by omega)) (fun q j b1 b2 b3 b4 => ?_) (fun j b => by rw [fw_row (by omega)]) ?_
  · by_cases e : q = 5
    · subst e; exact fw_nj b4
    · exact fw_ne e
  · unfold fr_n
    simp (disch := omega) only [fw_ne, fw_nj, fw_eq, fw_row]
    exact ⟨a1, a2, a3, a4, a5, a6, a7, a8, a9, a10, trivial, a12, a13, a14, a15⟩
theorem fr_s_heard (h : fr_R t c f x z) (h1 : 1 ≤ k) (h2 : k ≤ 4) (hv : fr_ever t v) : fr_R t c f (fn_w x (28 + k) 8 v) (fn_w z 6 k v) := by
  obtain ⟨a1, a2, a3, a4, a5, a6, a7, a8, a9, a10, a11, a12, a13, a14, a15⟩ := h.2.1 k h1 h2
  refine fr_Rn h h1 h2 (fun q b1 b2 b3 b4 => fw_row b1) (fun q b => fw_row (by omega)) (fun q j b1 b2 b3 b4 => ?_) (fun j b => by rw [fw_row (by omega)]) ?_
  · by_cases e : q = 6
    · subst e; exact fw_nj b4
    · exact fw_ne e
  · unfold fr_n
    simp (disch := omega) only [fw_ne, fw_nj, fw_eq, fw_row]
    exact ⟨a1, a2, a3, a4, a5, a6, a7, a8, a9, a10, a11, trivial, hv, a14, a15⟩
/-- an object, not the identity -/
theorem fr_s_obj {j : Nat} (h : fr_R t c f x z) (h1 : 1 ≤ k) (h2 : k ≤ 4) (j1 : 1 ≤ j) (j2 : j < 16) (hv : fr_okv k j v) : fr_R t c f (fn_w x (32 + k) j v) (fn_w z 2 (16 * k + j) v) := by
  obtain ⟨a1, a2, a3, a4, a5, a6, a7, a8, a9, a10, a11, a12, a13, a14, a15⟩ := h.2.1 k h1 h2
  refine fr_Rn h h1 h2 (fun q b1 b2 b3 b4 => fw_row b2) (fun q b => fw_row (by omega)) (fun q j' b1 b2 b3 b4 => fw_ne b2) (fun j' b => fw_nj (by omega)) ?_
  unfold fr_n
  simp (disch := omega) only [fw_ne, fw_nj, fw_row]
  refine ⟨a1, a2, a3, fun i hi => ?_, fun i hi => ?_, a6, a7, a8, a9, a10, a11, a12, a13, ?_, a15⟩
  · by_cases e : i = j
    · subst e; rw [fw_eq, fw_eq]
    · rw [fw_nj (by omega), fw_nj e]; exact a4 i hi
  · by_cases e : i = j
    · subst e; rw [fw_eq]; exact hv
    · rw [fw_nj e]; exact a5 i hi
  · unfold fr_name
    rw [fw_nj (by omega)]
    exact a14
end FN
