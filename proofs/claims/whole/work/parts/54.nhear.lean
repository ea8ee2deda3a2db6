/-! ===== a name is read on: the end; what a node hears ===== -/
section FSN
variable {t c k : Nat} {f : Nat → Nat} {x z : fn_M}
theorem fr_s_rd (h : fr_R t c f x z) (h1 : 1 ≤ k) (h2 : k ≤ 4) (P T : Int32) (hr : ∀ v, x (32 + k) 0 = nI v → v ≤ 9999 → fr_rd (x (28 + k) 3) 1 P T P T v) : fr_R t c f (fn_w (fn_w (fn_w x (28 + k) 10 P) (28 + k) 11 T) (28 + k) 9 1) (fn_w (fn_w z 8 k T) 7 k P) := by
  obtain ⟨a1, a2, a3, a4, a5, a6, a7, a8, a9, a10, a11, a12, a13, a14, a15⟩ := h.2.1 k h1 h2
  refine fr_Rn h h1 h2 (fun q b1 b2 b3 b4 => ?_) (fun q b => ?_) (fun q j b1 b2 b3 b4 => ?_) (fun j b => ?_) ?_
  · simp (disch := omega) only [fw_row]
  · simp (disch := omega) only [fw_row]
  · simp (disch := omega) only [fw_any]
  · simp (disch := omega) only [fw_any]
  · unfold fr_n
    simp (disch := omega) only [fw_any, fw_eq, fw_row]
    exact ⟨a1, a2, a3, a4, a5, a6, a7, a8, a9, a10, a11, a12, a13, a14, hr⟩
theorem fr_s_rde (h : fr_R t c f x z) (h1 : 1 ≤ k) (h2 : k ≤ 4) (P T : Int32) : fr_R t c f (fn_w (fn_w (fn_w x (28 + k) 10 P) (28 + k) 11 T) (28 + k) 9 0) (fn_w (fn_w (fn_w z 8 k T) 7 k P) 7 k (-1)) := by
  obtain ⟨a1, a2, a3, a4, a5, a6, a7, a8, a9, a10, a11, a12, a13, a14, a15⟩ := h.2.1 k h1 h2
  refine fr_Rn h h1 h2 (fun q b1 b2 b3 b4 => ?_) (fun q b => ?_) (fun q j b1 b2 b3 b4 => ?_) (fun j b => ?_) ?_
  · simp (disch := omega) only [fw_row]
  · simp (disch := omega) only [fw_row]
  · simp (disch := omega) only [fw_any]
  · simp (disch := omega) only [fw_any]
  · unfold fr_n
    simp (disch := omega) only [fw_any, fw_eq, fw_row]
    exact ⟨a1, a2, a3, a4, a5, a6, a7, a8, a9, a10, a11, a12, a13, a14, fun v b1 b2 => Or.inl ⟨rfl, rfl⟩⟩
theorem fr_mend (h : fr_R t c f x z) (h1 : 1 ≤ k) (h2 : k ≤ 4) {v p s : Nat} (v1 : v ≤ 9999) (v2 : x (32 + k) 0 = nI v) (v3 : x (36 + k) 3 = nI (7 + fr_dg v)) (hz : z 2 (16 * k + 0) = nI v) (p2 : x (28 + k) 10 = nI p) (p3 : z 7 k = nI p) (r6 : x (28 + k) 11 = z 8 k) (r7 : x (28 + k) 11 = 0 ∨ x (28 + k) 11 = 1)
    (hp : p = 0 ∨ p = 4 ∨ p = 8) (hs : p + s = 7 + fr_dg v ∨ (s = 4 ∧ p + 4 < 7 + fr_dg v)) (n d n1 d1 m m1 : Nat) (l1 l3 W : Int32) :
    fr_vv t f x (fn_run 0 (fn_ev 0 (n + 2000) (d + 4)) (fn_lk fn_d53) (m + 37) 54 [(0, .ref (28 + k)), (1, .int l1), (2, .ref 1), (3, .int (nI s)), (4, .int W), (5, .int (nI s))] [] x)
      (fn_run 1 (fn_ev 1 (n1 + 2000) (d1 + 3)) (fn_lk fn_d103) (m1 + 48) 75 [(0, .ref 0), (1, .int (nI k)), (2, .int (1408 + nI k)), (3, .int l3), (4, .int (nI s)), (5, .int W), (6, .int (-1))] [] z) := by
  have h24 := fr_p24 h
  have hd := fr_dg_le v
  have hcl : (nI k).toNatClampNeg = k := fr_cl (by omega)
  have hix : ¬ (nI k < 0 ∨ 5 ≤ k) := by have := fr_ix (c := k) (N := 5) (by omega) (by decide); rwa [hcl] at this
  rw [fk_Node_serveReadOn_at54 n (d + 4) _ h1 h2, ft_Model_more_at75 n1 (d1 + 3), if_pos (nI_le (Nat.le_refl _) (by omega)), if_pos (show (-1 : Int32) < 0 by decide)]
  simp only [hcl, if_neg hix]
  rw [← r6]
  obtain ⟨y, y', c', q1, q2, q3, q4⟩ := fr_ans h h1 h2 n (d + 2) n1 (d1 + 2) 4 (x (28 + k) 11 + 2 * nI s) W
  have e28 : y (28 + k) = x (28 + k) := q4.1 _ (Or.inl (by omega))
  have e32 : y (32 + k) = x (32 + k) := q4.1 _ (Or.inl (by omega))
  have e36 : y (36 + k) = x (36 + k) := q4.1 _ (Or.inl (by omega))
  have g7 : y' 7 = z 7 := q4.2.2.2.1 7 (by decide) (Or.inl (by decide))
  have g8 : y' 8 = z 8 := q4.2.2.2.1 8 (by decide) (Or.inl (by decide))
  have g2 : y' 2 = z 2 := q4.2.2.2.1 2 (by decide) (Or.inl (by decide))
  have eP : y (28 + k) 10 + nI s = nI (p + s) := by rw [e28, p2, nI_add]
  have eT : y (28 + k) 11 = x (28 + k) 11 := by rw [e28]
  have eP' : y' 7 k + nI s = nI (p + s) := by rw [g7, p3, nI_add]
  have eT' : y' 8 k = x (28 + k) 11 := by rw [g8, r6]
  rw [q1, q2, fb_v, fb_v, eP, eT, eP', eT']
  have hz' : (fn_w (fn_w y' 8 k (1 - x (28 + k) 11)) 7 k (nI (p + s))) 2 (16 * k + 0) = nI v := by
    simp (disch := omega) only [fw_any]
    rw [g2]
    exact hz
  have hl : (fn_w (fn_w y (28 + k) 10 (nI (p + s))) (28 + k) 11 (1 - x (28 + k) 11)) (36 + k) 3 = nI (7 + fr_dg v) := by
    simp (disch := omega) only [fw_any]
    rw [e36]
    exact v3
  rw [fe_len n (d + 2) _ h1 h2, fb_i, fe_size n1 (d1 + 1) _ h2 v1 hz', fb_i, hl, fw_eq]
  rcases hs with hs | ⟨rfl, hs⟩
  · rw [if_pos (nI_le (by omega) (by omega)), if_pos (by rw [hs])]
    refine ⟨_, _, c', rfl, rfl, fr_s_rde q3 h1 h2 _ _, ?_⟩
    rw [fw_row (by omega), fw_row (by omega), fw_row (by omega), q4.1 _ (Or.inr rfl)]
  · rw [if_neg (nI_ge (by omega) (by omega)), if_neg (fun e => by have := (fr_eq (by omega) (by omega)).mp e; omega)]
    refine ⟨_, _, c', rfl, rfl, fr_s_rd q3 h1 h2 _ _ ?_, ?_⟩
    · intro w w1 w2
      have hw : w = v := by
        rw [e32, v2] at w1
        exact ((fr_eq (by omega) (by omega)).mp w1).symm
      subst hw
      refine Or.inr ⟨rfl, ⟨p + 4, by omega, rfl, rfl, Or.inr hs⟩, rfl, ?_⟩
      rcases r7 with e | e
      · rw [e]; exact Or.inr rfl
      · rw [e]; exact Or.inl rfl
    · rw [fw_row (by omega), fw_row (by omega), fw_row (by omega), q4.1 _ (Or.inr rfl)]
/-- a node is asked to read on -/
theorem fr_smore (h : fr_R t c f x z) (h1 : 1 ≤ k) (h2 : k ≤ 4) (hs : ¬ x (28 + k) 3 = 4) (hon : ¬ x (28 + k) 3 = 0) (ha : x (f 24) 2 = 3) (n d n1 d1 : Nat) : fr_vv t f x (fn_ev 0 (n + 2000) (d + 6) 46 [.ref (28 + k), .ref (f 24), .ref 1] x) (fn_ev 1 (n1 + 2000) (d1 + 5) 102 [.ref 0, .int (nI k), .int (x (f 24) 2), .int (x (f 24) 3), .int (x (f 24) 4)] z) := by
  have h24 := fr_p24 h
  have hlc : fn_lc 0 (f 24) = 2 := fr_fr _ h24.2 h24.1
  have hcl : (nI k).toNatClampNeg = k := fr_cl (by omega)
  have hix : ¬ (nI k < 0 ∨ 5 ≤ k) := by have := fr_ix (c := k) (N := 5) (by omega) (by decide); rwa [hcl] at this
  obtain ⟨a1, a2, a3, a4, a5, a6, a7, a8, a9, a10, a11, a12, a13, a14, a15⟩ := h.2.1 k h1 h2
  obtain ⟨v, v1, v2, v3, v4, v5⟩ := a14
  have hd := fr_dg_le v
  rw [fk_Node_serve n (d + 5) h1 h2, ft_Model_request n1 (d1 + 4), if_neg hs]
  simp only [if_pos hlc]
  rw [ha, if_neg (show ¬ (3 : Int32) = 1 by decide), if_neg (show ¬ (3 : Int32) = 2 by decide), if_pos (show (3 : Int32) = 3 from rfl), fe_w1, fb_i, show fr_w 3 1 3 = 1 from rfl, if_neg fr_10, if_pos (show (3 : Int32) = 3 from rfl), if_pos (show (3 : Int32) = 3 from rfl), fk_Node_serveReadOn n (d + 4) h1 h2, ft_Model_more n1 (d1 + 3)]
  simp only [hcl, if_neg hix]
  have h3 := fr_s_rdx h h1 h2
  rcases a15 v v2 v1 with ⟨r1, r2⟩ | ⟨r1, ⟨p, p1, p2, p3, p4⟩, r6, r7⟩
  · obtain ⟨y, y', c', q1, q2, q3, q4⟩ := fr_ans h3 h1 h2 n (d + 2) n1 (d1 + 2) 9 16 5
    rw [r1, if_pos rfl, r2, if_pos (show (-1 : Int32) < 0 by decide), q1, q2, fb_v, fb_v, fb_v, fb_v, ft_Model_request_at200_0 n1 (d1 + 4)]
    refine ⟨y, y', c', rfl, rfl, q3, ?_⟩
    rw [q4.1 _ (Or.inr rfl), fw_row (by omega)]
  · have hL : p < 7 + fr_dg v := p4.resolve_left hon
    rw [r1, if_neg fr_10, p3, if_neg (nI_pos (by omega)), ← r6]
    by_cases e : x (f 24) 3 = x (28 + k) 11
    · have hz : z 2 (16 * k + 0) = nI v := by rw [a4 0 (by decide), v2]
      rw [if_pos e, if_pos e, fe_len n (d + 2) x h1 h2, fb_i, v3, p2, fr_sub (by omega), ft_Math_min n (d + 3), fe_size n1 (d1 + 1) z h2 v1 hz, fb_i, p3, fr_sub (by omega)]
      by_cases g : 7 + fr_dg v - p ≤ 4
      · have hmin : (if nI (7 + fr_dg v - p) < 4 then some (x, some (.int (nI (7 + fr_dg v - p)))) else some (x, some (.int 4))) = (some (x, some (.int (nI (7 + fr_dg v - p)))) : Option fn_R) := by
          by_cases g4 : 7 + fr_dg v - p = 4
          · rw [g4]; rfl
          · rw [if_pos (show nI (7 + fr_dg v - p) < 4 from nI_lt (b := 4) (by omega) (by decide))]
        have qs := fr_sl n d x h1 h2 (L := 7 + fr_dg v) (p := p) (v := v) (s := 7 + fr_dg v - p) (by omega) v4 v3 v5 p2 (by omega) g (x (f 24) 3) (7 + fr_dg v - p) 0 (n + 1943 - 19 * (7 + fr_dg v - p)) (by omega)
        have qm := fr_ml n1 d1 z h2 (L := 7 + fr_dg v) (p := p) (v := v) (s := 7 + fr_dg v - p) rfl v1 hz p3 (by omega) g (1408 + nI k) (x (f 24) 3) (nI (7 + fr_dg v - p)) (7 + fr_dg v - p) (n1 + 1921 - 18 * (7 + fr_dg v - p)) 0 (Nat.le_refl _)
        have hm := fr_mend h h1 h2 v1 v2 v3 hz p2 p3 r6 r7 p1 (s := 7 + fr_dg v - p) (Or.inl (by omega)) n d n1 d1 (n + 1943 - 19 * (7 + fr_dg v - p)) (n1 + 1921 - 18 * (7 + fr_dg v - p)) (x (f 24) 3) (x (f 24) 3) (nI (fr_acc (fun i => fr_nm k v (p + i)) (7 + fr_dg v - p)))
        rw [show n + 1943 - 19 * (7 + fr_dg v - p) + 37 + 19 * (7 + fr_dg v - p) = n + 1980 by omega, show nI (fr_acc (fun i => fr_nm k v (p + i)) 0) = 0 from rfl, nI_0] at qs
        rw [show n1 + 1921 - 18 * (7 + fr_dg v - p) + 48 + 18 * (7 + fr_dg v - p) = n1 + 1969 by omega, nI_0, Nat.zero_mul, Nat.zero_add] at qm
        rw [hmin, fb_i, if_pos (show nI (7 + fr_dg v - p) ≤ 4 from nI_le (b := 4) g (by decide)), qs, qm]
        obtain ⟨y, y', c', q1, q2, q3, q4⟩ := hm
        rw [q1, q2, fb_v, fb_v, ft_Model_request_at200_0 n1 (d1 + 4)]
        exact ⟨y, y', c', rfl, rfl, q3, q4⟩
      · have qs := fr_sl n d x h1 h2 (L := 7 + fr_dg v) (p := p) (v := v) (s := 4) (by omega) v4 v3 v5 p2 (by omega) (by omega) (x (f 24) 3) 4 0 (n + 1867) (by omega)
        have qm := fr_ml n1 d1 z h2 (L := 7 + fr_dg v) (p := p) (v := v) (s := 4) rfl v1 hz p3 (by omega) (by omega) (1408 + nI k) (x (f 24) 3) (nI 4) 4 (n1 + 1848) 0 (Nat.le_refl _)
        have hm := fr_mend h h1 h2 v1 v2 v3 hz p2 p3 r6 r7 p1 (s := 4) (Or.inr ⟨rfl, by omega⟩) n d n1 d1 (n + 1867) (n1 + 1848) (x (f 24) 3) (x (f 24) 3) (nI (fr_acc (fun i => fr_nm k v (p + i)) 4))
        rw [show nI (fr_acc (fun i => fr_nm k v (p + i)) 0) = 0 from rfl, nI_0, show nI 4 = 4 from rfl] at qs
        rw [nI_0, Nat.zero_mul, Nat.zero_add, show nI 4 - 1 = 3 from rfl, show nI 4 = 4 from rfl] at qm
        rw [show nI 4 = 4 from rfl] at hm
        rw [if_neg (show ¬ nI (7 + fr_dg v - p) < 4 from nI_nlt (b := 4) (by omega) (by omega)), fb_i, if_neg (show ¬ nI (7 + fr_dg v - p) ≤ 4 from nI_ge (a := 4) (by omega) (by omega)), show n + 1980 = n + 1867 + 37 + 19 * 4 from rfl, qs, show n1 + 1968 = n1 + 1848 + 48 + 18 * 4 from rfl, qm]
        obtain ⟨y, y', c', q1, q2, q3, q4⟩ := hm
        rw [q1, q2, fb_v, fb_v, ft_Model_request_at200_0 n1 (d1 + 4)]
        exact ⟨y, y', c', rfl, rfl, q3, q4⟩
    · obtain ⟨y, y', c', q1, q2, q3, q4⟩ := fr_ans h3 h1 h2 n (d + 2) n1 (d1 + 2) 9 16 5
      rw [if_neg e, if_neg e, q1, q2, fb_v, fb_v, fb_v, fb_v, ft_Model_request_at200_0 n1 (d1 + 4)]
      refine ⟨y, y', c', rfl, rfl, q3, ?_⟩
      rw [q4.1 _ (Or.inr rfl), fw_row (by omega)]
/-- a node serves -/
theorem fr_serve (h : fr_R t c f x z) (h1 : 1 ≤ k) (h2 : k ≤ 4) (hs : ¬ x (28 + k) 3 = 4) (hon : ¬ x (28 + k) 3 = 0) (n d n1 d1 : Nat) : fr_vv t f x (fn_ev 0 (n + 2000) (d + 6) 46 [.ref (28 + k), .ref (f 24), .ref 1] x) (fn_ev 1 (n1 + 2000) (d1 + 5) 102 [.ref 0, .int (nI k), .int (x (f 24) 2), .int (x (f 24) 3), .int (x (f 24) 4)] z) := by
  by_cases e1 : x (f 24) 2 = 1
  · exact fr_swrite h h1 h2 hs e1 n (d + 2) n1 (d1 + 1)
  · by_cases e2 : x (f 24) 2 = 2
    · exact fr_sread h h1 h2 hs e2 n (d + 2) n1 (d1 + 1)
    · by_cases e3 : x (f 24) 2 = 3
      · exact fr_smore h h1 h2 hs hon e3 n d n1 d1
      · exact fr_sother h h1 h2 hs e1 e2 e3 n (d + 2) n1 (d1 + 1)
/-! the pieces of toNode that do nothing -/
theorem fr_t211 (n d m : Nat) (z : fn_M) (l1 l2 l3 l4 l5 l6 : Int32) (hn : fr_nn (l2 - 1792)) : fn_run 1 (fn_ev 1 (n + 2000) (d + 2)) (fn_lk fn_d97) (m + 23) 211 [(0, .ref 0), (1, .int l1), (2, .int l2), (3, .int l3), (4, .int l4), (5, .int l5), (6, .int l6)] [] z = some (z, none) := by
  rw [ft_Model_toNode_at211 n (d + 2), fe_send0 n d z hn, fb_i, if_pos (by decide), ft_Model_toNode_at257 n (d + 2)]
theorem fr_t124 (n d m : Nat) (z : fn_M) (l1 l2 l3 l4 l5 : Int32) (hm : fr_nn (l2 - 384)) (hn : fr_nn (l2 - 1792)) : fn_run 1 (fn_ev 1 (n + 2000) (d + 2)) (fn_lk fn_d97) (m + 73) 124 [(0, .ref 0), (1, .int l1), (2, .int l2), (3, .int l3), (4, .int l4), (5, .int l5)] [] z = some (z, none) := by
  rw [ft_Model_toNode_at124 n (d + 2), fe_send0 n d z hm, fb_i, if_pos (by decide), show m + 67 = (m + 44) + 23 from rfl, fr_t211 n d _ z _ _ _ _ _ _ hn]
theorem fr_t84 (n d m : Nat) (z : fn_M) (l1 l2 l3 l4 l5 : Int32) (hk : ¬ l2 = 1536 + l1) (hm : fr_nn (l2 - 384)) (hn : fr_nn (l2 - 1792)) : fn_run 1 (fn_ev 1 (n + 2000) (d + 2)) (fn_lk fn_d97) (m + 96) 84 [(0, .ref 0), (1, .int l1), (2, .int l2), (3, .int l3), (4, .int l4), (5, .int l5)] [] z = some (z, none) := by
  rw [ft_Model_toNode_at84 n (d + 2), if_neg hk, show m + 91 = (m + 18) + 73 from rfl, fr_t124 n d _ z _ _ _ _ _ hm hn]
theorem fr_t21 (n d m : Nat) (z : fn_M) (l1 l2 l3 l4 l5 : Int32) (hs : ¬ l2 = 128) (hk : ¬ l2 = 1536 + l1) (hm : fr_nn (l2 - 384)) (hn : fr_nn (l2 - 1792)) : fn_run 1 (fn_ev 1 (n + 2000) (d + 2)) (fn_lk fn_d97) (m + 135) 21 [(0, .ref 0), (1, .int l1), (2, .int l2), (3, .int l3), (4, .int l4), (5, .int l5)] [] z = some (z, none) := by
  rw [ft_Model_toNode_at21 n (d + 2), if_neg hs, show m + 132 = (m + 36) + 96 from rfl, fr_t84 n d _ z _ _ _ _ _ hk hm hn]
theorem fr_k0 : ∀ k, k ≤ 4 → ¬ (0 : Int32) = 1536 + nI k := by decide +kernel
theorem fr_k128 : ∀ k, k ≤ 4 → ¬ (128 : Int32) = 1536 + nI k := by decide +kernel
theorem fr_k1536 : ∀ k, k ≤ 4 → 1 ≤ k → (¬ 1536 + nI k = 0) ∧ (¬ 1536 + nI k = 128) ∧ (4 < 1536 + nI k - 384) ∧ (1536 + nI k - 1792 < 1) := by decide +kernel
theorem fr_k384 : ∀ k, k ≤ 4 → 1 ≤ k → (nI k + 384 - 1792 < 1) := by decide +kernel
/-- a node that is on hears a frame -/
theorem fr_nhear (h : fr_R t c f x z) (h1 : 1 ≤ k) (h2 : k ≤ 4) (hon : ¬ x (28 + k) 3 = 0) (n d n1 d1 : Nat) : fr_vv t f x (fn_ev 0 (n + 2000) (d + 7) 40 [.ref (28 + k), .ref (f 24), .ref 1] x) (fn_ev 1 (n1 + 2000) (d1 + 6) 97 [.ref 0, .int (nI k), .int (x (f 24) 1), .int (x (f 24) 2), .int (x (f 24) 3), .int (x (f 24) 4)] z) := by
  have h24 := fr_p24 h
  have hlc : fn_lc 0 (f 24) = 2 := fr_fr _ h24.2 h24.1
  have hcl : (nI k).toNatClampNeg = k := fr_cl (by omega)
  have hix : ¬ (nI k < 0 ∨ 5 ≤ k) := by have := fr_ix (c := k) (N := 5) (by omega) (by decide); rwa [hcl] at this
  obtain ⟨a1, a2, a3, a4, a5, a6, a7, a8, a9, a10, a11, a12, a13, a14, a15⟩ := h.2.1 k h1 h2
  rw [fk_Node_hear n (d + 6) h1 h2, fk_Node_isOn n (d + 5) h1 h2, if_neg hon, fb_i, if_neg fr_10, ft_Model_toNode n1 (d1 + 5)]
  simp only [if_pos hlc]
  by_cases i0 : x (f 24) 1 = 0
  · rw [if_pos i0, if_pos i0, i0]
    have tl : ∀ m y l3 l4 l5, fn_run 1 (fn_ev 1 (n1 + 2000) (d1 + 5)) (fn_lk fn_d97) (m + 135) 21 [(0, .ref 0), (1, .int (nI k)), (2, .int 0), (3, .int l3), (4, .int l4), (5, .int l5)] [] y = some (y, none) := fun m y l3 l4 l5 => fr_t21 n1 (d1 + 3) m y (nI k) 0 l3 l4 l5 (by decide) (fr_k0 k h2) (Or.inl (by decide)) (Or.inl (by decide))
    by_cases b0 : x (f 24) 3 = 0
    · obtain ⟨y, y', c', q1, q2, q3, q4⟩ := fr_cmd h h1 h2 hon n (d + 3) n1 (d1 + 2) (Or.inl b0)
      rw [if_pos b0, q1, fb_v, show n1 + 1996 = (n1 + 1857) + 139 from rfl, ft_Model_toNode_at15 n1 (d1 + 5), q2, fb_v, tl]
      exact ⟨y, y', c', rfl, rfl, q3, q4⟩
    · rw [if_neg b0]
      by_cases bk : x (f 24) 3 = nI k
      · obtain ⟨y, y', c', q1, q2, q3, q4⟩ := fr_cmd h h1 h2 hon n (d + 3) n1 (d1 + 2) (Or.inr bk)
        rw [if_pos bk, q1, fb_v, show n1 + 1993 = (n1 + 1854) + 139 from rfl, ft_Model_toNode_at15 n1 (d1 + 5), q2, fb_v, tl]
        exact ⟨y, y', c', rfl, rfl, q3, q4⟩
      · rw [if_neg bk, show n1 + 1993 = (n1 + 1858) + 135 from rfl, tl, fk_Node_obey n (d + 5) h1 h2]
        simp only [if_pos hlc]
        rw [if_neg b0, a1, if_neg bk, fb_v]
        exact ⟨x, z, c, rfl, rfl, h, rfl⟩
  · rw [if_neg i0, if_neg i0]
    by_cases i1 : x (f 24) 1 = 128
    · rw [if_pos i1, i1]
      obtain ⟨y, y', c', m', q1, q2, q3, q4⟩ := fr_sync h h1 h2 n (d + 2) n1 (d1 + 3) (n1 + 1863) (x (f 24) 2) (x (f 24) 3) (x (f 24) 4)
      rw [q1, fb_v, show n1 + 1998 = (n1 + 1863) + 135 from rfl, q2, fr_t84 n1 (d1 + 3) _ y' _ _ _ _ _ (fr_k128 k h2) (Or.inl (by decide)) (Or.inl (by decide))]
      exact ⟨y, y', c', rfl, rfl, q3, q4⟩
    · rw [if_neg i1, a1, show n1 + 1998 = (n1 + 1863) + 135 from rfl, ft_Model_toNode_at21 n1 (d1 + 5), if_neg i1, show n1 + 1863 + 132 = (n1 + 1899) + 96 from rfl, ft_Model_toNode_at84 n1 (d1 + 5)]
      simp only [hcl, if_neg hix]
      by_cases i2 : x (f 24) 1 = 1536 + nI k
      · obtain ⟨k1, k2, k3, k4⟩ := fr_k1536 k h2 h1
        rw [if_pos i2, if_pos i2, i2, ← a2]
        have tl : ∀ m y l3 l4 l5, fn_run 1 (fn_ev 1 (n1 + 2000) (d1 + 5)) (fn_lk fn_d97) (m + 73) 124 [(0, .ref 0), (1, .int (nI k)), (2, .int (1536 + nI k)), (3, .int l3), (4, .int l4), (5, .int l5)] [] y = some (y, none) := fun m y l3 l4 l5 => fr_t124 n1 (d1 + 3) m y _ _ l3 l4 l5 (Or.inr k3) (Or.inl k4)
        by_cases s4 : x (28 + k) 3 = 4
        · rw [s4, if_neg (by decide), if_neg (by decide), show n1 + 1899 + 79 = (n1 + 1905) + 73 from rfl, tl, fk_Node_serve n (d + 5) h1 h2, if_pos s4, fb_v]
          exact ⟨x, z, c, rfl, rfl, h, rfl⟩
        · obtain ⟨y, y', c', q1, q2, q3, q4⟩ := fr_serve h h1 h2 s4 hon n d n1 d1
          rw [q1, fb_v]
          rcases a3 with e | e | e | e
          · exact absurd e hon
          · exact absurd e s4
          · rw [e, if_neg (by decide), if_pos rfl, show n1 + 1899 + 79 = (n1 + 1899) + 79 from rfl, ft_Model_toNode_at114 n1 (d1 + 5), q2, fb_v, tl]
            exact ⟨y, y', c', rfl, rfl, q3, q4⟩
          · rw [e, if_pos rfl, show n1 + 1899 + 85 = (n1 + 1905) + 79 from rfl, ft_Model_toNode_at114 n1 (d1 + 5), q2, fb_v, tl]
            exact ⟨y, y', c', rfl, rfl, q3, q4⟩
      · rw [if_neg i2, if_neg i2]
        by_cases i3 : fr_nn (x (f 24) 1 - 384)
        · rw [fe_node0 n (d + 5) x i3, fb_i, if_pos rfl]
          by_cases i4 : fr_nn (x (f 24) 1 - 1792)
          · rw [fe_node0 n (d + 5) x i4, fb_i, if_pos rfl, show n1 + 1899 + 91 = (n1 + 1917) + 73 from rfl, fr_t124 n1 (d1 + 3) _ z _ _ _ _ _ i3 i4]
            exact ⟨x, z, c, rfl, rfl, h, rfl⟩
          · obtain ⟨j, j1, j2, j3⟩ := fr_1to4 i4
            rw [fe_node1 n (d + 5) x i4, fb_i, if_neg fr_10, show n1 + 1899 + 91 = (n1 + 1917) + 73 from rfl, ft_Model_toNode_at124 n1 (d1 + 5), fe_send0 n1 (d1 + 3) z i3, fb_i, if_pos (by decide), j3, show n1 + 1917 + 67 = (n1 + 1961) + 23 from rfl]
            exact fr_bvv1 (fr_tb h h1 h2 j1 j2 n (d + 5) n1 (d1 + 3) (n1 + 1961) (x (f 24) 1) (x (f 24) 2) (x (f 24) 3) (x (f 24) 4) 0 j3)
        · obtain ⟨j, j1, j2, j3⟩ := fr_1to4 i3
          rw [fe_node1 n (d + 5) x i3, fb_i, if_neg fr_10, j3, show n1 + 1899 + 91 = (n1 + 1917) + 73 from rfl]
          obtain ⟨y, y', m', q1, q2, q3, q4⟩ := fr_sample h h1 h2 j1 j2 n (d + 3) n1 (d1 + 3) (n1 + 1917) (x (f 24) 1) (x (f 24) 2) (x (f 24) 3) (x (f 24) 4) j3
          rw [q1, fb_v, q2, fr_t211 n1 (d1 + 3) _ y' _ _ _ _ _ _ (by rw [fr_idk j3]; exact Or.inl (fr_k384 j j2 j1))]
          exact ⟨y, y', c, rfl, rfl, q3, q4⟩
end FSN
