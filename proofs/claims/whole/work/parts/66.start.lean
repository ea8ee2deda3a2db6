/-! ===== the start: both memories, and that they are alike ===== -/
/-- the reference's memory at the start -/
def kn_z : fn_M := fun q => if q = 2 then (upd (upd (upd (upd (fun _ => 0) ((16 * 1) : Int32).toNatClampNeg (1000 + 1)) ((16 * 2) : Int32).toNatClampNeg (1000 + 2)) ((16 * 3) : Int32).toNatClampNeg (1000 + 3)) ((16 * 4) : Int32).toNatClampNeg (1000 + 4)) else if q = 3 then (upd (upd (upd (upd (fun _ => 0) (1 : Int32).toNatClampNeg (-1)) (2 : Int32).toNatClampNeg (-1)) (3 : Int32).toNatClampNeg (-1)) (4 : Int32).toNatClampNeg (-1)) else if q = 6 then (upd (upd (upd (upd (fun _ => 0) (1 : Int32).toNatClampNeg (-1)) (2 : Int32).toNatClampNeg (-1)) (3 : Int32).toNatClampNeg (-1)) (4 : Int32).toNatClampNeg (-1)) else if q = 7 then (upd (upd (upd (upd (fun _ => 0) (1 : Int32).toNatClampNeg (-1)) (2 : Int32).toNatClampNeg (-1)) (3 : Int32).toNatClampNeg (-1)) (4 : Int32).toNatClampNeg (-1)) else if q = 15 then (upd (upd (upd (upd (fun _ => 0) (1 : Int32).toNatClampNeg (-1)) (2 : Int32).toNatClampNeg (-1)) (3 : Int32).toNatClampNeg (-1)) (4 : Int32).toNatClampNeg (-1)) else if q = 21 then (upd (upd (upd (upd (fun _ => 0) (1 : Int32).toNatClampNeg (-1)) (2 : Int32).toNatClampNeg (-1)) (3 : Int32).toNatClampNeg (-1)) (4 : Int32).toNatClampNeg (-1)) else (fun _ => 0)
def kn_a1 (ad : Nat → Nat) (h0 : Nat) (a : Nat → Nat) : Nat → Nat := fun q => if q < 24 then (if q = 0 then h0 else a (q - 1)) else ad q
section KST
variable {y : Nat → fn_M}
theorem kx_1 : kn_x y 1 = (fun j => if j = 1 then nI 27 else 0) := rfl
theorem kx_2 : kn_x y 2 = (fun i => nI (3 + i)) := rfl
theorem kx_n {k : Nat} (h1 : 1 ≤ k) (h2 : k ≤ 4) : kn_x y (28 + k) = y k 0 ∧ kn_x y (32 + k) = y k 4 ∧ kn_x y (36 + k) = y k 8 ∧ kn_x y (40 + k) = y k 12 ∧ kn_x y (48 + k) = (fun j => if j = 0 then -1 else if j = 3 then -1 else 0) := by
  obtain rfl | rfl | rfl | rfl : k = 1 ∨ k = 2 ∨ k = 3 ∨ k = 4 := by omega
  all_goals exact ⟨rfl, rfl, rfl, rfl, rfl⟩
theorem kx_45 : kn_x y 45 = (fun _ => 0) ∧ kn_x y 46 = (fun _ => 0) := ⟨rfl, rfl⟩
theorem kz_0 : kn_z 0 = (fun _ => 0) := rfl
theorem kz_k : ∀ k, k ≤ 4 → 1 ≤ k → kn_z 1 k = 0 ∧ kn_z 3 k = -1 ∧ kn_z 4 k = 0 ∧ kn_z 5 k = 0 ∧ kn_z 6 k = -1 ∧ kn_z 7 k = -1 ∧ kn_z 9 k = 0 ∧ kn_z 15 k = -1 ∧ kn_z 16 k = 0 ∧ kn_z 17 k = 0 ∧ kn_z 20 k = 0 ∧ kn_z 21 k = -1 := by decide +kernel
theorem kz_o : ∀ k, k ≤ 4 → 1 ≤ k → ∀ j, j < 16 → kn_z 2 (16 * k + j) = (if j = 0 then nI (1000 + k) else 0) := by decide +kernel
theorem k0_0 (k : Nat) : kn_x0 k 0 = (fun j => if j = 0 then nI k else if j = 5 then -1 else if j = 8 then -1 else 0) := rfl
theorem k0_4 (k : Nat) (v : Int32) : (fn_w (kn_x0 k) 4 0 v) 4 = (fun j => if j = 0 then v else 0) := by
  funext j
  by_cases e : j = 0
  · subst e
    rw [fw_eq, if_pos rfl]
  · rw [fw_nj e, if_neg e]
    rfl
theorem kx_okv {k : Nat} (h1 : 1 ≤ k) (h2 : k ≤ 4) : fr_ok k (fun j => if j = 0 then nI (1000 + k) else 0) := by
  intro j hj
  have z0 : ∀ n, (∃ a, a ≤ n ∧ (0 : Int32) = nI a) := fun n => ⟨0, Nat.zero_le _, nI_0.symm⟩
  rcases (by omega : j = 0 ∨ j = 1 ∨ j = 2 ∨ j = 3 ∨ j = 4 ∨ j = 5 ∨ j = 6 ∨ j = 7 ∨ j = 8 ∨ j = 9 ∨ j = 10 ∨ j = 11 ∨ j = 12 ∨ j = 13 ∨ j = 14 ∨ j = 15) with rfl | rfl | rfl | rfl | rfl | rfl | rfl | rfl | rfl | rfl | rfl | rfl | rfl | rfl | rfl | rfl
  · exact ⟨1000 + k, by omega, rfl⟩
  · exact trivial
  · exact z0 50
  · exact Or.inl rfl
  · exact z0 4
  · exact z0 20
  · exact Or.inl rfl
  · exact Or.inl rfl
  all_goals exact trivial
/-- at the start both are alike -/
theorem kx_R (hy : ∀ k, 1 ≤ k → k ≤ 4 → kn_nm k (y k)) : fr_R 0 0 (fun i => 3 + i) (kn_x y) kn_z := by
  refine ⟨⟨by decide, rfl, rfl, rfl, rfl, rfl, rfl, rfl, fun i hi => ?_, fun i j hi hj e => ?_, fun i hi => rfl, rfl, fun i hi => absurd hi (by omega), by decide⟩, fun k h1 h2 => ?_, fun k h1 h2 => ?_, ?_, ?_⟩
  · show 3 ≤ 3 + i ∧ 3 + i ≤ 27
    omega
  · have e' : 3 + i = 3 + j := e
    omega
  · obtain ⟨n1, n2, n3, n4, n5⟩ := hy k h1 h2
    obtain ⟨e1, e2, e3, e4, -⟩ := kx_n (y := y) h1 h2
    obtain ⟨z1, z3, z4, z5, z6, z7, z9, -⟩ := kz_k k h2 h1
    have e1' : kn_x y (28 + k) = (fun j => if j = 0 then nI k else if j = 5 then -1 else if j = 8 then -1 else 0) := by rw [e1, n1 0 (by decide) (by decide) (by decide), k0_0]
    have e2' : kn_x y (32 + k) = (fun j => if j = 0 then nI (1000 + k) else 0) := by rw [e2, n2, k0_4]
    unfold fr_n
    rw [e1', e2', z1, z3, z4, z5, z6, z7, z9]
    refine ⟨rfl, rfl, Or.inl rfl, fun j hj => kz_o k h2 h1 j hj, kx_okv h1 h2, rfl, ⟨0, Nat.le_refl _, nI_0.symm⟩, rfl, Or.inl rfl, rfl, rfl, rfl, Or.inl rfl, ?_, fun v b1 b2 => Or.inl ⟨rfl, rfl⟩⟩
    refine ⟨1000 + k, by omega, rfl, ?_, ?_, ?_⟩
    · rw [e3]; exact n4
    · rw [e3]; exact n3
    · rw [e4]; exact n5
  · obtain ⟨-, -, -, -, e5⟩ := kx_n (y := y) h1 h2
    obtain ⟨-, -, -, -, -, -, -, z15, z16, z17, z20, z21⟩ := kz_k k h2 h1
    unfold fr_m
    rw [e5, z15, z16, z17, z20, z21]
    exact ⟨rfl, by decide, rfl, ⟨0, by decide, nI_0.symm⟩, rfl, rfl, Or.inl rfl, 0, by decide, nI_0.symm, nI_0.symm, fun i hi => absurd hi (by omega)⟩
  · unfold fr_c
    rw [kx_45.2, kz_0]
    exact ⟨rfl, rfl, ⟨0, by decide, nI_0.symm, nI_0.symm, fun i hi => absurd hi (by omega)⟩, Or.inl ⟨rfl, rfl⟩⟩
  · unfold fr_p
    rw [kx_45.1, kz_0]
    exact ⟨rfl, ⟨0, by decide, nI_0.symm⟩, 0, by decide, nI_0.symm, nI_0.symm, fun i hi => absurd hi (by omega)⟩
end KST
