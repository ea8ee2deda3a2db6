theorem fk_SB_length (n d : Nat) {k : Nat} (h1 : 1 ≤ k) (h2 : k ≤ 4) (x : fn_M) : fn_ev 0 (n + 2000) (d + 1) 138 [.ref (36 + k)] x =
  (fn_bi (fn_ev 0 (n + 2000) d 148 [.ref (36 + k)] x) (fun y1 v2 =>
    some (y1, some (.int v2)))) := by
  obtain rfl | rfl | rfl | rfl : k = 1 ∨ k = 2 ∨ k = 3 ∨ k = 4 := by omega
  · exact ft_SB_length_1 n d x
  · exact ft_SB_length_2 n d x
  · exact ft_SB_length_3 n d x
  · exact ft_SB_length_4 n d x
theorem fk_SB_charAt (n d : Nat) {k : Nat} (h1 : 1 ≤ k) (h2 : k ≤ 4) (a1 : Int32) (x : fn_M) : fn_ev 0 (n + 2000) (d + 1) 139 [.ref (36 + k), .int a1] x =
  (fn_bi (fn_ev 0 (n + 2000) d 149 [.ref (36 + k), .int a1] x) (fun y1 v2 =>
    (if 0 ≤ v2 ∧ v2 ≤ 65535 then
    some (y1, some (.int v2))
    else
    none))) := by
  obtain rfl | rfl | rfl | rfl : k = 1 ∨ k = 2 ∨ k = 3 ∨ k = 4 := by omega
  · exact ft_SB_charAt_1 n d a1 x
  · exact ft_SB_charAt_2 n d a1 x
  · exact ft_SB_charAt_3 n d a1 x
  · exact ft_SB_charAt_4 n d a1 x
theorem fk_ASB_isLatin1 (n d : Nat) {k : Nat} (h1 : 1 ≤ k) (h2 : k ≤ 4) (x : fn_M) : fn_ev 0 (n + 2000) (d + 1) 146 [.ref (36 + k)] x =
  (if (x (36 + k) 1) = 0 then
    some (x, some (.int 1))
    else
    some (x, some (.int 0))) := by
  obtain rfl | rfl | rfl | rfl : k = 1 ∨ k = 2 ∨ k = 3 ∨ k = 4 := by omega
  · exact ft_ASB_isLatin1_1 n d x
  · exact ft_ASB_isLatin1_2 n d x
  · exact ft_ASB_isLatin1_3 n d x
  · exact ft_ASB_isLatin1_4 n d x
theorem fk_ASB_length (n d : Nat) {k : Nat} (h1 : 1 ≤ k) (h2 : k ≤ 4) (x : fn_M) : fn_ev 0 (n + 2000) (d + 1) 148 [.ref (36 + k)] x =
  some (x, some (.int (x (36 + k) 3))) := by
  obtain rfl | rfl | rfl | rfl : k = 1 ∨ k = 2 ∨ k = 3 ∨ k = 4 := by omega
  · exact ft_ASB_length_1 n d x
  · exact ft_ASB_length_2 n d x
  · exact ft_ASB_length_3 n d x
  · exact ft_ASB_length_4 n d x
theorem fk_ASB_charAt (n d : Nat) {k : Nat} (h1 : 1 ≤ k) (h2 : k ≤ 4) (a1 : Int32) (x : fn_M) : fn_ev 0 (n + 2000) (d + 1) 149 [.ref (36 + k), .int a1] x =
  (fn_bi (fn_ev 0 (n + 2000) d 157 [.int (x (36 + k) 3), .int (16 >>> ((x (36 + k) 1) &&& 31))] x) (fun y1 v2 =>
    (fn_bv (fn_ev 0 (n + 2000) d 153 [.int a1, .int v2] y1) (fun y3 =>
    (if (x (36 + k) 1) = 0 then
    (if a1 < 0 ∨ 16 ≤ a1.toNatClampNeg then
      none
      else
      (if 0 ≤ (((y3 (40 + k) a1.toNatClampNeg) &&& 255).toUInt32 % 65536).toInt32 ∧ (((y3 (40 + k) a1.toNatClampNeg) &&& 255).toUInt32 % 65536).toInt32 ≤ 65535 then
        some (y3, some (.int (((y3 (40 + k) a1.toNatClampNeg) &&& 255).toUInt32 % 65536).toInt32))
        else
        none))
    else
    none))))) := by
  obtain rfl | rfl | rfl | rfl : k = 1 ∨ k = 2 ∨ k = 3 ∨ k = 4 := by omega
  · exact ft_ASB_charAt_1 n d a1 x
  · exact ft_ASB_charAt_2 n d a1 x
  · exact ft_ASB_charAt_3 n d a1 x
  · exact ft_ASB_charAt_4 n d a1 x
