theorem fk_SB_setLength (n d : Nat) {k : Nat} (h1 : 1 ≤ k) (h2 : k ≤ 4) (a1 : Int32) (x : fn_M) : fn_ev 0 (n + 2000) (d + 1) 134 [.ref (36 + k), .int a1] x =
  (fn_bv (fn_ev 0 (n + 2000) d 140 [.ref (36 + k), .int a1] x) (fun y1 =>
    some (y1, none))) := by
  obtain rfl | rfl | rfl | rfl : k = 1 ∨ k = 2 ∨ k = 3 ∨ k = 4 := by omega
  · exact ft_SB_setLength_1 n d a1 x
  · exact ft_SB_setLength_2 n d a1 x
  · exact ft_SB_setLength_3 n d a1 x
  · exact ft_SB_setLength_4 n d a1 x
theorem fk_SB_appendS (n d : Nat) {k : Nat} (h1 : 1 ≤ k) (h2 : k ≤ 4) (x : fn_M) : fn_ev 0 (n + 2000) (d + 1) 135 [.ref (36 + k), .ref 1002] x =
  (fn_br (fn_ev 0 (n + 2000) d 142 [.ref (36 + k), .ref 1002] x) (fun y1 p2 =>
    some (y1, some (.ref (36 + k)))) (fun y1 =>
    none)) := by
  obtain rfl | rfl | rfl | rfl : k = 1 ∨ k = 2 ∨ k = 3 ∨ k = 4 := by omega
  · exact ft_SB_appendS_1 n d x
  · exact ft_SB_appendS_2 n d x
  · exact ft_SB_appendS_3 n d x
  · exact ft_SB_appendS_4 n d x
theorem fk_SB_appendI (n d : Nat) {k : Nat} (h1 : 1 ≤ k) (h2 : k ≤ 4) (a1 : Int32) (x : fn_M) : fn_ev 0 (n + 2000) (d + 1) 136 [.ref (36 + k), .int a1] x =
  (fn_br (fn_ev 0 (n + 2000) d 145 [.ref (36 + k), .int a1] x) (fun y1 p2 =>
    some (y1, some (.ref (36 + k)))) (fun y1 =>
    none)) := by
  obtain rfl | rfl | rfl | rfl : k = 1 ∨ k = 2 ∨ k = 3 ∨ k = 4 := by omega
  · exact ft_SB_appendI_1 n d a1 x
  · exact ft_SB_appendI_2 n d a1 x
  · exact ft_SB_appendI_3 n d a1 x
  · exact ft_SB_appendI_4 n d a1 x
theorem fk_SB_appendC (n d : Nat) {k : Nat} (h1 : 1 ≤ k) (h2 : k ≤ 4) (a1 : Int32) (x : fn_M) : fn_ev 0 (n + 2000) (d + 1) 137 [.ref (36 + k), .int a1] x =
  (fn_br (fn_ev 0 (n + 2000) d 147 [.ref (36 + k), .int a1] x) (fun y1 p2 =>
    some (y1, some (.ref (36 + k)))) (fun y1 =>
    none)) := by
  obtain rfl | rfl | rfl | rfl : k = 1 ∨ k = 2 ∨ k = 3 ∨ k = 4 := by omega
  · exact ft_SB_appendC_1 n d a1 x
  · exact ft_SB_appendC_2 n d a1 x
  · exact ft_SB_appendC_3 n d a1 x
  · exact ft_SB_appendC_4 n d a1 x
theorem fk_ASB_setLength (n d : Nat) {k : Nat} (h1 : 1 ≤ k) (h2 : k ≤ 4) (a1 : Int32) (x : fn_M) : fn_ev 0 (n + 2000) (d + 1) 140 [.ref (36 + k), .int a1] x =
  (if 0 ≤ a1 then
    (fn_bv (fn_ev 0 (n + 2000) d 141 [.ref (36 + k), .int a1] x) (fun y1 =>
      (if a1 ≤ (y1 (36 + k) 3) then
      (if (y1 (36 + k) 3) ≤ a1 then
        some ((fn_w y1 (36 + k) 3 a1), none)
        else
        some ((fn_w (fn_w y1 (36 + k) 2 1) (36 + k) 3 a1), none))
      else
      (fn_bi (fn_ev 0 (n + 2000) d 146 [.ref (36 + k)] y1) (fun y2 v3 =>
        (if v3 = 0 then
        none
        else
        none))))))
    else
    none) := by
  obtain rfl | rfl | rfl | rfl : k = 1 ∨ k = 2 ∨ k = 3 ∨ k = 4 := by omega
  · exact ft_ASB_setLength_1 n d a1 x
  · exact ft_ASB_setLength_2 n d a1 x
  · exact ft_ASB_setLength_3 n d a1 x
  · exact ft_ASB_setLength_4 n d a1 x
theorem fk_ASB_ensureCapacityInternal (n d : Nat) {k : Nat} (h1 : 1 ≤ k) (h2 : k ≤ 4) (a1 : Int32) (x : fn_M) : fn_ev 0 (n + 2000) (d + 1) 141 [.ref (36 + k), .int a1] x =
  (if (a1 - (16 >>> ((x (36 + k) 1) &&& 31))) ≤ 0 then
    some (x, none)
    else
    none) := by
  obtain rfl | rfl | rfl | rfl : k = 1 ∨ k = 2 ∨ k = 3 ∨ k = 4 := by omega
  · exact ft_ASB_ensureCapacityInternal_1 n d a1 x
  · exact ft_ASB_ensureCapacityInternal_2 n d a1 x
  · exact ft_ASB_ensureCapacityInternal_3 n d a1 x
  · exact ft_ASB_ensureCapacityInternal_4 n d a1 x
theorem fk_ASB_appendS (n d : Nat) {k : Nat} (h1 : 1 ≤ k) (h2 : k ≤ 4) (x : fn_M) : fn_ev 0 (n + 2000) (d + 1) 142 [.ref (36 + k), .ref 1002] x =
  (fn_bi (fn_ev 0 (n + 2000) d 150 [.ref 1002] x) (fun y1 v2 =>
    (fn_bv (fn_ev 0 (n + 2000) d 141 [.ref (36 + k), .int ((y1 (36 + k) 3) + v2)] y1) (fun y3 =>
    (fn_bv (fn_ev 0 (n + 2000) d 143 [.ref (36 + k), .int (y3 (36 + k) 3), .ref 1002] y3) (fun y4 =>
    some ((fn_w y4 (36 + k) 3 ((y4 (36 + k) 3) + v2)), some (.ref (36 + k))))))))) := by
  obtain rfl | rfl | rfl | rfl : k = 1 ∨ k = 2 ∨ k = 3 ∨ k = 4 := by omega
  · exact ft_ASB_appendS_1 n d x
  · exact ft_ASB_appendS_2 n d x
  · exact ft_ASB_appendS_3 n d x
  · exact ft_ASB_appendS_4 n d x
theorem fk_ASB_putStringAt (n d : Nat) {k : Nat} (h1 : 1 ≤ k) (h2 : k ≤ 4) (a1 : Int32) (x : fn_M) : fn_ev 0 (n + 2000) (d + 1) 143 [.ref (36 + k), .int a1, .ref 1002] x =
  (fn_bv (fn_ev 0 (n + 2000) d 144 [.ref (36 + k), .ref 1002] x) (fun y1 =>
    (fn_bv (fn_ev 0 (n + 2000) d 152 [.ref 1002, .ref (40 + k), .int a1, .int (y1 (36 + k) 1)] y1) (fun y2 =>
    some (y2, none))))) := by
  obtain rfl | rfl | rfl | rfl : k = 1 ∨ k = 2 ∨ k = 3 ∨ k = 4 := by omega
  · exact ft_ASB_putStringAt_1 n d a1 x
  · exact ft_ASB_putStringAt_2 n d a1 x
  · exact ft_ASB_putStringAt_3 n d a1 x
  · exact ft_ASB_putStringAt_4 n d a1 x
theorem fk_ASB_inflateIfNeededFor (n d : Nat) {k : Nat} (h1 : 1 ≤ k) (h2 : k ≤ 4) (x : fn_M) : fn_ev 0 (n + 2000) (d + 1) 144 [.ref (36 + k), .ref 1002] x =
  (fn_bi (fn_ev 0 (n + 2000) d 151 [.ref 1002] x) (fun y1 v2 =>
    (if (x (36 + k) 1) = v2 then
    some (y1, none)
    else
    none))) := by
  obtain rfl | rfl | rfl | rfl : k = 1 ∨ k = 2 ∨ k = 3 ∨ k = 4 := by omega
  · exact ft_ASB_inflateIfNeededFor_1 n d x
  · exact ft_ASB_inflateIfNeededFor_2 n d x
  · exact ft_ASB_inflateIfNeededFor_3 n d x
  · exact ft_ASB_inflateIfNeededFor_4 n d x
theorem fk_ASB_appendI (n d : Nat) {k : Nat} (h1 : 1 ≤ k) (h2 : k ≤ 4) (a1 : Int32) (x : fn_M) : fn_ev 0 (n + 2000) (d + 1) 145 [.ref (36 + k), .int a1] x =
  (fn_bi (fn_ev 0 (n + 2000) d 154 [.int a1] x) (fun y1 v2 =>
    (fn_bv (fn_ev 0 (n + 2000) d 141 [.ref (36 + k), .int ((x (36 + k) 3) + v2)] y1) (fun y3 =>
    (fn_bi (fn_ev 0 (n + 2000) d 146 [.ref (36 + k)] y3) (fun y4 v5 =>
    (if v5 = 0 then
    none
    else
    (fn_bi (fn_ev 0 (n + 2000) d 155 [.int a1, .int ((x (36 + k) 3) + v2), .ref (40 + k)] y4) (fun y6 v7 =>
      some ((fn_w y6 (36 + k) 3 ((x (36 + k) 3) + v2)), some (.ref (36 + k)))))))))))) := by
  obtain rfl | rfl | rfl | rfl : k = 1 ∨ k = 2 ∨ k = 3 ∨ k = 4 := by omega
  · exact ft_ASB_appendI_1 n d a1 x
  · exact ft_ASB_appendI_2 n d a1 x
  · exact ft_ASB_appendI_3 n d a1 x
  · exact ft_ASB_appendI_4 n d a1 x
theorem fk_ASB_appendC (n d : Nat) {k : Nat} (h1 : 1 ≤ k) (h2 : k ≤ 4) (a1 : Int32) (x : fn_M) : fn_ev 0 (n + 2000) (d + 1) 147 [.ref (36 + k), .int a1] x =
  (fn_bv (fn_ev 0 (n + 2000) d 141 [.ref (36 + k), .int ((x (36 + k) 3) + 1)] x) (fun y1 =>
    (fn_bi (fn_ev 0 (n + 2000) d 146 [.ref (36 + k)] y1) (fun y2 v3 =>
    (if v3 = 0 then
    (fn_bi (fn_ev 0 (n + 2000) d 146 [.ref (36 + k)] y2) (fun y4 v5 =>
      (if v5 = 0 then
      none
      else
      none)))
    else
    (fn_bi (fn_ev 0 (n + 2000) d 156 [.int a1] y2) (fun y6 v7 =>
      (if v7 = 0 then
      (fn_bi (fn_ev 0 (n + 2000) d 146 [.ref (36 + k)] y6) (fun y8 v9 =>
        (if v9 = 0 then
        none
        else
        none)))
      else
      (if (y6 (36 + k) 3) < 0 ∨ 16 ≤ (y6 (36 + k) 3).toNatClampNeg then
        none
        else
        some ((fn_w (fn_w y6 (36 + k) 3 ((y6 (36 + k) 3) + 1)) (40 + k) (y6 (36 + k) 3).toNatClampNeg ((((a1 : Int32).toInt8.toInt32) : Int32).toInt8.toInt32)), some (.ref (36 + k)))))))))))) := by
  obtain rfl | rfl | rfl | rfl : k = 1 ∨ k = 2 ∨ k = 3 ∨ k = 4 := by omega
  · exact ft_ASB_appendC_1 n d a1 x
  · exact ft_ASB_appendC_2 n d a1 x
  · exact ft_ASB_appendC_3 n d a1 x
  · exact ft_ASB_appendC_4 n d a1 x
theorem fk_Str_getBytes (n d : Nat) {k : Nat} (h1 : 1 ≤ k) (h2 : k ≤ 4) (a1 a2 : Int32) (x : fn_M) : fn_ev 0 (n + 2000) (d + 1) 152 [.ref 1002, .ref (40 + k), .int a1, .int a2] x =
  (fn_bi (fn_ev 0 (n + 2000) d 151 [.ref 1002] x) (fun y1 v2 =>
    (if v2 = a2 then
    (if 1003 = 1003 ∧ (fn_la 0 (40 + k)).1 = 3 ∧ true = true then
      (if (0 : Int32) < 0 ∨ ((a1 <<< (a2 &&& 31)) : Int32) < 0 ∨ (5 : Int32) < 0 ∨ ¬ 0 + 5 ≤ 5 ∨ ¬ (a1 <<< (a2 &&& 31)).toNatClampNeg + 5 ≤ (fn_la 0 (40 + k)).2 then
        none
        else
        some ((fn_cp y1 (40 + k) 0 (a1 <<< (a2 &&& 31)).toNatClampNeg 5), none))
      else
      none)
    else
    none))) := by
  obtain rfl | rfl | rfl | rfl : k = 1 ∨ k = 2 ∨ k = 3 ∨ k = 4 := by omega
  · exact ft_Str_getBytes_1 n d a1 a2 x
  · exact ft_Str_getBytes_2 n d a1 a2 x
  · exact ft_Str_getBytes_3 n d a1 a2 x
  · exact ft_Str_getBytes_4 n d a1 a2 x
theorem fk_Int_getChars (n d : Nat) {k : Nat} (h1 : 1 ≤ k) (h2 : k ≤ 4) (a1 a2 : Int32) (x : fn_M) : fn_ev 0 (n + 2000) (d + 1) 155 [.int a1, .int a2, .ref (40 + k)] x =
  (if 0 ≤ a1 then
    fn_run 0 (fn_ev 0 (n + 2000) d) (fn_lk fn_d155) (n + 1989) 22 [(0, .int (-a1)), (1, .int a2), (2, .ref (40 + k)), (5, .int a2), (6, .int 0)] [] x
    else
    fn_run 0 (fn_ev 0 (n + 2000) d) (fn_lk fn_d155) (n + 1991) 22 [(0, .int a1), (1, .int a2), (2, .ref (40 + k)), (5, .int a2), (6, .int 1)] [] x) := by
  obtain rfl | rfl | rfl | rfl : k = 1 ∨ k = 2 ∨ k = 3 ∨ k = 4 := by omega
  · exact ft_Int_getChars_1 n d a1 a2 x
  · exact ft_Int_getChars_2 n d a1 a2 x
  · exact ft_Int_getChars_3 n d a1 a2 x
  · exact ft_Int_getChars_4 n d a1 a2 x
