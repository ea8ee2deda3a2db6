theorem fk_Master_writeNext (n d : Nat) {k : Nat} (h1 : 1 ≤ k) (h2 : k ≤ 4) (x : fn_M) : fn_ev 0 (n + 2000) (d + 1) 21 [.ref 45, .ref (48 + k), .ref 1] x =
  (if (x (48 + k) 6) ≤ (x (48 + k) 7) then
    (fn_bv (fn_ev 0 (n + 2000) d 55 [.ref 1, .int 0, .int 0, .int 1, .int (x 46 2), .int 0] (fn_w x (48 + k) 2 4)) (fun y1 =>
      (fn_bv (fn_ev 0 (n + 2000) d 14 [.ref 45, .int 2, .int (y1 46 2), .int 0] y1) (fun y2 =>
      some (y2, none)))))
    else
    (if (x (48 + k) 7) < 0 ∨ 3 ≤ (x (48 + k) 7).toNatClampNeg then
      none
      else
      (if (x (48 + k) 7) < 0 ∨ 3 ≤ (x (48 + k) 7).toNatClampNeg then
        none
        else
        (fn_bv (fn_ev 0 (n + 2000) d 1 [.ref 46, .int (x 46 2), .int (x (52 + k) (x (48 + k) 7).toNatClampNeg), .int (x (56 + k) (x (48 + k) 7).toNatClampNeg), .ref 1] x) (fun y3 =>
          some (y3, none)))))) := by
  obtain rfl | rfl | rfl | rfl : k = 1 ∨ k = 2 ∨ k = 3 ∨ k = 4 := by omega
  · exact ft_Master_writeNext_1 n d x
  · exact ft_Master_writeNext_2 n d x
  · exact ft_Master_writeNext_3 n d x
  · exact ft_Master_writeNext_4 n d x
theorem fk_Member_isExpected (n d : Nat) {k : Nat} (h1 : 1 ≤ k) (h2 : k ≤ 4) (x : fn_M) : fn_ev 0 (n + 2000) (d + 1) 22 [.ref (48 + k)] x =
  (if (x (48 + k) 0) = (-1) then
    some (x, some (.int 0))
    else
    some (x, some (.int 1))) := by
  obtain rfl | rfl | rfl | rfl : k = 1 ∨ k = 2 ∨ k = 3 ∨ k = 4 := by omega
  · exact ft_Member_isExpected_1 n d x
  · exact ft_Member_isExpected_2 n d x
  · exact ft_Member_isExpected_3 n d x
  · exact ft_Member_isExpected_4 n d x
theorem fk_Member_expectAnew (n d : Nat) {k : Nat} (h1 : 1 ≤ k) (h2 : k ≤ 4) (a1 a2 : Int32) (x : fn_M) : fn_ev 0 (n + 2000) (d + 1) 23 [.ref (48 + k), .int a1, .int a2] x =
  some ((fn_w (fn_w (fn_w x (48 + k) 0 a1) (48 + k) 1 a2) (48 + k) 6 0), none) := by
  obtain rfl | rfl | rfl | rfl : k = 1 ∨ k = 2 ∨ k = 3 ∨ k = 4 := by omega
  · exact ft_Member_expectAnew_1 n d a1 a2 x
  · exact ft_Member_expectAnew_2 n d a1 a2 x
  · exact ft_Member_expectAnew_3 n d a1 a2 x
  · exact ft_Member_expectAnew_4 n d a1 a2 x
theorem fk_Member_addWrite (n d : Nat) {k : Nat} (h1 : 1 ≤ k) (h2 : k ≤ 4) (a1 a2 : Int32) (x : fn_M) : fn_ev 0 (n + 2000) (d + 1) 24 [.ref (48 + k), .int a1, .int a2] x =
  (fn_bi (fn_ev 0 (n + 2000) d 22 [.ref (48 + k)] x) (fun y1 v2 =>
    (if v2 = 0 then
    some (y1, some (.int 0))
    else
    (if (y1 (48 + k) 6) < 3 then
      (if (y1 (48 + k) 6) < 0 ∨ 3 ≤ (y1 (48 + k) 6).toNatClampNeg then
        none
        else
        (if (y1 (48 + k) 6) < 0 ∨ 3 ≤ (y1 (48 + k) 6).toNatClampNeg then
          none
          else
          some ((fn_w (fn_w (fn_w y1 (52 + k) (y1 (48 + k) 6).toNatClampNeg a1) (56 + k) (y1 (48 + k) 6).toNatClampNeg a2) (48 + k) 6 ((y1 (48 + k) 6) + 1)), some (.int 1))))
      else
      some (y1, some (.int 0)))))) := by
  obtain rfl | rfl | rfl | rfl : k = 1 ∨ k = 2 ∨ k = 3 ∨ k = 4 := by omega
  · exact ft_Member_addWrite_1 n d a1 a2 x
  · exact ft_Member_addWrite_2 n d a1 a2 x
  · exact ft_Member_addWrite_3 n d a1 a2 x
  · exact ft_Member_addWrite_4 n d a1 a2 x
theorem fk_Member_isMissed (n d : Nat) {k : Nat} (h1 : 1 ≤ k) (h2 : k ≤ 4) (a1 : Int32) (x : fn_M) : fn_ev 0 (n + 2000) (d + 1) 25 [.ref (48 + k), .int a1] x =
  (if (x (48 + k) 1) ≤ 0 then
    some (x, some (.int 0))
    else
    (if (x (48 + k) 3) = (-1) then
      some (x, some (.int 0))
      else
      (if (a1 - (x (48 + k) 3)) < (x (48 + k) 1) then
        some (x, some (.int 0))
        else
        some (x, some (.int 1))))) := by
  obtain rfl | rfl | rfl | rfl : k = 1 ∨ k = 2 ∨ k = 3 ∨ k = 4 := by omega
  · exact ft_Member_isMissed_1 n d a1 x
  · exact ft_Member_isMissed_2 n d a1 x
  · exact ft_Member_isMissed_3 n d a1 x
  · exact ft_Member_isMissed_4 n d a1 x
theorem fk_Node_isOn (n d : Nat) {k : Nat} (h1 : 1 ≤ k) (h2 : k ≤ 4) (x : fn_M) : fn_ev 0 (n + 2000) (d + 1) 26 [.ref (28 + k)] x =
  (if (x (28 + k) 3) = 0 then
    some (x, some (.int 0))
    else
    some (x, some (.int 1))) := by
  obtain rfl | rfl | rfl | rfl : k = 1 ∨ k = 2 ∨ k = 3 ∨ k = 4 := by omega
  · exact ft_Node_isOn_1 n d x
  · exact ft_Node_isOn_2 n d x
  · exact ft_Node_isOn_3 n d x
  · exact ft_Node_isOn_4 n d x
theorem fk_Node_takeIdentity (n d : Nat) {k : Nat} (h1 : 1 ≤ k) (h2 : k ≤ 4) (a1 : Int32) (x : fn_M) : fn_ev 0 (n + 2000) (d + 1) 27 [.ref (28 + k), .int a1] x =
  (fn_bv (fn_ev 0 (n + 2000) d 134 [.ref (36 + k), .int 0] (fn_w x (32 + k) 0 a1)) (fun y1 =>
    (fn_br (fn_ev 0 (n + 2000) d 135 [.ref (36 + k), .ref 1002] y1) (fun y2 p3 =>
    (if (fn_lc 0 p3 == 9) = true then
    (fn_br (fn_ev 0 (n + 2000) d 136 [.ref p3, .int (y2 (28 + k) 0)] y2) (fun y4 p5 =>
      (if (fn_lc 0 p5 == 9) = true then
      (fn_br (fn_ev 0 (n + 2000) d 137 [.ref p5, .int 58] y4) (fun y6 p7 =>
        (if (fn_lc 0 p7 == 9) = true then
        (fn_br (fn_ev 0 (n + 2000) d 136 [.ref p7, .int a1] y6) (fun y8 p9 =>
          some (y8, none)) (fun y8 =>
          none))
        else
        none)) (fun y6 =>
        none))
      else
      none)) (fun y4 =>
      none))
    else
    none)) (fun y2 =>
    none)))) := by
  obtain rfl | rfl | rfl | rfl : k = 1 ∨ k = 2 ∨ k = 3 ∨ k = 4 := by omega
  · exact ft_Node_takeIdentity_1 n d a1 x
  · exact ft_Node_takeIdentity_2 n d a1 x
  · exact ft_Node_takeIdentity_3 n d a1 x
  · exact ft_Node_takeIdentity_4 n d a1 x
theorem fk_Node_reset (n d : Nat) {k : Nat} (h1 : 1 ≤ k) (h2 : k ≤ 4) (x : fn_M) : fn_ev 0 (n + 2000) (d + 1) 28 [.ref (28 + k), .ref 1] x =
  (fn_bv (fn_ev 0 (n + 2000) d 55 [.ref 1, .int (x (28 + k) 0), .int (1792 + (x (28 + k) 0)), .int 0, .int 0, .int 0] (fn_w (fn_w (fn_w (fn_w (fn_w (fn_w (fn_w (fn_w (fn_w (fn_w (fn_w (fn_w (fn_w (fn_w (fn_w (fn_w (fn_w (fn_w (fn_w (fn_w (fn_w (fn_w x (32 + k) 1 0) (32 + k) 2 0) (32 + k) 3 0) (32 + k) 4 0) (32 + k) 5 0) (32 + k) 6 0) (32 + k) 7 0) (32 + k) 8 0) (32 + k) 9 0) (32 + k) 10 0) (32 + k) 11 0) (32 + k) 12 0) (32 + k) 13 0) (32 + k) 14 0) (32 + k) 15 0) (28 + k) 3 127) (28 + k) 5 (-1)) (28 + k) 6 0) (28 + k) 7 0) (28 + k) 8 (-1)) (28 + k) 9 0) (28 + k) 4 (x 1 6))) (fun y1 =>
    some (y1, none))) := by
  obtain rfl | rfl | rfl | rfl : k = 1 ∨ k = 2 ∨ k = 3 ∨ k = 4 := by omega
  · exact ft_Node_reset_1 n d x
  · exact ft_Node_reset_2 n d x
  · exact ft_Node_reset_3 n d x
  · exact ft_Node_reset_4 n d x
theorem fk_Node_switchOff (n d : Nat) {k : Nat} (h1 : 1 ≤ k) (h2 : k ≤ 4) (x : fn_M) : fn_ev 0 (n + 2000) (d + 1) 29 [.ref (28 + k), .ref 1] x =
  (fn_bv (fn_ev 0 (n + 2000) d 56 [.ref 1, .int (x (28 + k) 0)] (fn_w x (28 + k) 3 0)) (fun y1 =>
    some (y1, none))) := by
  obtain rfl | rfl | rfl | rfl : k = 1 ∨ k = 2 ∨ k = 3 ∨ k = 4 := by omega
  · exact ft_Node_switchOff_1 n d x
  · exact ft_Node_switchOff_2 n d x
  · exact ft_Node_switchOff_3 n d x
  · exact ft_Node_switchOff_4 n d x
theorem fk_Node_takeInput (n d : Nat) {k : Nat} (h1 : 1 ≤ k) (h2 : k ≤ 4) (a1 a2 : Int32) (x : fn_M) : fn_ev 0 (n + 2000) (d + 1) 30 [.ref (28 + k), .int a1, .int a2, .ref 1] x =
  (if a1 < 0 ∨ 16 ≤ a1.toNatClampNeg then
    none
    else
    (if (x (32 + k) a1.toNatClampNeg) = a2 then
      (if a1 < 0 ∨ 16 ≤ a1.toNatClampNeg then
        none
        else
        some ((fn_w x (32 + k) a1.toNatClampNeg a2), none))
      else
      (if a1 < 0 ∨ 16 ≤ a1.toNatClampNeg then
        none
        else
        (fn_bi (fn_ev 0 (n + 2000) d 31 [.ref (28 + k)] (fn_w x (32 + k) a1.toNatClampNeg a2)) (fun y1 v2 =>
          (if v2 = 0 then
          some (y1, none)
          else
          (fn_bi (fn_ev 0 (n + 2000) d 32 [.ref (28 + k), .int a1] y1) (fun y3 v4 =>
            (if v4 = 0 then
            some (y3, none)
            else
            (fn_bi (fn_ev 0 (n + 2000) d 33 [.ref (28 + k), .int (y3 1 6)] y3) (fun y5 v6 =>
              (if v6 = 0 then
              some ((fn_w y5 (28 + k) 6 1), none)
              else
              (fn_bv (fn_ev 0 (n + 2000) d 34 [.ref (28 + k), .ref 1] y5) (fun y7 =>
                some (y7, none))))))))))))))) := by
  obtain rfl | rfl | rfl | rfl : k = 1 ∨ k = 2 ∨ k = 3 ∨ k = 4 := by omega
  · exact ft_Node_takeInput_1 n d a1 a2 x
  · exact ft_Node_takeInput_2 n d a1 a2 x
  · exact ft_Node_takeInput_3 n d a1 a2 x
  · exact ft_Node_takeInput_4 n d a1 a2 x
theorem fk_Node_sendsOnChange (n d : Nat) {k : Nat} (h1 : 1 ≤ k) (h2 : k ≤ 4) (x : fn_M) : fn_ev 0 (n + 2000) (d + 1) 31 [.ref (28 + k)] x =
  (if (x (28 + k) 3) = 5 then
    (if (x (32 + k) 4) = 0 then
      some (x, some (.int 1))
      else
      some (x, some (.int 0)))
    else
    some (x, some (.int 0))) := by
  obtain rfl | rfl | rfl | rfl : k = 1 ∨ k = 2 ∨ k = 3 ∨ k = 4 := by omega
  · exact ft_Node_sendsOnChange_1 n d x
  · exact ft_Node_sendsOnChange_2 n d x
  · exact ft_Node_sendsOnChange_3 n d x
  · exact ft_Node_sendsOnChange_4 n d x
theorem fk_Node_mapNames (n d : Nat) {k : Nat} (h1 : 1 ≤ k) (h2 : k ≤ 4) (a1 : Int32) (x : fn_M) : fn_ev 0 (n + 2000) (d + 1) 32 [.ref (28 + k), .int a1] x =
  (if ((x (32 + k) 6) / 100) = a1 then
    some (x, some (.int 1))
    else
    (if ((x (32 + k) 6) - (x (32 + k) 6) / 100 * 100) = a1 then
      some (x, some (.int 1))
      else
      some (x, some (.int 0)))) := by
  obtain rfl | rfl | rfl | rfl : k = 1 ∨ k = 2 ∨ k = 3 ∨ k = 4 := by omega
  · exact ft_Node_mapNames_1 n d a1 x
  · exact ft_Node_mapNames_2 n d a1 x
  · exact ft_Node_mapNames_3 n d a1 x
  · exact ft_Node_mapNames_4 n d a1 x
theorem fk_Node_isPauseOver (n d : Nat) {k : Nat} (h1 : 1 ≤ k) (h2 : k ≤ 4) (a1 : Int32) (x : fn_M) : fn_ev 0 (n + 2000) (d + 1) 33 [.ref (28 + k), .int a1] x =
  (if (x (28 + k) 5) = (-1) then
    some (x, some (.int 1))
    else
    (if (a1 - (x (28 + k) 5)) < (x (32 + k) 5) then
      some (x, some (.int 0))
      else
      some (x, some (.int 1)))) := by
  obtain rfl | rfl | rfl | rfl : k = 1 ∨ k = 2 ∨ k = 3 ∨ k = 4 := by omega
  · exact ft_Node_isPauseOver_1 n d a1 x
  · exact ft_Node_isPauseOver_2 n d a1 x
  · exact ft_Node_isPauseOver_3 n d a1 x
  · exact ft_Node_isPauseOver_4 n d a1 x
theorem fk_Node_send (n d : Nat) {k : Nat} (h1 : 1 ≤ k) (h2 : k ≤ 4) (x : fn_M) : fn_ev 0 (n + 2000) (d + 1) 34 [.ref (28 + k), .ref 1] x =
  (if (x (32 + k) 6) = 0 then
    (if (x (32 + k) 6) = 0 then
      (fn_bv (fn_ev 0 (n + 2000) d 55 [.ref 1, .int (x (28 + k) 0), .int (384 + (x (28 + k) 0)), .int 0, .int 0, .int 0] x) (fun y10 =>
        some ((fn_w (fn_w y10 (28 + k) 5 (y10 1 6)) (28 + k) 6 0), none)))
      else
      (fn_bi (fn_ev 0 (n + 2000) d 36 [.ref (28 + k), .int ((x (32 + k) 6) - (x (32 + k) 6) / 100 * 100)] x) (fun y7 v8 =>
        (fn_bv (fn_ev 0 (n + 2000) d 55 [.ref 1, .int (y7 (28 + k) 0), .int (384 + (y7 (28 + k) 0)), .int 0, .int 0, .int v8] y7) (fun y9 =>
        some ((fn_w (fn_w y9 (28 + k) 5 (y9 1 6)) (28 + k) 6 0), none))))))
    else
    (fn_bi (fn_ev 0 (n + 2000) d 36 [.ref (28 + k), .int ((x (32 + k) 6) / 100)] x) (fun y1 v2 =>
      (if (x (32 + k) 6) = 0 then
      (fn_bv (fn_ev 0 (n + 2000) d 55 [.ref 1, .int (y1 (28 + k) 0), .int (384 + (y1 (28 + k) 0)), .int 0, .int v2, .int 0] y1) (fun y6 =>
        some ((fn_w (fn_w y6 (28 + k) 5 (y6 1 6)) (28 + k) 6 0), none)))
      else
      (fn_bi (fn_ev 0 (n + 2000) d 36 [.ref (28 + k), .int ((x (32 + k) 6) - (x (32 + k) 6) / 100 * 100)] y1) (fun y3 v4 =>
        (fn_bv (fn_ev 0 (n + 2000) d 55 [.ref 1, .int (y3 (28 + k) 0), .int (384 + (y3 (28 + k) 0)), .int 0, .int v2, .int v4] y3) (fun y5 =>
        some ((fn_w (fn_w y5 (28 + k) 5 (y5 1 6)) (28 + k) 6 0), none))))))))) := by
  obtain rfl | rfl | rfl | rfl : k = 1 ∨ k = 2 ∨ k = 3 ∨ k = 4 := by omega
  · exact ft_Node_send_1 n d x
  · exact ft_Node_send_2 n d x
  · exact ft_Node_send_3 n d x
  · exact ft_Node_send_4 n d x
theorem fk_Node_takeFailure (n d : Nat) {k : Nat} (h1 : 1 ≤ k) (h2 : k ≤ 4) (a1 : Int32) (x : fn_M) : fn_ev 0 (n + 2000) (d + 1) 35 [.ref (28 + k), .int a1, .ref 1] x =
  (if a1 = 0 then
    (fn_bv (fn_ev 0 (n + 2000) d 55 [.ref 1, .int (x (28 + k) 0), .int (128 + (x (28 + k) 0)), .int a1, .int 0, .int 0] (fn_w x (32 + k) 1 0)) (fun y2 =>
      some (y2, none)))
    else
    (fn_bv (fn_ev 0 (n + 2000) d 55 [.ref 1, .int (x (28 + k) 0), .int (128 + (x (28 + k) 0)), .int a1, .int 0, .int 0] (fn_w x (32 + k) 1 ((x (32 + k) 1) ||| 2))) (fun y1 =>
      some (y1, none)))) := by
  obtain rfl | rfl | rfl | rfl : k = 1 ∨ k = 2 ∨ k = 3 ∨ k = 4 := by omega
  · exact ft_Node_takeFailure_1 n d a1 x
  · exact ft_Node_takeFailure_2 n d a1 x
  · exact ft_Node_takeFailure_3 n d a1 x
  · exact ft_Node_takeFailure_4 n d a1 x
theorem fk_Node_valueOf (n d : Nat) {k : Nat} (h1 : 1 ≤ k) (h2 : k ≤ 4) (a1 : Int32) (x : fn_M) : fn_ev 0 (n + 2000) (d + 1) 36 [.ref (28 + k), .int a1] x =
  (if a1 = 16 then
    (fn_bi (fn_ev 0 (n + 2000) d 138 [.ref (36 + k)] x) (fun y3 v4 =>
      some (y3, some (.int v4))))
    else
    (fn_bi (fn_ev 0 (n + 2000) d 80 [.int a1, .int 0, .int 15] x) (fun y1 v2 =>
      (if v2 = 0 then
      some (y1, some (.int (-1)))
      else
      (if a1 < 0 ∨ 16 ≤ a1.toNatClampNeg then
        none
        else
        some (y1, some (.int (y1 (32 + k) a1.toNatClampNeg)))))))) := by
  obtain rfl | rfl | rfl | rfl : k = 1 ∨ k = 2 ∨ k = 3 ∨ k = 4 := by omega
  · exact ft_Node_valueOf_1 n d a1 x
  · exact ft_Node_valueOf_2 n d a1 x
  · exact ft_Node_valueOf_3 n d a1 x
  · exact ft_Node_valueOf_4 n d a1 x
theorem fk_Node_live (n d : Nat) {k : Nat} (h1 : 1 ≤ k) (h2 : k ≤ 4) (x : fn_M) : fn_ev 0 (n + 2000) (d + 1) 37 [.ref (28 + k), .ref 1] x =
  (fn_bi (fn_ev 0 (n + 2000) d 26 [.ref (28 + k)] x) (fun y1 v2 =>
    (if v2 = 0 then
    some (y1, none)
    else
    (fn_bv (fn_ev 0 (n + 2000) d 38 [.ref (28 + k), .ref 1] y1) (fun y3 =>
      (fn_bv (fn_ev 0 (n + 2000) d 39 [.ref (28 + k), .ref 1] y3) (fun y4 =>
      (fn_bi (fn_ev 0 (n + 2000) d 31 [.ref (28 + k)] y4) (fun y5 v6 =>
      (if v6 = 0 then
      some (y5, none)
      else
      (if (y5 (28 + k) 6) = 0 then
        some (y5, none)
        else
        (fn_bi (fn_ev 0 (n + 2000) d 33 [.ref (28 + k), .int (y5 1 6)] y5) (fun y7 v8 =>
          (if v8 = 0 then
          some (y7, none)
          else
          (fn_bv (fn_ev 0 (n + 2000) d 34 [.ref (28 + k), .ref 1] y7) (fun y9 =>
            some (y9, none))))))))))))))))) := by
  obtain rfl | rfl | rfl | rfl : k = 1 ∨ k = 2 ∨ k = 3 ∨ k = 4 := by omega
  · exact ft_Node_live_1 n d x
  · exact ft_Node_live_2 n d x
  · exact ft_Node_live_3 n d x
  · exact ft_Node_live_4 n d x
theorem fk_Node_beatIfDue (n d : Nat) {k : Nat} (h1 : 1 ≤ k) (h2 : k ≤ 4) (x : fn_M) : fn_ev 0 (n + 2000) (d + 1) 38 [.ref (28 + k), .ref 1] x =
  (if (x (32 + k) 2) ≤ 0 then
    some (x, none)
    else
    (if ((x 1 6) - (x (28 + k) 4)) < (x (32 + k) 2) then
      some (x, none)
      else
      (fn_bv (fn_ev 0 (n + 2000) d 55 [.ref 1, .int (x (28 + k) 0), .int (1792 + (x (28 + k) 0)), .int (x (28 + k) 3), .int 0, .int 0] x) (fun y1 =>
        some ((fn_w y1 (28 + k) 4 (y1 1 6)), none))))) := by
  obtain rfl | rfl | rfl | rfl : k = 1 ∨ k = 2 ∨ k = 3 ∨ k = 4 := by omega
  · exact ft_Node_beatIfDue_1 n d x
  · exact ft_Node_beatIfDue_2 n d x
  · exact ft_Node_beatIfDue_3 n d x
  · exact ft_Node_beatIfDue_4 n d x
theorem fk_Node_missWatched (n d : Nat) {k : Nat} (h1 : 1 ≤ k) (h2 : k ≤ 4) (x : fn_M) : fn_ev 0 (n + 2000) (d + 1) 39 [.ref (28 + k), .ref 1] x =
  (if (x (32 + k) 3) = 0 then
    some (x, none)
    else
    (if (x (28 + k) 8) = (-1) then
      some (x, none)
      else
      (if ((x (32 + k) 3) - (x (32 + k) 3) / 100 * 100) ≤ ((x 1 6) - (x (28 + k) 8)) then
        (fn_bv (fn_ev 0 (n + 2000) d 55 [.ref 1, .int (x (28 + k) 0), .int (128 + (x (28 + k) 0)), .int 1, .int 0, .int 0] (fn_w (fn_w x (28 + k) 8 (-1)) (32 + k) 1 ((x (32 + k) 1) ||| 1))) (fun y1 =>
          (if (y1 (28 + k) 3) = 5 then
          some ((fn_w y1 (28 + k) 3 127), none)
          else
          some (y1, none))))
        else
        some (x, none)))) := by
  obtain rfl | rfl | rfl | rfl : k = 1 ∨ k = 2 ∨ k = 3 ∨ k = 4 := by omega
  · exact ft_Node_missWatched_1 n d x
  · exact ft_Node_missWatched_2 n d x
  · exact ft_Node_missWatched_3 n d x
  · exact ft_Node_missWatched_4 n d x
theorem fk_Node_hear (n d : Nat) {k : Nat} (h1 : 1 ≤ k) (h2 : k ≤ 4) (p : Nat) (x : fn_M) : fn_ev 0 (n + 2000) (d + 1) 40 [.ref (28 + k), .ref p, .ref 1] x =
  (fn_bi (fn_ev 0 (n + 2000) d 26 [.ref (28 + k)] x) (fun y1 v2 =>
    (if v2 = 0 then
    some (y1, none)
    else
    (if fn_lc 0 p = 2 then
      (if (y1 p 1) = 0 then
        (fn_bv (fn_ev 0 (n + 2000) d 41 [.ref (28 + k), .ref p, .ref 1] y1) (fun y11 =>
          some (y11, none)))
        else
        (if fn_lc 0 p = 2 then
          (if (y1 p 1) = 128 then
            (fn_bv (fn_ev 0 (n + 2000) d 42 [.ref (28 + k), .ref 1] y1) (fun y10 =>
              some (y10, none)))
            else
            (if fn_lc 0 p = 2 then
              (if (y1 p 1) = (1536 + (y1 (28 + k) 0)) then
                (fn_bv (fn_ev 0 (n + 2000) d 46 [.ref (28 + k), .ref p, .ref 1] y1) (fun y9 =>
                  some (y9, none)))
                else
                (if fn_lc 0 p = 2 then
                  (fn_bi (fn_ev 0 (n + 2000) d 81 [.int ((y1 p 1) - 384)] y1) (fun y3 v4 =>
                    (if v4 = 0 then
                    (if fn_lc 0 p = 2 then
                      (fn_bi (fn_ev 0 (n + 2000) d 81 [.int ((y3 p 1) - 1792)] y3) (fun y5 v6 =>
                        (if v6 = 0 then
                        some (y5, none)
                        else
                        (if fn_lc 0 p = 2 then
                          (if fn_lc 0 p = 2 then
                            (fn_bv (fn_ev 0 (n + 2000) d 45 [.ref (28 + k), .int ((y5 p 1) - 1792), .int (y5 p 2), .int (y5 1 6)] y5) (fun y7 =>
                              some (y7, none)))
                            else
                            none)
                          else
                          none))))
                      else
                      none)
                    else
                    (if fn_lc 0 p = 2 then
                      (if fn_lc 0 p = 2 then
                        (if fn_lc 0 p = 2 then
                          (fn_bv (fn_ev 0 (n + 2000) d 43 [.ref (28 + k), .int ((y3 p 1) - 384), .int (y3 p 3), .int (y3 p 4)] y3) (fun y8 =>
                            some (y8, none)))
                          else
                          none)
                        else
                        none)
                      else
                      none))))
                  else
                  none))
              else
              none))
          else
          none))
      else
      none)))) := by
  obtain rfl | rfl | rfl | rfl : k = 1 ∨ k = 2 ∨ k = 3 ∨ k = 4 := by omega
  · exact ft_Node_hear_1 n d p x
  · exact ft_Node_hear_2 n d p x
  · exact ft_Node_hear_3 n d p x
  · exact ft_Node_hear_4 n d p x
theorem fk_Node_obey (n d : Nat) {k : Nat} (h1 : 1 ≤ k) (h2 : k ≤ 4) (p : Nat) (x : fn_M) : fn_ev 0 (n + 2000) (d + 1) 41 [.ref (28 + k), .ref p, .ref 1] x =
  (if fn_lc 0 p = 2 then
    (if (x p 3) = 0 then
      (if fn_lc 0 p = 2 then
        (if (x p 2) = 1 then
          some ((fn_w x (28 + k) 3 5), none)
          else
          (if (x p 2) = 2 then
            some ((fn_w x (28 + k) 3 4), none)
            else
            (if (x p 2) = 128 then
              some ((fn_w x (28 + k) 3 127), none)
              else
              (if (x p 2) = 129 then
                (fn_bv (fn_ev 0 (n + 2000) d 28 [.ref (28 + k), .ref 1] x) (fun y1 =>
                  some (y1, none)))
                else
                some (x, none)))))
        else
        none)
      else
      (if fn_lc 0 p = 2 then
        (if (x p 3) = (x (28 + k) 0) then
          (if fn_lc 0 p = 2 then
            (if (x p 2) = 1 then
              some ((fn_w x (28 + k) 3 5), none)
              else
              (if (x p 2) = 2 then
                some ((fn_w x (28 + k) 3 4), none)
                else
                (if (x p 2) = 128 then
                  some ((fn_w x (28 + k) 3 127), none)
                  else
                  (if (x p 2) = 129 then
                    (fn_bv (fn_ev 0 (n + 2000) d 28 [.ref (28 + k), .ref 1] x) (fun y2 =>
                      some (y2, none)))
                    else
                    some (x, none)))))
            else
            none)
          else
          some (x, none))
        else
        none))
    else
    none) := by
  obtain rfl | rfl | rfl | rfl : k = 1 ∨ k = 2 ∨ k = 3 ∨ k = 4 := by omega
  · exact ft_Node_obey_1 n d p x
  · exact ft_Node_obey_2 n d p x
  · exact ft_Node_obey_3 n d p x
  · exact ft_Node_obey_4 n d p x
theorem fk_Node_countSync (n d : Nat) {k : Nat} (h1 : 1 ≤ k) (h2 : k ≤ 4) (x : fn_M) : fn_ev 0 (n + 2000) (d + 1) 42 [.ref (28 + k), .ref 1] x =
  (if (x (28 + k) 3) = 5 then
    (if (x (32 + k) 4) = 0 then
      some (x, none)
      else
      (if ((x (28 + k) 7) + 1) < (x (32 + k) 4) then
        some ((fn_w x (28 + k) 7 ((x (28 + k) 7) + 1)), none)
        else
        (fn_bv (fn_ev 0 (n + 2000) d 34 [.ref (28 + k), .ref 1] (fn_w x (28 + k) 7 ((x (28 + k) 7) + 1))) (fun y1 =>
          some ((fn_w y1 (28 + k) 7 0), none)))))
    else
    some (x, none)) := by
  obtain rfl | rfl | rfl | rfl : k = 1 ∨ k = 2 ∨ k = 3 ∨ k = 4 := by omega
  · exact ft_Node_countSync_1 n d x
  · exact ft_Node_countSync_2 n d x
  · exact ft_Node_countSync_3 n d x
  · exact ft_Node_countSync_4 n d x
theorem fk_Node_takeSample (n d : Nat) {k : Nat} (h1 : 1 ≤ k) (h2 : k ≤ 4) (a1 a2 a3 : Int32) (x : fn_M) : fn_ev 0 (n + 2000) (d + 1) 43 [.ref (28 + k), .int a1, .int a2, .int a3] x =
  (if (x (28 + k) 3) = 5 then
    (if ((x (32 + k) 7) / 10000) = a1 then
      (fn_bv (fn_ev 0 (n + 2000) d 44 [.ref (28 + k), .int (((x (32 + k) 7) / 100) - ((x (32 + k) 7) / 100) / 100 * 100), .int a2] x) (fun y1 =>
        (fn_bv (fn_ev 0 (n + 2000) d 44 [.ref (28 + k), .int ((x (32 + k) 7) - (x (32 + k) 7) / 100 * 100), .int a3] y1) (fun y2 =>
        some (y2, none)))))
      else
      some (x, none))
    else
    some (x, none)) := by
  obtain rfl | rfl | rfl | rfl : k = 1 ∨ k = 2 ∨ k = 3 ∨ k = 4 := by omega
  · exact ft_Node_takeSample_1 n d a1 a2 a3 x
  · exact ft_Node_takeSample_2 n d a1 a2 a3 x
  · exact ft_Node_takeSample_3 n d a1 a2 a3 x
  · exact ft_Node_takeSample_4 n d a1 a2 a3 x
theorem fk_Node_fillOutput (n d : Nat) {k : Nat} (h1 : 1 ≤ k) (h2 : k ≤ 4) (a1 a2 : Int32) (x : fn_M) : fn_ev 0 (n + 2000) (d + 1) 44 [.ref (28 + k), .int a1, .int a2] x =
  (fn_bi (fn_ev 0 (n + 2000) d 83 [.int a1] x) (fun y1 v2 =>
    (if v2 = 0 then
    some (y1, none)
    else
    (if a1 < 0 ∨ 16 ≤ a1.toNatClampNeg then
      none
      else
      some ((fn_w y1 (32 + k) a1.toNatClampNeg a2), none))))) := by
  obtain rfl | rfl | rfl | rfl : k = 1 ∨ k = 2 ∨ k = 3 ∨ k = 4 := by omega
  · exact ft_Node_fillOutput_1 n d a1 a2 x
  · exact ft_Node_fillOutput_2 n d a1 a2 x
  · exact ft_Node_fillOutput_3 n d a1 a2 x
  · exact ft_Node_fillOutput_4 n d a1 a2 x
theorem fk_Node_takeBeat (n d : Nat) {k : Nat} (h1 : 1 ≤ k) (h2 : k ≤ 4) (a1 a2 a3 : Int32) (x : fn_M) : fn_ev 0 (n + 2000) (d + 1) 45 [.ref (28 + k), .int a1, .int a2, .int a3] x =
  (if ((x (32 + k) 3) / 100) = a1 then
    (if a2 = 0 then
      some ((fn_w x (28 + k) 8 (-1)), none)
      else
      some ((fn_w x (28 + k) 8 a3), none))
    else
    some (x, none)) := by
  obtain rfl | rfl | rfl | rfl : k = 1 ∨ k = 2 ∨ k = 3 ∨ k = 4 := by omega
  · exact ft_Node_takeBeat_1 n d a1 a2 a3 x
  · exact ft_Node_takeBeat_2 n d a1 a2 a3 x
  · exact ft_Node_takeBeat_3 n d a1 a2 a3 x
  · exact ft_Node_takeBeat_4 n d a1 a2 a3 x
theorem fk_Node_serve (n d : Nat) {k : Nat} (h1 : 1 ≤ k) (h2 : k ≤ 4) (p : Nat) (x : fn_M) : fn_ev 0 (n + 2000) (d + 1) 46 [.ref (28 + k), .ref p, .ref 1] x =
  (if (x (28 + k) 3) = 4 then
    some (x, none)
    else
    (if fn_lc 0 p = 2 then
      (if (x p 2) = 1 then
        (if fn_lc 0 p = 2 then
          (if fn_lc 0 p = 2 then
            (fn_bi (fn_ev 0 (n + 2000) d 49 [.ref (28 + k), .int (x p 3), .int (x p 4)] x) (fun y4 v5 =>
              (if v5 = 0 then
              (if fn_lc 0 p = 2 then
                (if fn_lc 0 p = 2 then
                  (fn_bv (fn_ev 0 (n + 2000) d 48 [.ref (28 + k), .int (y4 p 3), .int (y4 p 4), .int (y4 1 6)] y4) (fun y8 =>
                    (if v5 = 0 then
                    (if fn_lc 0 p = 2 then
                      (fn_bv (fn_ev 0 (n + 2000) d 47 [.ref (28 + k), .int 1, .int (y8 p 3), .int v5, .ref 1] y8) (fun y10 =>
                        some (y10, none)))
                      else
                      none)
                    else
                    (if fn_lc 0 p = 2 then
                      (fn_bv (fn_ev 0 (n + 2000) d 47 [.ref (28 + k), .int 9, .int (y8 p 3), .int v5, .ref 1] y8) (fun y9 =>
                        some (y9, none)))
                      else
                      none))))
                  else
                  none)
                else
                none)
              else
              (if v5 = 0 then
                (if fn_lc 0 p = 2 then
                  (fn_bv (fn_ev 0 (n + 2000) d 47 [.ref (28 + k), .int 1, .int (y4 p 3), .int v5, .ref 1] y4) (fun y7 =>
                    some (y7, none)))
                  else
                  none)
                else
                (if fn_lc 0 p = 2 then
                  (fn_bv (fn_ev 0 (n + 2000) d 47 [.ref (28 + k), .int 9, .int (y4 p 3), .int v5, .ref 1] y4) (fun y6 =>
                    some (y6, none)))
                  else
                  none)))))
            else
            none)
          else
          none)
        else
        (if (x p 2) = 2 then
          (if fn_lc 0 p = 2 then
            (fn_bv (fn_ev 0 (n + 2000) d 52 [.ref (28 + k), .int (x p 3), .ref 1] x) (fun y3 =>
              some (y3, none)))
            else
            none)
          else
          (if (x p 2) = 3 then
            (if fn_lc 0 p = 2 then
              (fn_bv (fn_ev 0 (n + 2000) d 53 [.ref (28 + k), .int (x p 3), .ref 1] x) (fun y2 =>
                some (y2, none)))
              else
              none)
            else
            (if fn_lc 0 p = 2 then
              (fn_bv (fn_ev 0 (n + 2000) d 47 [.ref (28 + k), .int 9, .int (x p 3), .int 6, .ref 1] x) (fun y1 =>
                some (y1, none)))
              else
              none))))
      else
      none)) := by
  obtain rfl | rfl | rfl | rfl : k = 1 ∨ k = 2 ∨ k = 3 ∨ k = 4 := by omega
  · exact ft_Node_serve_1 n d p x
  · exact ft_Node_serve_2 n d p x
  · exact ft_Node_serve_3 n d p x
  · exact ft_Node_serve_4 n d p x
theorem fk_Node_answer (n d : Nat) {k : Nat} (h1 : 1 ≤ k) (h2 : k ≤ 4) (a1 a2 a3 : Int32) (x : fn_M) : fn_ev 0 (n + 2000) (d + 1) 47 [.ref (28 + k), .int a1, .int a2, .int a3, .ref 1] x =
  (fn_bv (fn_ev 0 (n + 2000) d 55 [.ref 1, .int (x (28 + k) 0), .int (1408 + (x (28 + k) 0)), .int a1, .int a2, .int a3] x) (fun y1 =>
    some (y1, none))) := by
  obtain rfl | rfl | rfl | rfl : k = 1 ∨ k = 2 ∨ k = 3 ∨ k = 4 := by omega
  · exact ft_Node_answer_1 n d a1 a2 a3 x
  · exact ft_Node_answer_2 n d a1 a2 a3 x
  · exact ft_Node_answer_3 n d a1 a2 a3 x
  · exact ft_Node_answer_4 n d a1 a2 a3 x
theorem fk_Node_store (n d : Nat) {k : Nat} (h1 : 1 ≤ k) (h2 : k ≤ 4) (a1 a2 a3 : Int32) (x : fn_M) : fn_ev 0 (n + 2000) (d + 1) 48 [.ref (28 + k), .int a1, .int a2, .int a3] x =
  (if a1 < 0 ∨ 16 ≤ a1.toNatClampNeg then
    none
    else
    (if a1 = 2 then
      some ((fn_w (fn_w x (32 + k) a1.toNatClampNeg a2) (28 + k) 4 a3), none)
      else
      (if a1 = 3 then
        some ((fn_w (fn_w x (32 + k) a1.toNatClampNeg a2) (28 + k) 8 (-1)), none)
        else
        (if a1 = 4 then
          some ((fn_w (fn_w x (32 + k) a1.toNatClampNeg a2) (28 + k) 7 0), none)
          else
          some ((fn_w x (32 + k) a1.toNatClampNeg a2), none))))) := by
  obtain rfl | rfl | rfl | rfl : k = 1 ∨ k = 2 ∨ k = 3 ∨ k = 4 := by omega
  · exact ft_Node_store_1 n d a1 a2 a3 x
  · exact ft_Node_store_2 n d a1 a2 a3 x
  · exact ft_Node_store_3 n d a1 a2 a3 x
  · exact ft_Node_store_4 n d a1 a2 a3 x
theorem fk_Node_codeOfWrite (n d : Nat) {k : Nat} (h1 : 1 ≤ k) (h2 : k ≤ 4) (a1 a2 : Int32) (x : fn_M) : fn_ev 0 (n + 2000) (d + 1) 49 [.ref (28 + k), .int a1, .int a2] x =
  (fn_bi (fn_ev 0 (n + 2000) d 80 [.int a1, .int 0, .int 16] x) (fun y1 v2 =>
    (if v2 = 0 then
    some (y1, some (.int 1))
    else
    (fn_bi (fn_ev 0 (n + 2000) d 80 [.int a1, .int 2, .int 7] y1) (fun y3 v4 =>
      (if v4 = 0 then
      (fn_bi (fn_ev 0 (n + 2000) d 83 [.int a1] y3) (fun y5 v6 =>
        (if v6 = 0 then
        some (y5, some (.int 2))
        else
        fn_run 0 (fn_ev 0 (n + 2000) d) (fn_lk fn_d49) (n + 1987) 31 [(0, .ref (28 + k)), (1, .int a1), (2, .int a2)] [] y5)))
      else
      fn_run 0 (fn_ev 0 (n + 2000) d) (fn_lk fn_d49) (n + 1990) 31 [(0, .ref (28 + k)), (1, .int a1), (2, .int a2)] [] y3)))))) := by
  obtain rfl | rfl | rfl | rfl : k = 1 ∨ k = 2 ∨ k = 3 ∨ k = 4 := by omega
  · exact ft_Node_codeOfWrite_1 n d a1 a2 x
  · exact ft_Node_codeOfWrite_2 n d a1 a2 x
  · exact ft_Node_codeOfWrite_3 n d a1 a2 x
  · exact ft_Node_codeOfWrite_4 n d a1 a2 x
theorem fk_Node_codeOfWrite_at31 (n d m : Nat) {k : Nat} (h1 : 1 ≤ k) (h2 : k ≤ 4) (l1 l2 : Int32) (x : fn_M) : fn_run 0 (fn_ev 0 (n + 2000) d) (fn_lk fn_d49) (m + 26) 31 [(0, .ref (28 + k)), (1, .int l1), (2, .int l2)] [] x =
  (fn_bi (fn_ev 0 (n + 2000) d 50 [.ref (28 + k), .int l1, .int l2] x) (fun y1 v2 =>
    (if v2 = 0 then
    some (y1, some (.int 3))
    else
    (if l1 = 4 then
      fn_run 0 (fn_ev 0 (n + 2000) d) (fn_lk fn_d49) (m + 18) 59 [(0, .ref (28 + k)), (1, .int l1), (2, .int l2)] [] y1
      else
      (if l1 = 6 then
        fn_run 0 (fn_ev 0 (n + 2000) d) (fn_lk fn_d49) (m + 15) 59 [(0, .ref (28 + k)), (1, .int l1), (2, .int l2)] [] y1
        else
        (if l1 = 7 then
          fn_run 0 (fn_ev 0 (n + 2000) d) (fn_lk fn_d49) (m + 12) 59 [(0, .ref (28 + k)), (1, .int l1), (2, .int l2)] [] y1
          else
          fn_run 0 (fn_ev 0 (n + 2000) d) (fn_lk fn_d49) (m + 8) 81 [(0, .ref (28 + k)), (1, .int l1), (2, .int l2), (3, .int 0)] [] y1)))))) := by
  obtain rfl | rfl | rfl | rfl : k = 1 ∨ k = 2 ∨ k = 3 ∨ k = 4 := by omega
  · exact ft_Node_codeOfWrite_1_at31 n d m l1 l2 x
  · exact ft_Node_codeOfWrite_2_at31 n d m l1 l2 x
  · exact ft_Node_codeOfWrite_3_at31 n d m l1 l2 x
  · exact ft_Node_codeOfWrite_4_at31 n d m l1 l2 x
theorem fk_Node_codeOfWrite_at59 (n d m : Nat) {k : Nat} (h1 : 1 ≤ k) (h2 : k ≤ 4) (l1 l2 : Int32) (x : fn_M) : fn_run 0 (fn_ev 0 (n + 2000) d) (fn_lk fn_d49) (m + 12) 59 [(0, .ref (28 + k)), (1, .int l1), (2, .int l2)] [] x =
  (if (x (28 + k) 3) = 5 then
    some (x, some (.int 4))
    else
    fn_run 0 (fn_ev 0 (n + 2000) d) (fn_lk fn_d49) (m + 3) 81 [(0, .ref (28 + k)), (1, .int l1), (2, .int l2), (3, .int 1)] [] x) := by
  obtain rfl | rfl | rfl | rfl : k = 1 ∨ k = 2 ∨ k = 3 ∨ k = 4 := by omega
  · exact ft_Node_codeOfWrite_1_at59 n d m l1 l2 x
  · exact ft_Node_codeOfWrite_2_at59 n d m l1 l2 x
  · exact ft_Node_codeOfWrite_3_at59 n d m l1 l2 x
  · exact ft_Node_codeOfWrite_4_at59 n d m l1 l2 x
theorem fk_Node_codeOfWrite_at81_0 (n d m : Nat) {k : Nat} (h1 : 1 ≤ k) (h2 : k ≤ 4) (l1 l2 : Int32) (x : fn_M) : fn_run 0 (fn_ev 0 (n + 2000) d) (fn_lk fn_d49) (m + 2) 81 [(0, .ref (28 + k)), (1, .int l1), (2, .int l2), (3, .int 0)] [] x =
  some (x, some (.int 0)) := by
  obtain rfl | rfl | rfl | rfl : k = 1 ∨ k = 2 ∨ k = 3 ∨ k = 4 := by omega
  · exact ft_Node_codeOfWrite_1_at81_0 n d m l1 l2 x
  · exact ft_Node_codeOfWrite_2_at81_0 n d m l1 l2 x
  · exact ft_Node_codeOfWrite_3_at81_0 n d m l1 l2 x
  · exact ft_Node_codeOfWrite_4_at81_0 n d m l1 l2 x
theorem fk_Node_codeOfWrite_at81_1 (n d m : Nat) {k : Nat} (h1 : 1 ≤ k) (h2 : k ≤ 4) (l1 l2 : Int32) (x : fn_M) : fn_run 0 (fn_ev 0 (n + 2000) d) (fn_lk fn_d49) (m + 2) 81 [(0, .ref (28 + k)), (1, .int l1), (2, .int l2), (3, .int 1)] [] x =
  some (x, some (.int 0)) := by
  obtain rfl | rfl | rfl | rfl : k = 1 ∨ k = 2 ∨ k = 3 ∨ k = 4 := by omega
  · exact ft_Node_codeOfWrite_1_at81_1 n d m l1 l2 x
  · exact ft_Node_codeOfWrite_2_at81_1 n d m l1 l2 x
  · exact ft_Node_codeOfWrite_3_at81_1 n d m l1 l2 x
  · exact ft_Node_codeOfWrite_4_at81_1 n d m l1 l2 x
theorem fk_Node_isValueFor (n d : Nat) {k : Nat} (h1 : 1 ≤ k) (h2 : k ≤ 4) (a1 a2 : Int32) (x : fn_M) : fn_ev 0 (n + 2000) (d + 1) 50 [.ref (28 + k), .int a1, .int a2] x =
  (if a1 = 2 then
    (fn_bi (fn_ev 0 (n + 2000) d 80 [.int a2, .int 0, .int 50] x) (fun y19 v20 =>
      (if v20 = 0 ∨ v20 = 1 then
      some (y19, some (.int v20))
      else
      none)))
    else
    (if a1 = 3 then
      (if a2 = 0 then
        fn_run 0 (fn_ev 0 (n + 2000) d) (fn_lk fn_d50) (n + 1996) 76 [(0, .ref (28 + k)), (1, .int a1), (2, .int a2)] [] x
        else
        (fn_bi (fn_ev 0 (n + 2000) d 51 [.ref (28 + k), .int (a2 / 100)] x) (fun y15 v16 =>
          (if v16 = 0 then
          fn_run 0 (fn_ev 0 (n + 2000) d) (fn_lk fn_d50) (n + 1990) 80 [(0, .ref (28 + k)), (1, .int a1), (2, .int a2)] [] y15
          else
          (fn_bi (fn_ev 0 (n + 2000) d 80 [.int (a2 - a2 / 100 * 100), .int 1, .int 50] y15) (fun y17 v18 =>
            (if v18 = 0 then
            fn_run 0 (fn_ev 0 (n + 2000) d) (fn_lk fn_d50) (n + 1983) 80 [(0, .ref (28 + k)), (1, .int a1), (2, .int a2)] [] y17
            else
            fn_run 0 (fn_ev 0 (n + 2000) d) (fn_lk fn_d50) (n + 1983) 76 [(0, .ref (28 + k)), (1, .int a1), (2, .int a2)] [] y17)))))))
      else
      (if a1 = 4 then
        (fn_bi (fn_ev 0 (n + 2000) d 80 [.int a2, .int 0, .int 4] x) (fun y13 v14 =>
          (if v14 = 0 ∨ v14 = 1 then
          some (y13, some (.int v14))
          else
          none)))
        else
        (if a1 = 5 then
          (fn_bi (fn_ev 0 (n + 2000) d 80 [.int a2, .int 0, .int 20] x) (fun y11 v12 =>
            (if v12 = 0 ∨ v12 = 1 then
            some (y11, some (.int v12))
            else
            none)))
          else
          (if a1 = 6 then
            (if a2 = 0 then
              fn_run 0 (fn_ev 0 (n + 2000) d) (fn_lk fn_d50) (n + 1996) 121 [(0, .ref (28 + k)), (1, .int a1), (2, .int a2)] [] x
              else
              (fn_bi (fn_ev 0 (n + 2000) d 82 [.int (a2 / 100)] x) (fun y7 v8 =>
                (if v8 = 0 then
                fn_run 0 (fn_ev 0 (n + 2000) d) (fn_lk fn_d50) (n + 1991) 125 [(0, .ref (28 + k)), (1, .int a1), (2, .int a2)] [] y7
                else
                (fn_bi (fn_ev 0 (n + 2000) d 82 [.int (a2 - a2 / 100 * 100)] y7) (fun y9 v10 =>
                  (if v10 = 0 then
                  fn_run 0 (fn_ev 0 (n + 2000) d) (fn_lk fn_d50) (n + 1986) 125 [(0, .ref (28 + k)), (1, .int a1), (2, .int a2)] [] y9
                  else
                  fn_run 0 (fn_ev 0 (n + 2000) d) (fn_lk fn_d50) (n + 1986) 121 [(0, .ref (28 + k)), (1, .int a1), (2, .int a2)] [] y9)))))))
            else
            (if a1 = 7 then
              (if a2 = 0 then
                fn_run 0 (fn_ev 0 (n + 2000) d) (fn_lk fn_d50) (n + 1996) 166 [(0, .ref (28 + k)), (1, .int a1), (2, .int a2)] [] x
                else
                (fn_bi (fn_ev 0 (n + 2000) d 51 [.ref (28 + k), .int (a2 / 10000)] x) (fun y1 v2 =>
                  (if v2 = 0 then
                  fn_run 0 (fn_ev 0 (n + 2000) d) (fn_lk fn_d50) (n + 1990) 170 [(0, .ref (28 + k)), (1, .int a1), (2, .int a2)] [] y1
                  else
                  (fn_bi (fn_ev 0 (n + 2000) d 83 [.int ((a2 / 100) - (a2 / 100) / 100 * 100)] y1) (fun y3 v4 =>
                    (if v4 = 0 then
                    fn_run 0 (fn_ev 0 (n + 2000) d) (fn_lk fn_d50) (n + 1983) 170 [(0, .ref (28 + k)), (1, .int a1), (2, .int a2)] [] y3
                    else
                    (fn_bi (fn_ev 0 (n + 2000) d 83 [.int (a2 - a2 / 100 * 100)] y3) (fun y5 v6 =>
                      (if v6 = 0 then
                      fn_run 0 (fn_ev 0 (n + 2000) d) (fn_lk fn_d50) (n + 1978) 170 [(0, .ref (28 + k)), (1, .int a1), (2, .int a2)] [] y5
                      else
                      fn_run 0 (fn_ev 0 (n + 2000) d) (fn_lk fn_d50) (n + 1978) 166 [(0, .ref (28 + k)), (1, .int a1), (2, .int a2)] [] y5))))))))))
              else
              some (x, some (.int 1)))))))) := by
  obtain rfl | rfl | rfl | rfl : k = 1 ∨ k = 2 ∨ k = 3 ∨ k = 4 := by omega
  · exact ft_Node_isValueFor_1 n d a1 a2 x
  · exact ft_Node_isValueFor_2 n d a1 a2 x
  · exact ft_Node_isValueFor_3 n d a1 a2 x
  · exact ft_Node_isValueFor_4 n d a1 a2 x
theorem fk_Node_isValueFor_at76 (n d m : Nat) {k : Nat} (h1 : 1 ≤ k) (h2 : k ≤ 4) (l1 l2 : Int32) (x : fn_M) : fn_run 0 (fn_ev 0 (n + 2000) d) (fn_lk fn_d50) (m + 3) 76 [(0, .ref (28 + k)), (1, .int l1), (2, .int l2)] [] x =
  some (x, some (.int 1)) := by
  obtain rfl | rfl | rfl | rfl : k = 1 ∨ k = 2 ∨ k = 3 ∨ k = 4 := by omega
  · exact ft_Node_isValueFor_1_at76 n d m l1 l2 x
  · exact ft_Node_isValueFor_2_at76 n d m l1 l2 x
  · exact ft_Node_isValueFor_3_at76 n d m l1 l2 x
  · exact ft_Node_isValueFor_4_at76 n d m l1 l2 x
theorem fk_Node_isValueFor_at80 (n d m : Nat) {k : Nat} (h1 : 1 ≤ k) (h2 : k ≤ 4) (l1 l2 : Int32) (x : fn_M) : fn_run 0 (fn_ev 0 (n + 2000) d) (fn_lk fn_d50) (m + 2) 80 [(0, .ref (28 + k)), (1, .int l1), (2, .int l2)] [] x =
  some (x, some (.int 0)) := by
  obtain rfl | rfl | rfl | rfl : k = 1 ∨ k = 2 ∨ k = 3 ∨ k = 4 := by omega
  · exact ft_Node_isValueFor_1_at80 n d m l1 l2 x
  · exact ft_Node_isValueFor_2_at80 n d m l1 l2 x
  · exact ft_Node_isValueFor_3_at80 n d m l1 l2 x
  · exact ft_Node_isValueFor_4_at80 n d m l1 l2 x
theorem fk_Node_isValueFor_at121 (n d m : Nat) {k : Nat} (h1 : 1 ≤ k) (h2 : k ≤ 4) (l1 l2 : Int32) (x : fn_M) : fn_run 0 (fn_ev 0 (n + 2000) d) (fn_lk fn_d50) (m + 3) 121 [(0, .ref (28 + k)), (1, .int l1), (2, .int l2)] [] x =
  some (x, some (.int 1)) := by
  obtain rfl | rfl | rfl | rfl : k = 1 ∨ k = 2 ∨ k = 3 ∨ k = 4 := by omega
  · exact ft_Node_isValueFor_1_at121 n d m l1 l2 x
  · exact ft_Node_isValueFor_2_at121 n d m l1 l2 x
  · exact ft_Node_isValueFor_3_at121 n d m l1 l2 x
  · exact ft_Node_isValueFor_4_at121 n d m l1 l2 x
theorem fk_Node_isValueFor_at125 (n d m : Nat) {k : Nat} (h1 : 1 ≤ k) (h2 : k ≤ 4) (l1 l2 : Int32) (x : fn_M) : fn_run 0 (fn_ev 0 (n + 2000) d) (fn_lk fn_d50) (m + 2) 125 [(0, .ref (28 + k)), (1, .int l1), (2, .int l2)] [] x =
  some (x, some (.int 0)) := by
  obtain rfl | rfl | rfl | rfl : k = 1 ∨ k = 2 ∨ k = 3 ∨ k = 4 := by omega
  · exact ft_Node_isValueFor_1_at125 n d m l1 l2 x
  · exact ft_Node_isValueFor_2_at125 n d m l1 l2 x
  · exact ft_Node_isValueFor_3_at125 n d m l1 l2 x
  · exact ft_Node_isValueFor_4_at125 n d m l1 l2 x
theorem fk_Node_isValueFor_at166 (n d m : Nat) {k : Nat} (h1 : 1 ≤ k) (h2 : k ≤ 4) (l1 l2 : Int32) (x : fn_M) : fn_run 0 (fn_ev 0 (n + 2000) d) (fn_lk fn_d50) (m + 3) 166 [(0, .ref (28 + k)), (1, .int l1), (2, .int l2)] [] x =
  some (x, some (.int 1)) := by
  obtain rfl | rfl | rfl | rfl : k = 1 ∨ k = 2 ∨ k = 3 ∨ k = 4 := by omega
  · exact ft_Node_isValueFor_1_at166 n d m l1 l2 x
  · exact ft_Node_isValueFor_2_at166 n d m l1 l2 x
  · exact ft_Node_isValueFor_3_at166 n d m l1 l2 x
  · exact ft_Node_isValueFor_4_at166 n d m l1 l2 x
theorem fk_Node_isValueFor_at170 (n d m : Nat) {k : Nat} (h1 : 1 ≤ k) (h2 : k ≤ 4) (l1 l2 : Int32) (x : fn_M) : fn_run 0 (fn_ev 0 (n + 2000) d) (fn_lk fn_d50) (m + 2) 170 [(0, .ref (28 + k)), (1, .int l1), (2, .int l2)] [] x =
  some (x, some (.int 0)) := by
  obtain rfl | rfl | rfl | rfl : k = 1 ∨ k = 2 ∨ k = 3 ∨ k = 4 := by omega
  · exact ft_Node_isValueFor_1_at170 n d m l1 l2 x
  · exact ft_Node_isValueFor_2_at170 n d m l1 l2 x
  · exact ft_Node_isValueFor_3_at170 n d m l1 l2 x
  · exact ft_Node_isValueFor_4_at170 n d m l1 l2 x
theorem fk_Node_isOther (n d : Nat) {k : Nat} (h1 : 1 ≤ k) (h2 : k ≤ 4) (a1 : Int32) (x : fn_M) : fn_ev 0 (n + 2000) (d + 1) 51 [.ref (28 + k), .int a1] x =
  (if a1 < 1 then
    some (x, some (.int 0))
    else
    (if 4 < a1 then
      some (x, some (.int 0))
      else
      (if a1 = (x (28 + k) 0) then
        some (x, some (.int 0))
        else
        some (x, some (.int 1))))) := by
  obtain rfl | rfl | rfl | rfl : k = 1 ∨ k = 2 ∨ k = 3 ∨ k = 4 := by omega
  · exact ft_Node_isOther_1 n d a1 x
  · exact ft_Node_isOther_2 n d a1 x
  · exact ft_Node_isOther_3 n d a1 x
  · exact ft_Node_isOther_4 n d a1 x
theorem fk_Node_serveRead (n d : Nat) {k : Nat} (h1 : 1 ≤ k) (h2 : k ≤ 4) (a1 : Int32) (x : fn_M) : fn_ev 0 (n + 2000) (d + 1) 52 [.ref (28 + k), .int a1, .ref 1] x =
  (fn_bi (fn_ev 0 (n + 2000) d 80 [.int a1, .int 0, .int 16] x) (fun y1 v2 =>
    (if v2 = 0 then
    (fn_bv (fn_ev 0 (n + 2000) d 47 [.ref (28 + k), .int 9, .int a1, .int 1, .ref 1] y1) (fun y7 =>
      some (y7, none)))
    else
    (if a1 = 16 then
      (fn_bi (fn_ev 0 (n + 2000) d 138 [.ref (36 + k)] (fn_w (fn_w (fn_w y1 (28 + k) 9 1) (28 + k) 10 0) (28 + k) 11 0)) (fun y4 v5 =>
        (fn_bv (fn_ev 0 (n + 2000) d 47 [.ref (28 + k), .int 3, .int 16, .int v5, .ref 1] y4) (fun y6 =>
        some (y6, none)))))
      else
      (if a1 < 0 ∨ 16 ≤ a1.toNatClampNeg then
        none
        else
        (fn_bv (fn_ev 0 (n + 2000) d 47 [.ref (28 + k), .int 2, .int a1, .int (y1 (32 + k) a1.toNatClampNeg), .ref 1] y1) (fun y3 =>
          some (y3, none)))))))) := by
  obtain rfl | rfl | rfl | rfl : k = 1 ∨ k = 2 ∨ k = 3 ∨ k = 4 := by omega
  · exact ft_Node_serveRead_1 n d a1 x
  · exact ft_Node_serveRead_2 n d a1 x
  · exact ft_Node_serveRead_3 n d a1 x
  · exact ft_Node_serveRead_4 n d a1 x
theorem fk_Node_serveReadOn (n d : Nat) {k : Nat} (h1 : 1 ≤ k) (h2 : k ≤ 4) (a1 : Int32) (x : fn_M) : fn_ev 0 (n + 2000) (d + 1) 53 [.ref (28 + k), .int a1, .ref 1] x =
  (if (x (28 + k) 9) = 0 then
    (fn_bv (fn_ev 0 (n + 2000) d 47 [.ref (28 + k), .int 9, .int 16, .int 5, .ref 1] (fn_w x (28 + k) 9 0)) (fun y1 =>
      some (y1, none)))
    else
    (if a1 = (x (28 + k) 11) then
      (fn_bi (fn_ev 0 (n + 2000) d 138 [.ref (36 + k)] x) (fun y2 v3 =>
        (fn_bi (fn_ev 0 (n + 2000) d 157 [.int 4, .int (v3 - (y2 (28 + k) 10))] y2) (fun y4 v5 =>
        fn_run 0 (fn_ev 0 (n + 2000) d) (fn_lk fn_d53) (n + 1980) 54 [(0, .ref (28 + k)), (1, .int a1), (2, .ref 1), (3, .int v5), (4, .int 0), (5, .int 0)] [] y4))))
      else
      (fn_bv (fn_ev 0 (n + 2000) d 47 [.ref (28 + k), .int 9, .int 16, .int 5, .ref 1] (fn_w x (28 + k) 9 0)) (fun y6 =>
        some (y6, none))))) := by
  obtain rfl | rfl | rfl | rfl : k = 1 ∨ k = 2 ∨ k = 3 ∨ k = 4 := by omega
  · exact ft_Node_serveReadOn_1 n d a1 x
  · exact ft_Node_serveReadOn_2 n d a1 x
  · exact ft_Node_serveReadOn_3 n d a1 x
  · exact ft_Node_serveReadOn_4 n d a1 x
theorem fk_Node_serveReadOn_at54 (n d m : Nat) {k : Nat} (h1 : 1 ≤ k) (h2 : k ≤ 4) (l1 l3 l4 l5 : Int32) (x : fn_M) : fn_run 0 (fn_ev 0 (n + 2000) d) (fn_lk fn_d53) (m + 37) 54 [(0, .ref (28 + k)), (1, .int l1), (2, .ref 1), (3, .int l3), (4, .int l4), (5, .int l5)] [] x =
  (if l3 ≤ l5 then
    (fn_bv (fn_ev 0 (n + 2000) d 47 [.ref (28 + k), .int 4, .int ((x (28 + k) 11) + (2 * l3)), .int l4, .ref 1] x) (fun y1 =>
      (fn_bi (fn_ev 0 (n + 2000) d 138 [.ref (36 + k)] (fn_w (fn_w y1 (28 + k) 10 ((y1 (28 + k) 10) + l3)) (28 + k) 11 (1 - (y1 (28 + k) 11)))) (fun y2 v3 =>
      (if v3 ≤ ((y1 (28 + k) 10) + l3) then
      some ((fn_w y2 (28 + k) 9 0), none)
      else
      some ((fn_w y2 (28 + k) 9 1), none))))))
    else
    (fn_bi (fn_ev 0 (n + 2000) d 139 [.ref (36 + k), .int ((x (28 + k) 10) + l5)] x) (fun y4 v5 =>
      fn_run 0 (fn_ev 0 (n + 2000) d) (fn_lk fn_d53) (m + 18) 54 [(0, .ref (28 + k)), (1, .int l1), (2, .ref 1), (3, .int l3), (4, .int (l4 ||| (v5 <<< ((8 * l5) &&& 31)))), (5, .int (l5 + 1))] [] y4))) := by
  obtain rfl | rfl | rfl | rfl : k = 1 ∨ k = 2 ∨ k = 3 ∨ k = 4 := by omega
  · exact ft_Node_serveReadOn_1_at54 n d m l1 l3 l4 l5 x
  · exact ft_Node_serveReadOn_2_at54 n d m l1 l3 l4 l5 x
  · exact ft_Node_serveReadOn_3_at54 n d m l1 l3 l4 l5 x
  · exact ft_Node_serveReadOn_4_at54 n d m l1 l3 l4 l5 x
