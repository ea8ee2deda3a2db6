set_option maxRecDepth 20000 in
theorem fc_Node_isOn_1 (cf : Nat → List Value → fn_M → Option fn_R) (K : Nat → fn_K) (m : Nat) (x : fn_M) : fn_runc 0 cf (fn_lk fn_d26) [] K (m + 6) 0 [(0, .ref 29)] [] x =
  (if (x 29 3) = 0 then
    some (x, some (.int 0))
    else
    some (x, some (.int 1))) := rfl
theorem ft_Node_isOn_1 (n d : Nat) (x : fn_M) : fn_ev 0 (n + 2000) (d + 1) 26 [.ref 29] x =
  (if (x 29 3) = 0 then
    some (x, some (.int 0))
    else
    some (x, some (.int 1))) :=
  fn_ev_t (dd := fn_d26) (lo := [(0, .ref 29)]) (sp := []) rfl rfl rfl (fc_Node_isOn_1 (fn_ev 0 (n + 2000) d) (fn_run 0 (fn_ev 0 (n + 2000) d) (fn_lk fn_d26)) (n + 1994) x)
set_option maxRecDepth 20000 in
theorem fc_Node_isOn_2 (cf : Nat → List Value → fn_M → Option fn_R) (K : Nat → fn_K) (m : Nat) (x : fn_M) : fn_runc 0 cf (fn_lk fn_d26) [] K (m + 6) 0 [(0, .ref 30)] [] x =
  (if (x 30 3) = 0 then
    some (x, some (.int 0))
    else
    some (x, some (.int 1))) := rfl
theorem ft_Node_isOn_2 (n d : Nat) (x : fn_M) : fn_ev 0 (n + 2000) (d + 1) 26 [.ref 30] x =
  (if (x 30 3) = 0 then
    some (x, some (.int 0))
    else
    some (x, some (.int 1))) :=
  fn_ev_t (dd := fn_d26) (lo := [(0, .ref 30)]) (sp := []) rfl rfl rfl (fc_Node_isOn_2 (fn_ev 0 (n + 2000) d) (fn_run 0 (fn_ev 0 (n + 2000) d) (fn_lk fn_d26)) (n + 1994) x)
set_option maxRecDepth 20000 in
theorem fc_Node_isOn_3 (cf : Nat → List Value → fn_M → Option fn_R) (K : Nat → fn_K) (m : Nat) (x : fn_M) : fn_runc 0 cf (fn_lk fn_d26) [] K (m + 6) 0 [(0, .ref 31)] [] x =
  (if (x 31 3) = 0 then
    some (x, some (.int 0))
    else
    some (x, some (.int 1))) := rfl
theorem ft_Node_isOn_3 (n d : Nat) (x : fn_M) : fn_ev 0 (n + 2000) (d + 1) 26 [.ref 31] x =
  (if (x 31 3) = 0 then
    some (x, some (.int 0))
    else
    some (x, some (.int 1))) :=
  fn_ev_t (dd := fn_d26) (lo := [(0, .ref 31)]) (sp := []) rfl rfl rfl (fc_Node_isOn_3 (fn_ev 0 (n + 2000) d) (fn_run 0 (fn_ev 0 (n + 2000) d) (fn_lk fn_d26)) (n + 1994) x)
set_option maxRecDepth 20000 in
theorem fc_Node_isOn_4 (cf : Nat → List Value → fn_M → Option fn_R) (K : Nat → fn_K) (m : Nat) (x : fn_M) : fn_runc 0 cf (fn_lk fn_d26) [] K (m + 6) 0 [(0, .ref 32)] [] x =
  (if (x 32 3) = 0 then
    some (x, some (.int 0))
    else
    some (x, some (.int 1))) := rfl
theorem ft_Node_isOn_4 (n d : Nat) (x : fn_M) : fn_ev 0 (n + 2000) (d + 1) 26 [.ref 32] x =
  (if (x 32 3) = 0 then
    some (x, some (.int 0))
    else
    some (x, some (.int 1))) :=
  fn_ev_t (dd := fn_d26) (lo := [(0, .ref 32)]) (sp := []) rfl rfl rfl (fc_Node_isOn_4 (fn_ev 0 (n + 2000) d) (fn_run 0 (fn_ev 0 (n + 2000) d) (fn_lk fn_d26)) (n + 1994) x)
set_option maxRecDepth 20000 in
theorem fc_Node_takeIdentity_1 (cf : Nat → List Value → fn_M → Option fn_R) (K : Nat → fn_K) (m : Nat) (a1 : Int32) (x : fn_M) : fn_runc 0 cf (fn_lk fn_d27) [] K (m + 22) 0 [(0, .ref 29), (1, .int a1)] [] x =
  (fn_bv (cf 134 [.ref 37, .int 0] (fn_w x 33 0 a1)) (fun y1 =>
    (fn_br (cf 135 [.ref 37, .ref 1002] y1) (fun y2 p3 =>
    (if (fn_lc 0 p3 == 9) = true then
    (fn_br (cf 136 [.ref p3, .int (y2 29 0)] y2) (fun y4 p5 =>
      (if (fn_lc 0 p5 == 9) = true then
      (fn_br (cf 137 [.ref p5, .int 58] y4) (fun y6 p7 =>
        (if (fn_lc 0 p7 == 9) = true then
        (fn_br (cf 136 [.ref p7, .int a1] y6) (fun y8 p9 =>
          some (y8, none)) (fun y8 =>
          none))
        else
        none)) (fun y6 =>
        none))
      else
      none)) (fun y4 =>
      none))
    else
    none)) (fun y2 =>
    none)))) := rfl
theorem ft_Node_takeIdentity_1 (n d : Nat) (a1 : Int32) (x : fn_M) : fn_ev 0 (n + 2000) (d + 1) 27 [.ref 29, .int a1] x =
  (fn_bv (fn_ev 0 (n + 2000) d 134 [.ref 37, .int 0] (fn_w x 33 0 a1)) (fun y1 =>
    (fn_br (fn_ev 0 (n + 2000) d 135 [.ref 37, .ref 1002] y1) (fun y2 p3 =>
    (if (fn_lc 0 p3 == 9) = true then
    (fn_br (fn_ev 0 (n + 2000) d 136 [.ref p3, .int (y2 29 0)] y2) (fun y4 p5 =>
      (if (fn_lc 0 p5 == 9) = true then
      (fn_br (fn_ev 0 (n + 2000) d 137 [.ref p5, .int 58] y4) (fun y6 p7 =>
        (if (fn_lc 0 p7 == 9) = true then
        (fn_br (fn_ev 0 (n + 2000) d 136 [.ref p7, .int a1] y6) (fun y8 p9 =>
          some (y8, none)) (fun y8 =>
          none))
        else
        none)) (fun y6 =>
        none))
      else
      none)) (fun y4 =>
      none))
    else
    none)) (fun y2 =>
    none)))) :=
  fn_ev_t (dd := fn_d27) (lo := [(0, .ref 29), (1, .int a1)]) (sp := []) rfl rfl rfl (fc_Node_takeIdentity_1 (fn_ev 0 (n + 2000) d) (fn_run 0 (fn_ev 0 (n + 2000) d) (fn_lk fn_d27)) (n + 1978) a1 x)
set_option maxRecDepth 20000 in
theorem fc_Node_takeIdentity_2 (cf : Nat → List Value → fn_M → Option fn_R) (K : Nat → fn_K) (m : Nat) (a1 : Int32) (x : fn_M) : fn_runc 0 cf (fn_lk fn_d27) [] K (m + 22) 0 [(0, .ref 30), (1, .int a1)] [] x =
  (fn_bv (cf 134 [.ref 38, .int 0] (fn_w x 34 0 a1)) (fun y1 =>
    (fn_br (cf 135 [.ref 38, .ref 1002] y1) (fun y2 p3 =>
    (if (fn_lc 0 p3 == 9) = true then
    (fn_br (cf 136 [.ref p3, .int (y2 30 0)] y2) (fun y4 p5 =>
      (if (fn_lc 0 p5 == 9) = true then
      (fn_br (cf 137 [.ref p5, .int 58] y4) (fun y6 p7 =>
        (if (fn_lc 0 p7 == 9) = true then
        (fn_br (cf 136 [.ref p7, .int a1] y6) (fun y8 p9 =>
          some (y8, none)) (fun y8 =>
          none))
        else
        none)) (fun y6 =>
        none))
      else
      none)) (fun y4 =>
      none))
    else
    none)) (fun y2 =>
    none)))) := rfl
theorem ft_Node_takeIdentity_2 (n d : Nat) (a1 : Int32) (x : fn_M) : fn_ev 0 (n + 2000) (d + 1) 27 [.ref 30, .int a1] x =
  (fn_bv (fn_ev 0 (n + 2000) d 134 [.ref 38, .int 0] (fn_w x 34 0 a1)) (fun y1 =>
    (fn_br (fn_ev 0 (n + 2000) d 135 [.ref 38, .ref 1002] y1) (fun y2 p3 =>
    (if (fn_lc 0 p3 == 9) = true then
    (fn_br (fn_ev 0 (n + 2000) d 136 [.ref p3, .int (y2 30 0)] y2) (fun y4 p5 =>
      (if (fn_lc 0 p5 == 9) = true then
      (fn_br (fn_ev 0 (n + 2000) d 137 [.ref p5, .int 58] y4) (fun y6 p7 =>
        (if (fn_lc 0 p7 == 9) = true then
        (fn_br (fn_ev 0 (n + 2000) d 136 [.ref p7, .int a1] y6) (fun y8 p9 =>
          some (y8, none)) (fun y8 =>
          none))
        else
        none)) (fun y6 =>
        none))
      else
      none)) (fun y4 =>
      none))
    else
    none)) (fun y2 =>
    none)))) :=
  fn_ev_t (dd := fn_d27) (lo := [(0, .ref 30), (1, .int a1)]) (sp := []) rfl rfl rfl (fc_Node_takeIdentity_2 (fn_ev 0 (n + 2000) d) (fn_run 0 (fn_ev 0 (n + 2000) d) (fn_lk fn_d27)) (n + 1978) a1 x)
set_option maxRecDepth 20000 in
theorem fc_Node_takeIdentity_3 (cf : Nat → List Value → fn_M → Option fn_R) (K : Nat → fn_K) (m : Nat) (a1 : Int32) (x : fn_M) : fn_runc 0 cf (fn_lk fn_d27) [] K (m + 22) 0 [(0, .ref 31), (1, .int a1)] [] x =
  (fn_bv (cf 134 [.ref 39, .int 0] (fn_w x 35 0 a1)) (fun y1 =>
    (fn_br (cf 135 [.ref 39, .ref 1002] y1) (fun y2 p3 =>
    (if (fn_lc 0 p3 == 9) = true then
    (fn_br (cf 136 [.ref p3, .int (y2 31 0)] y2) (fun y4 p5 =>
      (if (fn_lc 0 p5 == 9) = true then
      (fn_br (cf 137 [.ref p5, .int 58] y4) (fun y6 p7 =>
        (if (fn_lc 0 p7 == 9) = true then
        (fn_br (cf 136 [.ref p7, .int a1] y6) (fun y8 p9 =>
          some (y8, none)) (fun y8 =>
          none))
        else
        none)) (fun y6 =>
        none))
      else
      none)) (fun y4 =>
      none))
    else
    none)) (fun y2 =>
    none)))) := rfl
theorem ft_Node_takeIdentity_3 (n d : Nat) (a1 : Int32) (x : fn_M) : fn_ev 0 (n + 2000) (d + 1) 27 [.ref 31, .int a1] x =
  (fn_bv (fn_ev 0 (n + 2000) d 134 [.ref 39, .int 0] (fn_w x 35 0 a1)) (fun y1 =>
    (fn_br (fn_ev 0 (n + 2000) d 135 [.ref 39, .ref 1002] y1) (fun y2 p3 =>
    (if (fn_lc 0 p3 == 9) = true then
    (fn_br (fn_ev 0 (n + 2000) d 136 [.ref p3, .int (y2 31 0)] y2) (fun y4 p5 =>
      (if (fn_lc 0 p5 == 9) = true then
      (fn_br (fn_ev 0 (n + 2000) d 137 [.ref p5, .int 58] y4) (fun y6 p7 =>
        (if (fn_lc 0 p7 == 9) = true then
        (fn_br (fn_ev 0 (n + 2000) d 136 [.ref p7, .int a1] y6) (fun y8 p9 =>
          some (y8, none)) (fun y8 =>
          none))
        else
        none)) (fun y6 =>
        none))
      else
      none)) (fun y4 =>
      none))
    else
    none)) (fun y2 =>
    none)))) :=
  fn_ev_t (dd := fn_d27) (lo := [(0, .ref 31), (1, .int a1)]) (sp := []) rfl rfl rfl (fc_Node_takeIdentity_3 (fn_ev 0 (n + 2000) d) (fn_run 0 (fn_ev 0 (n + 2000) d) (fn_lk fn_d27)) (n + 1978) a1 x)
set_option maxRecDepth 20000 in
theorem fc_Node_takeIdentity_4 (cf : Nat → List Value → fn_M → Option fn_R) (K : Nat → fn_K) (m : Nat) (a1 : Int32) (x : fn_M) : fn_runc 0 cf (fn_lk fn_d27) [] K (m + 22) 0 [(0, .ref 32), (1, .int a1)] [] x =
  (fn_bv (cf 134 [.ref 40, .int 0] (fn_w x 36 0 a1)) (fun y1 =>
    (fn_br (cf 135 [.ref 40, .ref 1002] y1) (fun y2 p3 =>
    (if (fn_lc 0 p3 == 9) = true then
    (fn_br (cf 136 [.ref p3, .int (y2 32 0)] y2) (fun y4 p5 =>
      (if (fn_lc 0 p5 == 9) = true then
      (fn_br (cf 137 [.ref p5, .int 58] y4) (fun y6 p7 =>
        (if (fn_lc 0 p7 == 9) = true then
        (fn_br (cf 136 [.ref p7, .int a1] y6) (fun y8 p9 =>
          some (y8, none)) (fun y8 =>
          none))
        else
        none)) (fun y6 =>
        none))
      else
      none)) (fun y4 =>
      none))
    else
    none)) (fun y2 =>
    none)))) := rfl
theorem ft_Node_takeIdentity_4 (n d : Nat) (a1 : Int32) (x : fn_M) : fn_ev 0 (n + 2000) (d + 1) 27 [.ref 32, .int a1] x =
  (fn_bv (fn_ev 0 (n + 2000) d 134 [.ref 40, .int 0] (fn_w x 36 0 a1)) (fun y1 =>
    (fn_br (fn_ev 0 (n + 2000) d 135 [.ref 40, .ref 1002] y1) (fun y2 p3 =>
    (if (fn_lc 0 p3 == 9) = true then
    (fn_br (fn_ev 0 (n + 2000) d 136 [.ref p3, .int (y2 32 0)] y2) (fun y4 p5 =>
      (if (fn_lc 0 p5 == 9) = true then
      (fn_br (fn_ev 0 (n + 2000) d 137 [.ref p5, .int 58] y4) (fun y6 p7 =>
        (if (fn_lc 0 p7 == 9) = true then
        (fn_br (fn_ev 0 (n + 2000) d 136 [.ref p7, .int a1] y6) (fun y8 p9 =>
          some (y8, none)) (fun y8 =>
          none))
        else
        none)) (fun y6 =>
        none))
      else
      none)) (fun y4 =>
      none))
    else
    none)) (fun y2 =>
    none)))) :=
  fn_ev_t (dd := fn_d27) (lo := [(0, .ref 32), (1, .int a1)]) (sp := []) rfl rfl rfl (fc_Node_takeIdentity_4 (fn_ev 0 (n + 2000) d) (fn_run 0 (fn_ev 0 (n + 2000) d) (fn_lk fn_d27)) (n + 1978) a1 x)
set_option maxRecDepth 20000 in
theorem fc_Node_reset_1 (cf : Nat → List Value → fn_M → Option fn_R) (K : Nat → fn_K) (m : Nat) (x : fn_M) : fn_runc 0 cf (fn_lk fn_d28) [] K (m + 189) 0 [(0, .ref 29), (1, .ref 1)] [] x =
  (fn_bv (cf 55 [.ref 1, .int (x 29 0), .int (1792 + (x 29 0)), .int 0, .int 0, .int 0] (fn_w (fn_w (fn_w (fn_w (fn_w (fn_w (fn_w (fn_w (fn_w (fn_w (fn_w (fn_w (fn_w (fn_w (fn_w (fn_w (fn_w (fn_w (fn_w (fn_w (fn_w (fn_w x 33 1 0) 33 2 0) 33 3 0) 33 4 0) 33 5 0) 33 6 0) 33 7 0) 33 8 0) 33 9 0) 33 10 0) 33 11 0) 33 12 0) 33 13 0) 33 14 0) 33 15 0) 29 3 127) 29 5 (-1)) 29 6 0) 29 7 0) 29 8 (-1)) 29 9 0) 29 4 (x 1 6))) (fun y1 =>
    some (y1, none))) := rfl
theorem ft_Node_reset_1 (n d : Nat) (x : fn_M) : fn_ev 0 (n + 2000) (d + 1) 28 [.ref 29, .ref 1] x =
  (fn_bv (fn_ev 0 (n + 2000) d 55 [.ref 1, .int (x 29 0), .int (1792 + (x 29 0)), .int 0, .int 0, .int 0] (fn_w (fn_w (fn_w (fn_w (fn_w (fn_w (fn_w (fn_w (fn_w (fn_w (fn_w (fn_w (fn_w (fn_w (fn_w (fn_w (fn_w (fn_w (fn_w (fn_w (fn_w (fn_w x 33 1 0) 33 2 0) 33 3 0) 33 4 0) 33 5 0) 33 6 0) 33 7 0) 33 8 0) 33 9 0) 33 10 0) 33 11 0) 33 12 0) 33 13 0) 33 14 0) 33 15 0) 29 3 127) 29 5 (-1)) 29 6 0) 29 7 0) 29 8 (-1)) 29 9 0) 29 4 (x 1 6))) (fun y1 =>
    some (y1, none))) :=
  fn_ev_t (dd := fn_d28) (lo := [(0, .ref 29), (1, .ref 1)]) (sp := []) rfl rfl rfl (fc_Node_reset_1 (fn_ev 0 (n + 2000) d) (fn_run 0 (fn_ev 0 (n + 2000) d) (fn_lk fn_d28)) (n + 1811) x)
set_option maxRecDepth 20000 in
theorem fc_Node_reset_2 (cf : Nat → List Value → fn_M → Option fn_R) (K : Nat → fn_K) (m : Nat) (x : fn_M) : fn_runc 0 cf (fn_lk fn_d28) [] K (m + 189) 0 [(0, .ref 30), (1, .ref 1)] [] x =
  (fn_bv (cf 55 [.ref 1, .int (x 30 0), .int (1792 + (x 30 0)), .int 0, .int 0, .int 0] (fn_w (fn_w (fn_w (fn_w (fn_w (fn_w (fn_w (fn_w (fn_w (fn_w (fn_w (fn_w (fn_w (fn_w (fn_w (fn_w (fn_w (fn_w (fn_w (fn_w (fn_w (fn_w x 34 1 0) 34 2 0) 34 3 0) 34 4 0) 34 5 0) 34 6 0) 34 7 0) 34 8 0) 34 9 0) 34 10 0) 34 11 0) 34 12 0) 34 13 0) 34 14 0) 34 15 0) 30 3 127) 30 5 (-1)) 30 6 0) 30 7 0) 30 8 (-1)) 30 9 0) 30 4 (x 1 6))) (fun y1 =>
    some (y1, none))) := rfl
theorem ft_Node_reset_2 (n d : Nat) (x : fn_M) : fn_ev 0 (n + 2000) (d + 1) 28 [.ref 30, .ref 1] x =
  (fn_bv (fn_ev 0 (n + 2000) d 55 [.ref 1, .int (x 30 0), .int (1792 + (x 30 0)), .int 0, .int 0, .int 0] (fn_w (fn_w (fn_w (fn_w (fn_w (fn_w (fn_w (fn_w (fn_w (fn_w (fn_w (fn_w (fn_w (fn_w (fn_w (fn_w (fn_w (fn_w (fn_w (fn_w (fn_w (fn_w x 34 1 0) 34 2 0) 34 3 0) 34 4 0) 34 5 0) 34 6 0) 34 7 0) 34 8 0) 34 9 0) 34 10 0) 34 11 0) 34 12 0) 34 13 0) 34 14 0) 34 15 0) 30 3 127) 30 5 (-1)) 30 6 0) 30 7 0) 30 8 (-1)) 30 9 0) 30 4 (x 1 6))) (fun y1 =>
    some (y1, none))) :=
  fn_ev_t (dd := fn_d28) (lo := [(0, .ref 30), (1, .ref 1)]) (sp := []) rfl rfl rfl (fc_Node_reset_2 (fn_ev 0 (n + 2000) d) (fn_run 0 (fn_ev 0 (n + 2000) d) (fn_lk fn_d28)) (n + 1811) x)
set_option maxRecDepth 20000 in
theorem fc_Node_reset_3 (cf : Nat → List Value → fn_M → Option fn_R) (K : Nat → fn_K) (m : Nat) (x : fn_M) : fn_runc 0 cf (fn_lk fn_d28) [] K (m + 189) 0 [(0, .ref 31), (1, .ref 1)] [] x =
  (fn_bv (cf 55 [.ref 1, .int (x 31 0), .int (1792 + (x 31 0)), .int 0, .int 0, .int 0] (fn_w (fn_w (fn_w (fn_w (fn_w (fn_w (fn_w (fn_w (fn_w (fn_w (fn_w (fn_w (fn_w (fn_w (fn_w (fn_w (fn_w (fn_w (fn_w (fn_w (fn_w (fn_w x 35 1 0) 35 2 0) 35 3 0) 35 4 0) 35 5 0) 35 6 0) 35 7 0) 35 8 0) 35 9 0) 35 10 0) 35 11 0) 35 12 0) 35 13 0) 35 14 0) 35 15 0) 31 3 127) 31 5 (-1)) 31 6 0) 31 7 0) 31 8 (-1)) 31 9 0) 31 4 (x 1 6))) (fun y1 =>
    some (y1, none))) := rfl
theorem ft_Node_reset_3 (n d : Nat) (x : fn_M) : fn_ev 0 (n + 2000) (d + 1) 28 [.ref 31, .ref 1] x =
  (fn_bv (fn_ev 0 (n + 2000) d 55 [.ref 1, .int (x 31 0), .int (1792 + (x 31 0)), .int 0, .int 0, .int 0] (fn_w (fn_w (fn_w (fn_w (fn_w (fn_w (fn_w (fn_w (fn_w (fn_w (fn_w (fn_w (fn_w (fn_w (fn_w (fn_w (fn_w (fn_w (fn_w (fn_w (fn_w (fn_w x 35 1 0) 35 2 0) 35 3 0) 35 4 0) 35 5 0) 35 6 0) 35 7 0) 35 8 0) 35 9 0) 35 10 0) 35 11 0) 35 12 0) 35 13 0) 35 14 0) 35 15 0) 31 3 127) 31 5 (-1)) 31 6 0) 31 7 0) 31 8 (-1)) 31 9 0) 31 4 (x 1 6))) (fun y1 =>
    some (y1, none))) :=
  fn_ev_t (dd := fn_d28) (lo := [(0, .ref 31), (1, .ref 1)]) (sp := []) rfl rfl rfl (fc_Node_reset_3 (fn_ev 0 (n + 2000) d) (fn_run 0 (fn_ev 0 (n + 2000) d) (fn_lk fn_d28)) (n + 1811) x)
set_option maxRecDepth 20000 in
theorem fc_Node_reset_4 (cf : Nat → List Value → fn_M → Option fn_R) (K : Nat → fn_K) (m : Nat) (x : fn_M) : fn_runc 0 cf (fn_lk fn_d28) [] K (m + 189) 0 [(0, .ref 32), (1, .ref 1)] [] x =
  (fn_bv (cf 55 [.ref 1, .int (x 32 0), .int (1792 + (x 32 0)), .int 0, .int 0, .int 0] (fn_w (fn_w (fn_w (fn_w (fn_w (fn_w (fn_w (fn_w (fn_w (fn_w (fn_w (fn_w (fn_w (fn_w (fn_w (fn_w (fn_w (fn_w (fn_w (fn_w (fn_w (fn_w x 36 1 0) 36 2 0) 36 3 0) 36 4 0) 36 5 0) 36 6 0) 36 7 0) 36 8 0) 36 9 0) 36 10 0) 36 11 0) 36 12 0) 36 13 0) 36 14 0) 36 15 0) 32 3 127) 32 5 (-1)) 32 6 0) 32 7 0) 32 8 (-1)) 32 9 0) 32 4 (x 1 6))) (fun y1 =>
    some (y1, none))) := rfl
theorem ft_Node_reset_4 (n d : Nat) (x : fn_M) : fn_ev 0 (n + 2000) (d + 1) 28 [.ref 32, .ref 1] x =
  (fn_bv (fn_ev 0 (n + 2000) d 55 [.ref 1, .int (x 32 0), .int (1792 + (x 32 0)), .int 0, .int 0, .int 0] (fn_w (fn_w (fn_w (fn_w (fn_w (fn_w (fn_w (fn_w (fn_w (fn_w (fn_w (fn_w (fn_w (fn_w (fn_w (fn_w (fn_w (fn_w (fn_w (fn_w (fn_w (fn_w x 36 1 0) 36 2 0) 36 3 0) 36 4 0) 36 5 0) 36 6 0) 36 7 0) 36 8 0) 36 9 0) 36 10 0) 36 11 0) 36 12 0) 36 13 0) 36 14 0) 36 15 0) 32 3 127) 32 5 (-1)) 32 6 0) 32 7 0) 32 8 (-1)) 32 9 0) 32 4 (x 1 6))) (fun y1 =>
    some (y1, none))) :=
  fn_ev_t (dd := fn_d28) (lo := [(0, .ref 32), (1, .ref 1)]) (sp := []) rfl rfl rfl (fc_Node_reset_4 (fn_ev 0 (n + 2000) d) (fn_run 0 (fn_ev 0 (n + 2000) d) (fn_lk fn_d28)) (n + 1811) x)
set_option maxRecDepth 20000 in
theorem fc_Node_switchOff_1 (cf : Nat → List Value → fn_M → Option fn_R) (K : Nat → fn_K) (m : Nat) (x : fn_M) : fn_runc 0 cf (fn_lk fn_d29) [] K (m + 8) 0 [(0, .ref 29), (1, .ref 1)] [] x =
  (fn_bv (cf 56 [.ref 1, .int (x 29 0)] (fn_w x 29 3 0)) (fun y1 =>
    some (y1, none))) := rfl
theorem ft_Node_switchOff_1 (n d : Nat) (x : fn_M) : fn_ev 0 (n + 2000) (d + 1) 29 [.ref 29, .ref 1] x =
  (fn_bv (fn_ev 0 (n + 2000) d 56 [.ref 1, .int (x 29 0)] (fn_w x 29 3 0)) (fun y1 =>
    some (y1, none))) :=
  fn_ev_t (dd := fn_d29) (lo := [(0, .ref 29), (1, .ref 1)]) (sp := []) rfl rfl rfl (fc_Node_switchOff_1 (fn_ev 0 (n + 2000) d) (fn_run 0 (fn_ev 0 (n + 2000) d) (fn_lk fn_d29)) (n + 1992) x)
set_option maxRecDepth 20000 in
theorem fc_Node_switchOff_2 (cf : Nat → List Value → fn_M → Option fn_R) (K : Nat → fn_K) (m : Nat) (x : fn_M) : fn_runc 0 cf (fn_lk fn_d29) [] K (m + 8) 0 [(0, .ref 30), (1, .ref 1)] [] x =
  (fn_bv (cf 56 [.ref 1, .int (x 30 0)] (fn_w x 30 3 0)) (fun y1 =>
    some (y1, none))) := rfl
theorem ft_Node_switchOff_2 (n d : Nat) (x : fn_M) : fn_ev 0 (n + 2000) (d + 1) 29 [.ref 30, .ref 1] x =
  (fn_bv (fn_ev 0 (n + 2000) d 56 [.ref 1, .int (x 30 0)] (fn_w x 30 3 0)) (fun y1 =>
    some (y1, none))) :=
  fn_ev_t (dd := fn_d29) (lo := [(0, .ref 30), (1, .ref 1)]) (sp := []) rfl rfl rfl (fc_Node_switchOff_2 (fn_ev 0 (n + 2000) d) (fn_run 0 (fn_ev 0 (n + 2000) d) (fn_lk fn_d29)) (n + 1992) x)
set_option maxRecDepth 20000 in
theorem fc_Node_switchOff_3 (cf : Nat → List Value → fn_M → Option fn_R) (K : Nat → fn_K) (m : Nat) (x : fn_M) : fn_runc 0 cf (fn_lk fn_d29) [] K (m + 8) 0 [(0, .ref 31), (1, .ref 1)] [] x =
  (fn_bv (cf 56 [.ref 1, .int (x 31 0)] (fn_w x 31 3 0)) (fun y1 =>
    some (y1, none))) := rfl
theorem ft_Node_switchOff_3 (n d : Nat) (x : fn_M) : fn_ev 0 (n + 2000) (d + 1) 29 [.ref 31, .ref 1] x =
  (fn_bv (fn_ev 0 (n + 2000) d 56 [.ref 1, .int (x 31 0)] (fn_w x 31 3 0)) (fun y1 =>
    some (y1, none))) :=
  fn_ev_t (dd := fn_d29) (lo := [(0, .ref 31), (1, .ref 1)]) (sp := []) rfl rfl rfl (fc_Node_switchOff_3 (fn_ev 0 (n + 2000) d) (fn_run 0 (fn_ev 0 (n + 2000) d) (fn_lk fn_d29)) (n + 1992) x)
set_option maxRecDepth 20000 in
theorem fc_Node_switchOff_4 (cf : Nat → List Value → fn_M → Option fn_R) (K : Nat → fn_K) (m : Nat) (x : fn_M) : fn_runc 0 cf (fn_lk fn_d29) [] K (m + 8) 0 [(0, .ref 32), (1, .ref 1)] [] x =
  (fn_bv (cf 56 [.ref 1, .int (x 32 0)] (fn_w x 32 3 0)) (fun y1 =>
    some (y1, none))) := rfl
theorem ft_Node_switchOff_4 (n d : Nat) (x : fn_M) : fn_ev 0 (n + 2000) (d + 1) 29 [.ref 32, .ref 1] x =
  (fn_bv (fn_ev 0 (n + 2000) d 56 [.ref 1, .int (x 32 0)] (fn_w x 32 3 0)) (fun y1 =>
    some (y1, none))) :=
  fn_ev_t (dd := fn_d29) (lo := [(0, .ref 32), (1, .ref 1)]) (sp := []) rfl rfl rfl (fc_Node_switchOff_4 (fn_ev 0 (n + 2000) d) (fn_run 0 (fn_ev 0 (n + 2000) d) (fn_lk fn_d29)) (n + 1992) x)
set_option maxRecDepth 20000 in
theorem fc_Node_takeInput_1 (cf : Nat → List Value → fn_M → Option fn_R) (K : Nat → fn_K) (m : Nat) (a1 a2 : Int32) (x : fn_M) : fn_runc 0 cf (fn_lk fn_d30) [] K (m + 33) 0 [(0, .ref 29), (1, .int a1), (2, .int a2), (3, .ref 1)] [] x =
  (if a1 < 0 ∨ 16 ≤ a1.toNatClampNeg then
    none
    else
    (if (x 33 a1.toNatClampNeg) = a2 then
      (if a1 < 0 ∨ 16 ≤ a1.toNatClampNeg then
        none
        else
        some ((fn_w x 33 a1.toNatClampNeg a2), none))
      else
      (if a1 < 0 ∨ 16 ≤ a1.toNatClampNeg then
        none
        else
        (fn_bi (cf 31 [.ref 29] (fn_w x 33 a1.toNatClampNeg a2)) (fun y1 v2 =>
          (if v2 = 0 then
          some (y1, none)
          else
          (fn_bi (cf 32 [.ref 29, .int a1] y1) (fun y3 v4 =>
            (if v4 = 0 then
            some (y3, none)
            else
            (fn_bi (cf 33 [.ref 29, .int (y3 1 6)] y3) (fun y5 v6 =>
              (if v6 = 0 then
              some ((fn_w y5 29 6 1), none)
              else
              (fn_bv (cf 34 [.ref 29, .ref 1] y5) (fun y7 =>
                some (y7, none))))))))))))))) := rfl
theorem ft_Node_takeInput_1 (n d : Nat) (a1 a2 : Int32) (x : fn_M) : fn_ev 0 (n + 2000) (d + 1) 30 [.ref 29, .int a1, .int a2, .ref 1] x =
  (if a1 < 0 ∨ 16 ≤ a1.toNatClampNeg then
    none
    else
    (if (x 33 a1.toNatClampNeg) = a2 then
      (if a1 < 0 ∨ 16 ≤ a1.toNatClampNeg then
        none
        else
        some ((fn_w x 33 a1.toNatClampNeg a2), none))
      else
      (if a1 < 0 ∨ 16 ≤ a1.toNatClampNeg then
        none
        else
        (fn_bi (fn_ev 0 (n + 2000) d 31 [.ref 29] (fn_w x 33 a1.toNatClampNeg a2)) (fun y1 v2 =>
          (if v2 = 0 then
          some (y1, none)
          else
          (fn_bi (fn_ev 0 (n + 2000) d 32 [.ref 29, .int a1] y1) (fun y3 v4 =>
            (if v4 = 0 then
            some (y3, none)
            else
            (fn_bi (fn_ev 0 (n + 2000) d 33 [.ref 29, .int (y3 1 6)] y3) (fun y5 v6 =>
              (if v6 = 0 then
              some ((fn_w y5 29 6 1), none)
              else
              (fn_bv (fn_ev 0 (n + 2000) d 34 [.ref 29, .ref 1] y5) (fun y7 =>
                some (y7, none))))))))))))))) :=
  fn_ev_t (dd := fn_d30) (lo := [(0, .ref 29), (1, .int a1), (2, .int a2), (3, .ref 1)]) (sp := []) rfl rfl rfl (fc_Node_takeInput_1 (fn_ev 0 (n + 2000) d) (fn_run 0 (fn_ev 0 (n + 2000) d) (fn_lk fn_d30)) (n + 1967) a1 a2 x)
set_option maxRecDepth 20000 in
theorem fc_Node_takeInput_2 (cf : Nat → List Value → fn_M → Option fn_R) (K : Nat → fn_K) (m : Nat) (a1 a2 : Int32) (x : fn_M) : fn_runc 0 cf (fn_lk fn_d30) [] K (m + 33) 0 [(0, .ref 30), (1, .int a1), (2, .int a2), (3, .ref 1)] [] x =
  (if a1 < 0 ∨ 16 ≤ a1.toNatClampNeg then
    none
    else
    (if (x 34 a1.toNatClampNeg) = a2 then
      (if a1 < 0 ∨ 16 ≤ a1.toNatClampNeg then
        none
        else
        some ((fn_w x 34 a1.toNatClampNeg a2), none))
      else
      (if a1 < 0 ∨ 16 ≤ a1.toNatClampNeg then
        none
        else
        (fn_bi (cf 31 [.ref 30] (fn_w x 34 a1.toNatClampNeg a2)) (fun y1 v2 =>
          (if v2 = 0 then
          some (y1, none)
          else
          (fn_bi (cf 32 [.ref 30, .int a1] y1) (fun y3 v4 =>
            (if v4 = 0 then
            some (y3, none)
            else
            (fn_bi (cf 33 [.ref 30, .int (y3 1 6)] y3) (fun y5 v6 =>
              (if v6 = 0 then
              some ((fn_w y5 30 6 1), none)
              else
              (fn_bv (cf 34 [.ref 30, .ref 1] y5) (fun y7 =>
                some (y7, none))))))))))))))) := rfl
theorem ft_Node_takeInput_2 (n d : Nat) (a1 a2 : Int32) (x : fn_M) : fn_ev 0 (n + 2000) (d + 1) 30 [.ref 30, .int a1, .int a2, .ref 1] x =
  (if a1 < 0 ∨ 16 ≤ a1.toNatClampNeg then
    none
    else
    (if (x 34 a1.toNatClampNeg) = a2 then
      (if a1 < 0 ∨ 16 ≤ a1.toNatClampNeg then
        none
        else
        some ((fn_w x 34 a1.toNatClampNeg a2), none))
      else
      (if a1 < 0 ∨ 16 ≤ a1.toNatClampNeg then
        none
        else
        (fn_bi (fn_ev 0 (n + 2000) d 31 [.ref 30] (fn_w x 34 a1.toNatClampNeg a2)) (fun y1 v2 =>
          (if v2 = 0 then
          some (y1, none)
          else
          (fn_bi (fn_ev 0 (n + 2000) d 32 [.ref 30, .int a1] y1) (fun y3 v4 =>
            (if v4 = 0 then
            some (y3, none)
            else
            (fn_bi (fn_ev 0 (n + 2000) d 33 [.ref 30, .int (y3 1 6)] y3) (fun y5 v6 =>
              (if v6 = 0 then
              some ((fn_w y5 30 6 1), none)
              else
              (fn_bv (fn_ev 0 (n + 2000) d 34 [.ref 30, .ref 1] y5) (fun y7 =>
                some (y7, none))))))))))))))) :=
  fn_ev_t (dd := fn_d30) (lo := [(0, .ref 30), (1, .int a1), (2, .int a2), (3, .ref 1)]) (sp := []) rfl rfl rfl (fc_Node_takeInput_2 (fn_ev 0 (n + 2000) d) (fn_run 0 (fn_ev 0 (n + 2000) d) (fn_lk fn_d30)) (n + 1967) a1 a2 x)
set_option maxRecDepth 20000 in
theorem fc_Node_takeInput_3 (cf : Nat → List Value → fn_M → Option fn_R) (K : Nat → fn_K) (m : Nat) (a1 a2 : Int32) (x : fn_M) : fn_runc 0 cf (fn_lk fn_d30) [] K (m + 33) 0 [(0, .ref 31), (1, .int a1), (2, .int a2), (3, .ref 1)] [] x =
  (if a1 < 0 ∨ 16 ≤ a1.toNatClampNeg then
    none
    else
    (if (x 35 a1.toNatClampNeg) = a2 then
      (if a1 < 0 ∨ 16 ≤ a1.toNatClampNeg then
        none
        else
        some ((fn_w x 35 a1.toNatClampNeg a2), none))
      else
      (if a1 < 0 ∨ 16 ≤ a1.toNatClampNeg then
        none
        else
        (fn_bi (cf 31 [.ref 31] (fn_w x 35 a1.toNatClampNeg a2)) (fun y1 v2 =>
          (if v2 = 0 then
          some (y1, none)
          else
          (fn_bi (cf 32 [.ref 31, .int a1] y1) (fun y3 v4 =>
            (if v4 = 0 then
            some (y3, none)
            else
            (fn_bi (cf 33 [.ref 31, .int (y3 1 6)] y3) (fun y5 v6 =>
              (if v6 = 0 then
              some ((fn_w y5 31 6 1), none)
              else
              (fn_bv (cf 34 [.ref 31, .ref 1] y5) (fun y7 =>
                some (y7, none))))))))))))))) := rfl
theorem ft_Node_takeInput_3 (n d : Nat) (a1 a2 : Int32) (x : fn_M) : fn_ev 0 (n + 2000) (d + 1) 30 [.ref 31, .int a1, .int a2, .ref 1] x =
  (if a1 < 0 ∨ 16 ≤ a1.toNatClampNeg then
    none
    else
    (if (x 35 a1.toNatClampNeg) = a2 then
      (if a1 < 0 ∨ 16 ≤ a1.toNatClampNeg then
        none
        else
        some ((fn_w x 35 a1.toNatClampNeg a2), none))
      else
      (if a1 < 0 ∨ 16 ≤ a1.toNatClampNeg then
        none
        else
        (fn_bi (fn_ev 0 (n + 2000) d 31 [.ref 31] (fn_w x 35 a1.toNatClampNeg a2)) (fun y1 v2 =>
          (if v2 = 0 then
          some (y1, none)
          else
          (fn_bi (fn_ev 0 (n + 2000) d 32 [.ref 31, .int a1] y1) (fun y3 v4 =>
            (if v4 = 0 then
            some (y3, none)
            else
            (fn_bi (fn_ev 0 (n + 2000) d 33 [.ref 31, .int (y3 1 6)] y3) (fun y5 v6 =>
              (if v6 = 0 then
              some ((fn_w y5 31 6 1), none)
              else
              (fn_bv (fn_ev 0 (n + 2000) d 34 [.ref 31, .ref 1] y5) (fun y7 =>
                some (y7, none))))))))))))))) :=
  fn_ev_t (dd := fn_d30) (lo := [(0, .ref 31), (1, .int a1), (2, .int a2), (3, .ref 1)]) (sp := []) rfl rfl rfl (fc_Node_takeInput_3 (fn_ev 0 (n + 2000) d) (fn_run 0 (fn_ev 0 (n + 2000) d) (fn_lk fn_d30)) (n + 1967) a1 a2 x)
set_option maxRecDepth 20000 in
theorem fc_Node_takeInput_4 (cf : Nat → List Value → fn_M → Option fn_R) (K : Nat → fn_K) (m : Nat) (a1 a2 : Int32) (x : fn_M) : fn_runc 0 cf (fn_lk fn_d30) [] K (m + 33) 0 [(0, .ref 32), (1, .int a1), (2, .int a2), (3, .ref 1)] [] x =
  (if a1 < 0 ∨ 16 ≤ a1.toNatClampNeg then
    none
    else
    (if (x 36 a1.toNatClampNeg) = a2 then
      (if a1 < 0 ∨ 16 ≤ a1.toNatClampNeg then
        none
        else
        some ((fn_w x 36 a1.toNatClampNeg a2), none))
      else
      (if a1 < 0 ∨ 16 ≤ a1.toNatClampNeg then
        none
        else
        (fn_bi (cf 31 [.ref 32] (fn_w x 36 a1.toNatClampNeg a2)) (fun y1 v2 =>
          (if v2 = 0 then
          some (y1, none)
          else
          (fn_bi (cf 32 [.ref 32, .int a1] y1) (fun y3 v4 =>
            (if v4 = 0 then
            some (y3, none)
            else
            (fn_bi (cf 33 [.ref 32, .int (y3 1 6)] y3) (fun y5 v6 =>
              (if v6 = 0 then
              some ((fn_w y5 32 6 1), none)
              else
              (fn_bv (cf 34 [.ref 32, .ref 1] y5) (fun y7 =>
                some (y7, none))))))))))))))) := rfl
theorem ft_Node_takeInput_4 (n d : Nat) (a1 a2 : Int32) (x : fn_M) : fn_ev 0 (n + 2000) (d + 1) 30 [.ref 32, .int a1, .int a2, .ref 1] x =
  (if a1 < 0 ∨ 16 ≤ a1.toNatClampNeg then
    none
    else
    (if (x 36 a1.toNatClampNeg) = a2 then
      (if a1 < 0 ∨ 16 ≤ a1.toNatClampNeg then
        none
        else
        some ((fn_w x 36 a1.toNatClampNeg a2), none))
      else
      (if a1 < 0 ∨ 16 ≤ a1.toNatClampNeg then
        none
        else
        (fn_bi (fn_ev 0 (n + 2000) d 31 [.ref 32] (fn_w x 36 a1.toNatClampNeg a2)) (fun y1 v2 =>
          (if v2 = 0 then
          some (y1, none)
          else
          (fn_bi (fn_ev 0 (n + 2000) d 32 [.ref 32, .int a1] y1) (fun y3 v4 =>
            (if v4 = 0 then
            some (y3, none)
            else
            (fn_bi (fn_ev 0 (n + 2000) d 33 [.ref 32, .int (y3 1 6)] y3) (fun y5 v6 =>
              (if v6 = 0 then
              some ((fn_w y5 32 6 1), none)
              else
              (fn_bv (fn_ev 0 (n + 2000) d 34 [.ref 32, .ref 1] y5) (fun y7 =>
                some (y7, none))))))))))))))) :=
  fn_ev_t (dd := fn_d30) (lo := [(0, .ref 32), (1, .int a1), (2, .int a2), (3, .ref 1)]) (sp := []) rfl rfl rfl (fc_Node_takeInput_4 (fn_ev 0 (n + 2000) d) (fn_run 0 (fn_ev 0 (n + 2000) d) (fn_lk fn_d30)) (n + 1967) a1 a2 x)
set_option maxRecDepth 20000 in
theorem fc_Node_sendsOnChange_1 (cf : Nat → List Value → fn_M → Option fn_R) (K : Nat → fn_K) (m : Nat) (x : fn_M) : fn_runc 0 cf (fn_lk fn_d31) [] K (m + 12) 0 [(0, .ref 29)] [] x =
  (if (x 29 3) = 5 then
    (if (x 33 4) = 0 then
      some (x, some (.int 1))
      else
      some (x, some (.int 0)))
    else
    some (x, some (.int 0))) := rfl
theorem ft_Node_sendsOnChange_1 (n d : Nat) (x : fn_M) : fn_ev 0 (n + 2000) (d + 1) 31 [.ref 29] x =
  (if (x 29 3) = 5 then
    (if (x 33 4) = 0 then
      some (x, some (.int 1))
      else
      some (x, some (.int 0)))
    else
    some (x, some (.int 0))) :=
  fn_ev_t (dd := fn_d31) (lo := [(0, .ref 29)]) (sp := []) rfl rfl rfl (fc_Node_sendsOnChange_1 (fn_ev 0 (n + 2000) d) (fn_run 0 (fn_ev 0 (n + 2000) d) (fn_lk fn_d31)) (n + 1988) x)
set_option maxRecDepth 20000 in
theorem fc_Node_sendsOnChange_2 (cf : Nat → List Value → fn_M → Option fn_R) (K : Nat → fn_K) (m : Nat) (x : fn_M) : fn_runc 0 cf (fn_lk fn_d31) [] K (m + 12) 0 [(0, .ref 30)] [] x =
  (if (x 30 3) = 5 then
    (if (x 34 4) = 0 then
      some (x, some (.int 1))
      else
      some (x, some (.int 0)))
    else
    some (x, some (.int 0))) := rfl
theorem ft_Node_sendsOnChange_2 (n d : Nat) (x : fn_M) : fn_ev 0 (n + 2000) (d + 1) 31 [.ref 30] x =
  (if (x 30 3) = 5 then
    (if (x 34 4) = 0 then
      some (x, some (.int 1))
      else
      some (x, some (.int 0)))
    else
    some (x, some (.int 0))) :=
  fn_ev_t (dd := fn_d31) (lo := [(0, .ref 30)]) (sp := []) rfl rfl rfl (fc_Node_sendsOnChange_2 (fn_ev 0 (n + 2000) d) (fn_run 0 (fn_ev 0 (n + 2000) d) (fn_lk fn_d31)) (n + 1988) x)
set_option maxRecDepth 20000 in
theorem fc_Node_sendsOnChange_3 (cf : Nat → List Value → fn_M → Option fn_R) (K : Nat → fn_K) (m : Nat) (x : fn_M) : fn_runc 0 cf (fn_lk fn_d31) [] K (m + 12) 0 [(0, .ref 31)] [] x =
  (if (x 31 3) = 5 then
    (if (x 35 4) = 0 then
      some (x, some (.int 1))
      else
      some (x, some (.int 0)))
    else
    some (x, some (.int 0))) := rfl
theorem ft_Node_sendsOnChange_3 (n d : Nat) (x : fn_M) : fn_ev 0 (n + 2000) (d + 1) 31 [.ref 31] x =
  (if (x 31 3) = 5 then
    (if (x 35 4) = 0 then
      some (x, some (.int 1))
      else
      some (x, some (.int 0)))
    else
    some (x, some (.int 0))) :=
  fn_ev_t (dd := fn_d31) (lo := [(0, .ref 31)]) (sp := []) rfl rfl rfl (fc_Node_sendsOnChange_3 (fn_ev 0 (n + 2000) d) (fn_run 0 (fn_ev 0 (n + 2000) d) (fn_lk fn_d31)) (n + 1988) x)
set_option maxRecDepth 20000 in
theorem fc_Node_sendsOnChange_4 (cf : Nat → List Value → fn_M → Option fn_R) (K : Nat → fn_K) (m : Nat) (x : fn_M) : fn_runc 0 cf (fn_lk fn_d31) [] K (m + 12) 0 [(0, .ref 32)] [] x =
  (if (x 32 3) = 5 then
    (if (x 36 4) = 0 then
      some (x, some (.int 1))
      else
      some (x, some (.int 0)))
    else
    some (x, some (.int 0))) := rfl
theorem ft_Node_sendsOnChange_4 (n d : Nat) (x : fn_M) : fn_ev 0 (n + 2000) (d + 1) 31 [.ref 32] x =
  (if (x 32 3) = 5 then
    (if (x 36 4) = 0 then
      some (x, some (.int 1))
      else
      some (x, some (.int 0)))
    else
    some (x, some (.int 0))) :=
  fn_ev_t (dd := fn_d31) (lo := [(0, .ref 32)]) (sp := []) rfl rfl rfl (fc_Node_sendsOnChange_4 (fn_ev 0 (n + 2000) d) (fn_run 0 (fn_ev 0 (n + 2000) d) (fn_lk fn_d31)) (n + 1988) x)
set_option maxRecDepth 20000 in
theorem fc_Node_mapNames_1 (cf : Nat → List Value → fn_M → Option fn_R) (K : Nat → fn_K) (m : Nat) (a1 : Int32) (x : fn_M) : fn_runc 0 cf (fn_lk fn_d32) [] K (m + 19) 0 [(0, .ref 29), (1, .int a1)] [] x =
  (if ((x 33 6) / 100) = a1 then
    some (x, some (.int 1))
    else
    (if ((x 33 6) - (x 33 6) / 100 * 100) = a1 then
      some (x, some (.int 1))
      else
      some (x, some (.int 0)))) := rfl
theorem ft_Node_mapNames_1 (n d : Nat) (a1 : Int32) (x : fn_M) : fn_ev 0 (n + 2000) (d + 1) 32 [.ref 29, .int a1] x =
  (if ((x 33 6) / 100) = a1 then
    some (x, some (.int 1))
    else
    (if ((x 33 6) - (x 33 6) / 100 * 100) = a1 then
      some (x, some (.int 1))
      else
      some (x, some (.int 0)))) :=
  fn_ev_t (dd := fn_d32) (lo := [(0, .ref 29), (1, .int a1)]) (sp := []) rfl rfl rfl (fc_Node_mapNames_1 (fn_ev 0 (n + 2000) d) (fn_run 0 (fn_ev 0 (n + 2000) d) (fn_lk fn_d32)) (n + 1981) a1 x)
set_option maxRecDepth 20000 in
theorem fc_Node_mapNames_2 (cf : Nat → List Value → fn_M → Option fn_R) (K : Nat → fn_K) (m : Nat) (a1 : Int32) (x : fn_M) : fn_runc 0 cf (fn_lk fn_d32) [] K (m + 19) 0 [(0, .ref 30), (1, .int a1)] [] x =
  (if ((x 34 6) / 100) = a1 then
    some (x, some (.int 1))
    else
    (if ((x 34 6) - (x 34 6) / 100 * 100) = a1 then
      some (x, some (.int 1))
      else
      some (x, some (.int 0)))) := rfl
theorem ft_Node_mapNames_2 (n d : Nat) (a1 : Int32) (x : fn_M) : fn_ev 0 (n + 2000) (d + 1) 32 [.ref 30, .int a1] x =
  (if ((x 34 6) / 100) = a1 then
    some (x, some (.int 1))
    else
    (if ((x 34 6) - (x 34 6) / 100 * 100) = a1 then
      some (x, some (.int 1))
      else
      some (x, some (.int 0)))) :=
  fn_ev_t (dd := fn_d32) (lo := [(0, .ref 30), (1, .int a1)]) (sp := []) rfl rfl rfl (fc_Node_mapNames_2 (fn_ev 0 (n + 2000) d) (fn_run 0 (fn_ev 0 (n + 2000) d) (fn_lk fn_d32)) (n + 1981) a1 x)
set_option maxRecDepth 20000 in
theorem fc_Node_mapNames_3 (cf : Nat → List Value → fn_M → Option fn_R) (K : Nat → fn_K) (m : Nat) (a1 : Int32) (x : fn_M) : fn_runc 0 cf (fn_lk fn_d32) [] K (m + 19) 0 [(0, .ref 31), (1, .int a1)] [] x =
  (if ((x 35 6) / 100) = a1 then
    some (x, some (.int 1))
    else
    (if ((x 35 6) - (x 35 6) / 100 * 100) = a1 then
      some (x, some (.int 1))
      else
      some (x, some (.int 0)))) := rfl
theorem ft_Node_mapNames_3 (n d : Nat) (a1 : Int32) (x : fn_M) : fn_ev 0 (n + 2000) (d + 1) 32 [.ref 31, .int a1] x =
  (if ((x 35 6) / 100) = a1 then
    some (x, some (.int 1))
    else
    (if ((x 35 6) - (x 35 6) / 100 * 100) = a1 then
      some (x, some (.int 1))
      else
      some (x, some (.int 0)))) :=
  fn_ev_t (dd := fn_d32) (lo := [(0, .ref 31), (1, .int a1)]) (sp := []) rfl rfl rfl (fc_Node_mapNames_3 (fn_ev 0 (n + 2000) d) (fn_run 0 (fn_ev 0 (n + 2000) d) (fn_lk fn_d32)) (n + 1981) a1 x)
set_option maxRecDepth 20000 in
theorem fc_Node_mapNames_4 (cf : Nat → List Value → fn_M → Option fn_R) (K : Nat → fn_K) (m : Nat) (a1 : Int32) (x : fn_M) : fn_runc 0 cf (fn_lk fn_d32) [] K (m + 19) 0 [(0, .ref 32), (1, .int a1)] [] x =
  (if ((x 36 6) / 100) = a1 then
    some (x, some (.int 1))
    else
    (if ((x 36 6) - (x 36 6) / 100 * 100) = a1 then
      some (x, some (.int 1))
      else
      some (x, some (.int 0)))) := rfl
theorem ft_Node_mapNames_4 (n d : Nat) (a1 : Int32) (x : fn_M) : fn_ev 0 (n + 2000) (d + 1) 32 [.ref 32, .int a1] x =
  (if ((x 36 6) / 100) = a1 then
    some (x, some (.int 1))
    else
    (if ((x 36 6) - (x 36 6) / 100 * 100) = a1 then
      some (x, some (.int 1))
      else
      some (x, some (.int 0)))) :=
  fn_ev_t (dd := fn_d32) (lo := [(0, .ref 32), (1, .int a1)]) (sp := []) rfl rfl rfl (fc_Node_mapNames_4 (fn_ev 0 (n + 2000) d) (fn_run 0 (fn_ev 0 (n + 2000) d) (fn_lk fn_d32)) (n + 1981) a1 x)
set_option maxRecDepth 20000 in
theorem fc_Node_isPauseOver_1 (cf : Nat → List Value → fn_M → Option fn_R) (K : Nat → fn_K) (m : Nat) (a1 : Int32) (x : fn_M) : fn_runc 0 cf (fn_lk fn_d33) [] K (m + 16) 0 [(0, .ref 29), (1, .int a1)] [] x =
  (if (x 29 5) = (-1) then
    some (x, some (.int 1))
    else
    (if (a1 - (x 29 5)) < (x 33 5) then
      some (x, some (.int 0))
      else
      some (x, some (.int 1)))) := rfl
theorem ft_Node_isPauseOver_1 (n d : Nat) (a1 : Int32) (x : fn_M) : fn_ev 0 (n + 2000) (d + 1) 33 [.ref 29, .int a1] x =
  (if (x 29 5) = (-1) then
    some (x, some (.int 1))
    else
    (if (a1 - (x 29 5)) < (x 33 5) then
      some (x, some (.int 0))
      else
      some (x, some (.int 1)))) :=
  fn_ev_t (dd := fn_d33) (lo := [(0, .ref 29), (1, .int a1)]) (sp := []) rfl rfl rfl (fc_Node_isPauseOver_1 (fn_ev 0 (n + 2000) d) (fn_run 0 (fn_ev 0 (n + 2000) d) (fn_lk fn_d33)) (n + 1984) a1 x)
set_option maxRecDepth 20000 in
theorem fc_Node_isPauseOver_2 (cf : Nat → List Value → fn_M → Option fn_R) (K : Nat → fn_K) (m : Nat) (a1 : Int32) (x : fn_M) : fn_runc 0 cf (fn_lk fn_d33) [] K (m + 16) 0 [(0, .ref 30), (1, .int a1)] [] x =
  (if (x 30 5) = (-1) then
    some (x, some (.int 1))
    else
    (if (a1 - (x 30 5)) < (x 34 5) then
      some (x, some (.int 0))
      else
      some (x, some (.int 1)))) := rfl
theorem ft_Node_isPauseOver_2 (n d : Nat) (a1 : Int32) (x : fn_M) : fn_ev 0 (n + 2000) (d + 1) 33 [.ref 30, .int a1] x =
  (if (x 30 5) = (-1) then
    some (x, some (.int 1))
    else
    (if (a1 - (x 30 5)) < (x 34 5) then
      some (x, some (.int 0))
      else
      some (x, some (.int 1)))) :=
  fn_ev_t (dd := fn_d33) (lo := [(0, .ref 30), (1, .int a1)]) (sp := []) rfl rfl rfl (fc_Node_isPauseOver_2 (fn_ev 0 (n + 2000) d) (fn_run 0 (fn_ev 0 (n + 2000) d) (fn_lk fn_d33)) (n + 1984) a1 x)
set_option maxRecDepth 20000 in
theorem fc_Node_isPauseOver_3 (cf : Nat → List Value → fn_M → Option fn_R) (K : Nat → fn_K) (m : Nat) (a1 : Int32) (x : fn_M) : fn_runc 0 cf (fn_lk fn_d33) [] K (m + 16) 0 [(0, .ref 31), (1, .int a1)] [] x =
  (if (x 31 5) = (-1) then
    some (x, some (.int 1))
    else
    (if (a1 - (x 31 5)) < (x 35 5) then
      some (x, some (.int 0))
      else
      some (x, some (.int 1)))) := rfl
theorem ft_Node_isPauseOver_3 (n d : Nat) (a1 : Int32) (x : fn_M) : fn_ev 0 (n + 2000) (d + 1) 33 [.ref 31, .int a1] x =
  (if (x 31 5) = (-1) then
    some (x, some (.int 1))
    else
    (if (a1 - (x 31 5)) < (x 35 5) then
      some (x, some (.int 0))
      else
      some (x, some (.int 1)))) :=
  fn_ev_t (dd := fn_d33) (lo := [(0, .ref 31), (1, .int a1)]) (sp := []) rfl rfl rfl (fc_Node_isPauseOver_3 (fn_ev 0 (n + 2000) d) (fn_run 0 (fn_ev 0 (n + 2000) d) (fn_lk fn_d33)) (n + 1984) a1 x)
set_option maxRecDepth 20000 in
theorem fc_Node_isPauseOver_4 (cf : Nat → List Value → fn_M → Option fn_R) (K : Nat → fn_K) (m : Nat) (a1 : Int32) (x : fn_M) : fn_runc 0 cf (fn_lk fn_d33) [] K (m + 16) 0 [(0, .ref 32), (1, .int a1)] [] x =
  (if (x 32 5) = (-1) then
    some (x, some (.int 1))
    else
    (if (a1 - (x 32 5)) < (x 36 5) then
      some (x, some (.int 0))
      else
      some (x, some (.int 1)))) := rfl
theorem ft_Node_isPauseOver_4 (n d : Nat) (a1 : Int32) (x : fn_M) : fn_ev 0 (n + 2000) (d + 1) 33 [.ref 32, .int a1] x =
  (if (x 32 5) = (-1) then
    some (x, some (.int 1))
    else
    (if (a1 - (x 32 5)) < (x 36 5) then
      some (x, some (.int 0))
      else
      some (x, some (.int 1)))) :=
  fn_ev_t (dd := fn_d33) (lo := [(0, .ref 32), (1, .int a1)]) (sp := []) rfl rfl rfl (fc_Node_isPauseOver_4 (fn_ev 0 (n + 2000) d) (fn_run 0 (fn_ev 0 (n + 2000) d) (fn_lk fn_d33)) (n + 1984) a1 x)
set_option maxRecDepth 20000 in
theorem fc_Node_send_1 (cf : Nat → List Value → fn_M → Option fn_R) (K : Nat → fn_K) (m : Nat) (x : fn_M) : fn_runc 0 cf (fn_lk fn_d34) [] K (m + 40) 0 [(0, .ref 29), (1, .ref 1)] [] x =
  (if (x 33 6) = 0 then
    (if (x 33 6) = 0 then
      (fn_bv (cf 55 [.ref 1, .int (x 29 0), .int (384 + (x 29 0)), .int 0, .int 0, .int 0] x) (fun y10 =>
        some ((fn_w (fn_w y10 29 5 (y10 1 6)) 29 6 0), none)))
      else
      (fn_bi (cf 36 [.ref 29, .int ((x 33 6) - (x 33 6) / 100 * 100)] x) (fun y7 v8 =>
        (fn_bv (cf 55 [.ref 1, .int (y7 29 0), .int (384 + (y7 29 0)), .int 0, .int 0, .int v8] y7) (fun y9 =>
        some ((fn_w (fn_w y9 29 5 (y9 1 6)) 29 6 0), none))))))
    else
    (fn_bi (cf 36 [.ref 29, .int ((x 33 6) / 100)] x) (fun y1 v2 =>
      (if (x 33 6) = 0 then
      (fn_bv (cf 55 [.ref 1, .int (y1 29 0), .int (384 + (y1 29 0)), .int 0, .int v2, .int 0] y1) (fun y6 =>
        some ((fn_w (fn_w y6 29 5 (y6 1 6)) 29 6 0), none)))
      else
      (fn_bi (cf 36 [.ref 29, .int ((x 33 6) - (x 33 6) / 100 * 100)] y1) (fun y3 v4 =>
        (fn_bv (cf 55 [.ref 1, .int (y3 29 0), .int (384 + (y3 29 0)), .int 0, .int v2, .int v4] y3) (fun y5 =>
        some ((fn_w (fn_w y5 29 5 (y5 1 6)) 29 6 0), none))))))))) := rfl
theorem ft_Node_send_1 (n d : Nat) (x : fn_M) : fn_ev 0 (n + 2000) (d + 1) 34 [.ref 29, .ref 1] x =
  (if (x 33 6) = 0 then
    (if (x 33 6) = 0 then
      (fn_bv (fn_ev 0 (n + 2000) d 55 [.ref 1, .int (x 29 0), .int (384 + (x 29 0)), .int 0, .int 0, .int 0] x) (fun y10 =>
        some ((fn_w (fn_w y10 29 5 (y10 1 6)) 29 6 0), none)))
      else
      (fn_bi (fn_ev 0 (n + 2000) d 36 [.ref 29, .int ((x 33 6) - (x 33 6) / 100 * 100)] x) (fun y7 v8 =>
        (fn_bv (fn_ev 0 (n + 2000) d 55 [.ref 1, .int (y7 29 0), .int (384 + (y7 29 0)), .int 0, .int 0, .int v8] y7) (fun y9 =>
        some ((fn_w (fn_w y9 29 5 (y9 1 6)) 29 6 0), none))))))
    else
    (fn_bi (fn_ev 0 (n + 2000) d 36 [.ref 29, .int ((x 33 6) / 100)] x) (fun y1 v2 =>
      (if (x 33 6) = 0 then
      (fn_bv (fn_ev 0 (n + 2000) d 55 [.ref 1, .int (y1 29 0), .int (384 + (y1 29 0)), .int 0, .int v2, .int 0] y1) (fun y6 =>
        some ((fn_w (fn_w y6 29 5 (y6 1 6)) 29 6 0), none)))
      else
      (fn_bi (fn_ev 0 (n + 2000) d 36 [.ref 29, .int ((x 33 6) - (x 33 6) / 100 * 100)] y1) (fun y3 v4 =>
        (fn_bv (fn_ev 0 (n + 2000) d 55 [.ref 1, .int (y3 29 0), .int (384 + (y3 29 0)), .int 0, .int v2, .int v4] y3) (fun y5 =>
        some ((fn_w (fn_w y5 29 5 (y5 1 6)) 29 6 0), none))))))))) :=
  fn_ev_t (dd := fn_d34) (lo := [(0, .ref 29), (1, .ref 1)]) (sp := []) rfl rfl rfl (fc_Node_send_1 (fn_ev 0 (n + 2000) d) (fn_run 0 (fn_ev 0 (n + 2000) d) (fn_lk fn_d34)) (n + 1960) x)
set_option maxRecDepth 20000 in
theorem fc_Node_send_2 (cf : Nat → List Value → fn_M → Option fn_R) (K : Nat → fn_K) (m : Nat) (x : fn_M) : fn_runc 0 cf (fn_lk fn_d34) [] K (m + 40) 0 [(0, .ref 30), (1, .ref 1)] [] x =
  (if (x 34 6) = 0 then
    (if (x 34 6) = 0 then
      (fn_bv (cf 55 [.ref 1, .int (x 30 0), .int (384 + (x 30 0)), .int 0, .int 0, .int 0] x) (fun y10 =>
        some ((fn_w (fn_w y10 30 5 (y10 1 6)) 30 6 0), none)))
      else
      (fn_bi (cf 36 [.ref 30, .int ((x 34 6) - (x 34 6) / 100 * 100)] x) (fun y7 v8 =>
        (fn_bv (cf 55 [.ref 1, .int (y7 30 0), .int (384 + (y7 30 0)), .int 0, .int 0, .int v8] y7) (fun y9 =>
        some ((fn_w (fn_w y9 30 5 (y9 1 6)) 30 6 0), none))))))
    else
    (fn_bi (cf 36 [.ref 30, .int ((x 34 6) / 100)] x) (fun y1 v2 =>
      (if (x 34 6) = 0 then
      (fn_bv (cf 55 [.ref 1, .int (y1 30 0), .int (384 + (y1 30 0)), .int 0, .int v2, .int 0] y1) (fun y6 =>
        some ((fn_w (fn_w y6 30 5 (y6 1 6)) 30 6 0), none)))
      else
      (fn_bi (cf 36 [.ref 30, .int ((x 34 6) - (x 34 6) / 100 * 100)] y1) (fun y3 v4 =>
        (fn_bv (cf 55 [.ref 1, .int (y3 30 0), .int (384 + (y3 30 0)), .int 0, .int v2, .int v4] y3) (fun y5 =>
        some ((fn_w (fn_w y5 30 5 (y5 1 6)) 30 6 0), none))))))))) := rfl
theorem ft_Node_send_2 (n d : Nat) (x : fn_M) : fn_ev 0 (n + 2000) (d + 1) 34 [.ref 30, .ref 1] x =
  (if (x 34 6) = 0 then
    (if (x 34 6) = 0 then
      (fn_bv (fn_ev 0 (n + 2000) d 55 [.ref 1, .int (x 30 0), .int (384 + (x 30 0)), .int 0, .int 0, .int 0] x) (fun y10 =>
        some ((fn_w (fn_w y10 30 5 (y10 1 6)) 30 6 0), none)))
      else
      (fn_bi (fn_ev 0 (n + 2000) d 36 [.ref 30, .int ((x 34 6) - (x 34 6) / 100 * 100)] x) (fun y7 v8 =>
        (fn_bv (fn_ev 0 (n + 2000) d 55 [.ref 1, .int (y7 30 0), .int (384 + (y7 30 0)), .int 0, .int 0, .int v8] y7) (fun y9 =>
        some ((fn_w (fn_w y9 30 5 (y9 1 6)) 30 6 0), none))))))
    else
    (fn_bi (fn_ev 0 (n + 2000) d 36 [.ref 30, .int ((x 34 6) / 100)] x) (fun y1 v2 =>
      (if (x 34 6) = 0 then
      (fn_bv (fn_ev 0 (n + 2000) d 55 [.ref 1, .int (y1 30 0), .int (384 + (y1 30 0)), .int 0, .int v2, .int 0] y1) (fun y6 =>
        some ((fn_w (fn_w y6 30 5 (y6 1 6)) 30 6 0), none)))
      else
      (fn_bi (fn_ev 0 (n + 2000) d 36 [.ref 30, .int ((x 34 6) - (x 34 6) / 100 * 100)] y1) (fun y3 v4 =>
        (fn_bv (fn_ev 0 (n + 2000) d 55 [.ref 1, .int (y3 30 0), .int (384 + (y3 30 0)), .int 0, .int v2, .int v4] y3) (fun y5 =>
        some ((fn_w (fn_w y5 30 5 (y5 1 6)) 30 6 0), none))))))))) :=
  fn_ev_t (dd := fn_d34) (lo := [(0, .ref 30), (1, .ref 1)]) (sp := []) rfl rfl rfl (fc_Node_send_2 (fn_ev 0 (n + 2000) d) (fn_run 0 (fn_ev 0 (n + 2000) d) (fn_lk fn_d34)) (n + 1960) x)
set_option maxRecDepth 20000 in
theorem fc_Node_send_3 (cf : Nat → List Value → fn_M → Option fn_R) (K : Nat → fn_K) (m : Nat) (x : fn_M) : fn_runc 0 cf (fn_lk fn_d34) [] K (m + 40) 0 [(0, .ref 31), (1, .ref 1)] [] x =
  (if (x 35 6) = 0 then
    (if (x 35 6) = 0 then
      (fn_bv (cf 55 [.ref 1, .int (x 31 0), .int (384 + (x 31 0)), .int 0, .int 0, .int 0] x) (fun y10 =>
        some ((fn_w (fn_w y10 31 5 (y10 1 6)) 31 6 0), none)))
      else
      (fn_bi (cf 36 [.ref 31, .int ((x 35 6) - (x 35 6) / 100 * 100)] x) (fun y7 v8 =>
        (fn_bv (cf 55 [.ref 1, .int (y7 31 0), .int (384 + (y7 31 0)), .int 0, .int 0, .int v8] y7) (fun y9 =>
        some ((fn_w (fn_w y9 31 5 (y9 1 6)) 31 6 0), none))))))
    else
    (fn_bi (cf 36 [.ref 31, .int ((x 35 6) / 100)] x) (fun y1 v2 =>
      (if (x 35 6) = 0 then
      (fn_bv (cf 55 [.ref 1, .int (y1 31 0), .int (384 + (y1 31 0)), .int 0, .int v2, .int 0] y1) (fun y6 =>
        some ((fn_w (fn_w y6 31 5 (y6 1 6)) 31 6 0), none)))
      else
      (fn_bi (cf 36 [.ref 31, .int ((x 35 6) - (x 35 6) / 100 * 100)] y1) (fun y3 v4 =>
        (fn_bv (cf 55 [.ref 1, .int (y3 31 0), .int (384 + (y3 31 0)), .int 0, .int v2, .int v4] y3) (fun y5 =>
        some ((fn_w (fn_w y5 31 5 (y5 1 6)) 31 6 0), none))))))))) := rfl
theorem ft_Node_send_3 (n d : Nat) (x : fn_M) : fn_ev 0 (n + 2000) (d + 1) 34 [.ref 31, .ref 1] x =
  (if (x 35 6) = 0 then
    (if (x 35 6) = 0 then
      (fn_bv (fn_ev 0 (n + 2000) d 55 [.ref 1, .int (x 31 0), .int (384 + (x 31 0)), .int 0, .int 0, .int 0] x) (fun y10 =>
        some ((fn_w (fn_w y10 31 5 (y10 1 6)) 31 6 0), none)))
      else
      (fn_bi (fn_ev 0 (n + 2000) d 36 [.ref 31, .int ((x 35 6) - (x 35 6) / 100 * 100)] x) (fun y7 v8 =>
        (fn_bv (fn_ev 0 (n + 2000) d 55 [.ref 1, .int (y7 31 0), .int (384 + (y7 31 0)), .int 0, .int 0, .int v8] y7) (fun y9 =>
        some ((fn_w (fn_w y9 31 5 (y9 1 6)) 31 6 0), none))))))
    else
    (fn_bi (fn_ev 0 (n + 2000) d 36 [.ref 31, .int ((x 35 6) / 100)] x) (fun y1 v2 =>
      (if (x 35 6) = 0 then
      (fn_bv (fn_ev 0 (n + 2000) d 55 [.ref 1, .int (y1 31 0), .int (384 + (y1 31 0)), .int 0, .int v2, .int 0] y1) (fun y6 =>
        some ((fn_w (fn_w y6 31 5 (y6 1 6)) 31 6 0), none)))
      else
      (fn_bi (fn_ev 0 (n + 2000) d 36 [.ref 31, .int ((x 35 6) - (x 35 6) / 100 * 100)] y1) (fun y3 v4 =>
        (fn_bv (fn_ev 0 (n + 2000) d 55 [.ref 1, .int (y3 31 0), .int (384 + (y3 31 0)), .int 0, .int v2, .int v4] y3) (fun y5 =>
        some ((fn_w (fn_w y5 31 5 (y5 1 6)) 31 6 0), none))))))))) :=
  fn_ev_t (dd := fn_d34) (lo := [(0, .ref 31), (1, .ref 1)]) (sp := []) rfl rfl rfl (fc_Node_send_3 (fn_ev 0 (n + 2000) d) (fn_run 0 (fn_ev 0 (n + 2000) d) (fn_lk fn_d34)) (n + 1960) x)
set_option maxRecDepth 20000 in
theorem fc_Node_send_4 (cf : Nat → List Value → fn_M → Option fn_R) (K : Nat → fn_K) (m : Nat) (x : fn_M) : fn_runc 0 cf (fn_lk fn_d34) [] K (m + 40) 0 [(0, .ref 32), (1, .ref 1)] [] x =
  (if (x 36 6) = 0 then
    (if (x 36 6) = 0 then
      (fn_bv (cf 55 [.ref 1, .int (x 32 0), .int (384 + (x 32 0)), .int 0, .int 0, .int 0] x) (fun y10 =>
        some ((fn_w (fn_w y10 32 5 (y10 1 6)) 32 6 0), none)))
      else
      (fn_bi (cf 36 [.ref 32, .int ((x 36 6) - (x 36 6) / 100 * 100)] x) (fun y7 v8 =>
        (fn_bv (cf 55 [.ref 1, .int (y7 32 0), .int (384 + (y7 32 0)), .int 0, .int 0, .int v8] y7) (fun y9 =>
        some ((fn_w (fn_w y9 32 5 (y9 1 6)) 32 6 0), none))))))
    else
    (fn_bi (cf 36 [.ref 32, .int ((x 36 6) / 100)] x) (fun y1 v2 =>
      (if (x 36 6) = 0 then
      (fn_bv (cf 55 [.ref 1, .int (y1 32 0), .int (384 + (y1 32 0)), .int 0, .int v2, .int 0] y1) (fun y6 =>
        some ((fn_w (fn_w y6 32 5 (y6 1 6)) 32 6 0), none)))
      else
      (fn_bi (cf 36 [.ref 32, .int ((x 36 6) - (x 36 6) / 100 * 100)] y1) (fun y3 v4 =>
        (fn_bv (cf 55 [.ref 1, .int (y3 32 0), .int (384 + (y3 32 0)), .int 0, .int v2, .int v4] y3) (fun y5 =>
        some ((fn_w (fn_w y5 32 5 (y5 1 6)) 32 6 0), none))))))))) := rfl
theorem ft_Node_send_4 (n d : Nat) (x : fn_M) : fn_ev 0 (n + 2000) (d + 1) 34 [.ref 32, .ref 1] x =
  (if (x 36 6) = 0 then
    (if (x 36 6) = 0 then
      (fn_bv (fn_ev 0 (n + 2000) d 55 [.ref 1, .int (x 32 0), .int (384 + (x 32 0)), .int 0, .int 0, .int 0] x) (fun y10 =>
        some ((fn_w (fn_w y10 32 5 (y10 1 6)) 32 6 0), none)))
      else
      (fn_bi (fn_ev 0 (n + 2000) d 36 [.ref 32, .int ((x 36 6) - (x 36 6) / 100 * 100)] x) (fun y7 v8 =>
        (fn_bv (fn_ev 0 (n + 2000) d 55 [.ref 1, .int (y7 32 0), .int (384 + (y7 32 0)), .int 0, .int 0, .int v8] y7) (fun y9 =>
        some ((fn_w (fn_w y9 32 5 (y9 1 6)) 32 6 0), none))))))
    else
    (fn_bi (fn_ev 0 (n + 2000) d 36 [.ref 32, .int ((x 36 6) / 100)] x) (fun y1 v2 =>
      (if (x 36 6) = 0 then
      (fn_bv (fn_ev 0 (n + 2000) d 55 [.ref 1, .int (y1 32 0), .int (384 + (y1 32 0)), .int 0, .int v2, .int 0] y1) (fun y6 =>
        some ((fn_w (fn_w y6 32 5 (y6 1 6)) 32 6 0), none)))
      else
      (fn_bi (fn_ev 0 (n + 2000) d 36 [.ref 32, .int ((x 36 6) - (x 36 6) / 100 * 100)] y1) (fun y3 v4 =>
        (fn_bv (fn_ev 0 (n + 2000) d 55 [.ref 1, .int (y3 32 0), .int (384 + (y3 32 0)), .int 0, .int v2, .int v4] y3) (fun y5 =>
        some ((fn_w (fn_w y5 32 5 (y5 1 6)) 32 6 0), none))))))))) :=
  fn_ev_t (dd := fn_d34) (lo := [(0, .ref 32), (1, .ref 1)]) (sp := []) rfl rfl rfl (fc_Node_send_4 (fn_ev 0 (n + 2000) d) (fn_run 0 (fn_ev 0 (n + 2000) d) (fn_lk fn_d34)) (n + 1960) x)
set_option maxRecDepth 20000 in
theorem fc_Node_takeFailure_1 (cf : Nat → List Value → fn_M → Option fn_R) (K : Nat → fn_K) (m : Nat) (a1 : Int32) (x : fn_M) : fn_runc 0 cf (fn_lk fn_d35) [] K (m + 24) 0 [(0, .ref 29), (1, .int a1), (2, .ref 1)] [] x =
  (if a1 = 0 then
    (fn_bv (cf 55 [.ref 1, .int (x 29 0), .int (128 + (x 29 0)), .int a1, .int 0, .int 0] (fn_w x 33 1 0)) (fun y2 =>
      some (y2, none)))
    else
    (fn_bv (cf 55 [.ref 1, .int (x 29 0), .int (128 + (x 29 0)), .int a1, .int 0, .int 0] (fn_w x 33 1 ((x 33 1) ||| 2))) (fun y1 =>
      some (y1, none)))) := rfl
theorem ft_Node_takeFailure_1 (n d : Nat) (a1 : Int32) (x : fn_M) : fn_ev 0 (n + 2000) (d + 1) 35 [.ref 29, .int a1, .ref 1] x =
  (if a1 = 0 then
    (fn_bv (fn_ev 0 (n + 2000) d 55 [.ref 1, .int (x 29 0), .int (128 + (x 29 0)), .int a1, .int 0, .int 0] (fn_w x 33 1 0)) (fun y2 =>
      some (y2, none)))
    else
    (fn_bv (fn_ev 0 (n + 2000) d 55 [.ref 1, .int (x 29 0), .int (128 + (x 29 0)), .int a1, .int 0, .int 0] (fn_w x 33 1 ((x 33 1) ||| 2))) (fun y1 =>
      some (y1, none)))) :=
  fn_ev_t (dd := fn_d35) (lo := [(0, .ref 29), (1, .int a1), (2, .ref 1)]) (sp := []) rfl rfl rfl (fc_Node_takeFailure_1 (fn_ev 0 (n + 2000) d) (fn_run 0 (fn_ev 0 (n + 2000) d) (fn_lk fn_d35)) (n + 1976) a1 x)
set_option maxRecDepth 20000 in
theorem fc_Node_takeFailure_2 (cf : Nat → List Value → fn_M → Option fn_R) (K : Nat → fn_K) (m : Nat) (a1 : Int32) (x : fn_M) : fn_runc 0 cf (fn_lk fn_d35) [] K (m + 24) 0 [(0, .ref 30), (1, .int a1), (2, .ref 1)] [] x =
  (if a1 = 0 then
    (fn_bv (cf 55 [.ref 1, .int (x 30 0), .int (128 + (x 30 0)), .int a1, .int 0, .int 0] (fn_w x 34 1 0)) (fun y2 =>
      some (y2, none)))
    else
    (fn_bv (cf 55 [.ref 1, .int (x 30 0), .int (128 + (x 30 0)), .int a1, .int 0, .int 0] (fn_w x 34 1 ((x 34 1) ||| 2))) (fun y1 =>
      some (y1, none)))) := rfl
theorem ft_Node_takeFailure_2 (n d : Nat) (a1 : Int32) (x : fn_M) : fn_ev 0 (n + 2000) (d + 1) 35 [.ref 30, .int a1, .ref 1] x =
  (if a1 = 0 then
    (fn_bv (fn_ev 0 (n + 2000) d 55 [.ref 1, .int (x 30 0), .int (128 + (x 30 0)), .int a1, .int 0, .int 0] (fn_w x 34 1 0)) (fun y2 =>
      some (y2, none)))
    else
    (fn_bv (fn_ev 0 (n + 2000) d 55 [.ref 1, .int (x 30 0), .int (128 + (x 30 0)), .int a1, .int 0, .int 0] (fn_w x 34 1 ((x 34 1) ||| 2))) (fun y1 =>
      some (y1, none)))) :=
  fn_ev_t (dd := fn_d35) (lo := [(0, .ref 30), (1, .int a1), (2, .ref 1)]) (sp := []) rfl rfl rfl (fc_Node_takeFailure_2 (fn_ev 0 (n + 2000) d) (fn_run 0 (fn_ev 0 (n + 2000) d) (fn_lk fn_d35)) (n + 1976) a1 x)
set_option maxRecDepth 20000 in
theorem fc_Node_takeFailure_3 (cf : Nat → List Value → fn_M → Option fn_R) (K : Nat → fn_K) (m : Nat) (a1 : Int32) (x : fn_M) : fn_runc 0 cf (fn_lk fn_d35) [] K (m + 24) 0 [(0, .ref 31), (1, .int a1), (2, .ref 1)] [] x =
  (if a1 = 0 then
    (fn_bv (cf 55 [.ref 1, .int (x 31 0), .int (128 + (x 31 0)), .int a1, .int 0, .int 0] (fn_w x 35 1 0)) (fun y2 =>
      some (y2, none)))
    else
    (fn_bv (cf 55 [.ref 1, .int (x 31 0), .int (128 + (x 31 0)), .int a1, .int 0, .int 0] (fn_w x 35 1 ((x 35 1) ||| 2))) (fun y1 =>
      some (y1, none)))) := rfl
theorem ft_Node_takeFailure_3 (n d : Nat) (a1 : Int32) (x : fn_M) : fn_ev 0 (n + 2000) (d + 1) 35 [.ref 31, .int a1, .ref 1] x =
  (if a1 = 0 then
    (fn_bv (fn_ev 0 (n + 2000) d 55 [.ref 1, .int (x 31 0), .int (128 + (x 31 0)), .int a1, .int 0, .int 0] (fn_w x 35 1 0)) (fun y2 =>
      some (y2, none)))
    else
    (fn_bv (fn_ev 0 (n + 2000) d 55 [.ref 1, .int (x 31 0), .int (128 + (x 31 0)), .int a1, .int 0, .int 0] (fn_w x 35 1 ((x 35 1) ||| 2))) (fun y1 =>
      some (y1, none)))) :=
  fn_ev_t (dd := fn_d35) (lo := [(0, .ref 31), (1, .int a1), (2, .ref 1)]) (sp := []) rfl rfl rfl (fc_Node_takeFailure_3 (fn_ev 0 (n + 2000) d) (fn_run 0 (fn_ev 0 (n + 2000) d) (fn_lk fn_d35)) (n + 1976) a1 x)
set_option maxRecDepth 20000 in
theorem fc_Node_takeFailure_4 (cf : Nat → List Value → fn_M → Option fn_R) (K : Nat → fn_K) (m : Nat) (a1 : Int32) (x : fn_M) : fn_runc 0 cf (fn_lk fn_d35) [] K (m + 24) 0 [(0, .ref 32), (1, .int a1), (2, .ref 1)] [] x =
  (if a1 = 0 then
    (fn_bv (cf 55 [.ref 1, .int (x 32 0), .int (128 + (x 32 0)), .int a1, .int 0, .int 0] (fn_w x 36 1 0)) (fun y2 =>
      some (y2, none)))
    else
    (fn_bv (cf 55 [.ref 1, .int (x 32 0), .int (128 + (x 32 0)), .int a1, .int 0, .int 0] (fn_w x 36 1 ((x 36 1) ||| 2))) (fun y1 =>
      some (y1, none)))) := rfl
theorem ft_Node_takeFailure_4 (n d : Nat) (a1 : Int32) (x : fn_M) : fn_ev 0 (n + 2000) (d + 1) 35 [.ref 32, .int a1, .ref 1] x =
  (if a1 = 0 then
    (fn_bv (fn_ev 0 (n + 2000) d 55 [.ref 1, .int (x 32 0), .int (128 + (x 32 0)), .int a1, .int 0, .int 0] (fn_w x 36 1 0)) (fun y2 =>
      some (y2, none)))
    else
    (fn_bv (fn_ev 0 (n + 2000) d 55 [.ref 1, .int (x 32 0), .int (128 + (x 32 0)), .int a1, .int 0, .int 0] (fn_w x 36 1 ((x 36 1) ||| 2))) (fun y1 =>
      some (y1, none)))) :=
  fn_ev_t (dd := fn_d35) (lo := [(0, .ref 32), (1, .int a1), (2, .ref 1)]) (sp := []) rfl rfl rfl (fc_Node_takeFailure_4 (fn_ev 0 (n + 2000) d) (fn_run 0 (fn_ev 0 (n + 2000) d) (fn_lk fn_d35)) (n + 1976) a1 x)
set_option maxRecDepth 20000 in
theorem fc_Node_valueOf_1 (cf : Nat → List Value → fn_M → Option fn_R) (K : Nat → fn_K) (m : Nat) (a1 : Int32) (x : fn_M) : fn_runc 0 cf (fn_lk fn_d36) [] K (m + 14) 0 [(0, .ref 29), (1, .int a1)] [] x =
  (if a1 = 16 then
    (fn_bi (cf 138 [.ref 37] x) (fun y3 v4 =>
      some (y3, some (.int v4))))
    else
    (fn_bi (cf 80 [.int a1, .int 0, .int 15] x) (fun y1 v2 =>
      (if v2 = 0 then
      some (y1, some (.int (-1)))
      else
      (if a1 < 0 ∨ 16 ≤ a1.toNatClampNeg then
        none
        else
        some (y1, some (.int (y1 33 a1.toNatClampNeg)))))))) := rfl
theorem ft_Node_valueOf_1 (n d : Nat) (a1 : Int32) (x : fn_M) : fn_ev 0 (n + 2000) (d + 1) 36 [.ref 29, .int a1] x =
  (if a1 = 16 then
    (fn_bi (fn_ev 0 (n + 2000) d 138 [.ref 37] x) (fun y3 v4 =>
      some (y3, some (.int v4))))
    else
    (fn_bi (fn_ev 0 (n + 2000) d 80 [.int a1, .int 0, .int 15] x) (fun y1 v2 =>
      (if v2 = 0 then
      some (y1, some (.int (-1)))
      else
      (if a1 < 0 ∨ 16 ≤ a1.toNatClampNeg then
        none
        else
        some (y1, some (.int (y1 33 a1.toNatClampNeg)))))))) :=
  fn_ev_t (dd := fn_d36) (lo := [(0, .ref 29), (1, .int a1)]) (sp := []) rfl rfl rfl (fc_Node_valueOf_1 (fn_ev 0 (n + 2000) d) (fn_run 0 (fn_ev 0 (n + 2000) d) (fn_lk fn_d36)) (n + 1986) a1 x)
set_option maxRecDepth 20000 in
theorem fc_Node_valueOf_2 (cf : Nat → List Value → fn_M → Option fn_R) (K : Nat → fn_K) (m : Nat) (a1 : Int32) (x : fn_M) : fn_runc 0 cf (fn_lk fn_d36) [] K (m + 14) 0 [(0, .ref 30), (1, .int a1)] [] x =
  (if a1 = 16 then
    (fn_bi (cf 138 [.ref 38] x) (fun y3 v4 =>
      some (y3, some (.int v4))))
    else
    (fn_bi (cf 80 [.int a1, .int 0, .int 15] x) (fun y1 v2 =>
      (if v2 = 0 then
      some (y1, some (.int (-1)))
      else
      (if a1 < 0 ∨ 16 ≤ a1.toNatClampNeg then
        none
        else
        some (y1, some (.int (y1 34 a1.toNatClampNeg)))))))) := rfl
theorem ft_Node_valueOf_2 (n d : Nat) (a1 : Int32) (x : fn_M) : fn_ev 0 (n + 2000) (d + 1) 36 [.ref 30, .int a1] x =
  (if a1 = 16 then
    (fn_bi (fn_ev 0 (n + 2000) d 138 [.ref 38] x) (fun y3 v4 =>
      some (y3, some (.int v4))))
    else
    (fn_bi (fn_ev 0 (n + 2000) d 80 [.int a1, .int 0, .int 15] x) (fun y1 v2 =>
      (if v2 = 0 then
      some (y1, some (.int (-1)))
      else
      (if a1 < 0 ∨ 16 ≤ a1.toNatClampNeg then
        none
        else
        some (y1, some (.int (y1 34 a1.toNatClampNeg)))))))) :=
  fn_ev_t (dd := fn_d36) (lo := [(0, .ref 30), (1, .int a1)]) (sp := []) rfl rfl rfl (fc_Node_valueOf_2 (fn_ev 0 (n + 2000) d) (fn_run 0 (fn_ev 0 (n + 2000) d) (fn_lk fn_d36)) (n + 1986) a1 x)
set_option maxRecDepth 20000 in
theorem fc_Node_valueOf_3 (cf : Nat → List Value → fn_M → Option fn_R) (K : Nat → fn_K) (m : Nat) (a1 : Int32) (x : fn_M) : fn_runc 0 cf (fn_lk fn_d36) [] K (m + 14) 0 [(0, .ref 31), (1, .int a1)] [] x =
  (if a1 = 16 then
    (fn_bi (cf 138 [.ref 39] x) (fun y3 v4 =>
      some (y3, some (.int v4))))
    else
    (fn_bi (cf 80 [.int a1, .int 0, .int 15] x) (fun y1 v2 =>
      (if v2 = 0 then
      some (y1, some (.int (-1)))
      else
      (if a1 < 0 ∨ 16 ≤ a1.toNatClampNeg then
        none
        else
        some (y1, some (.int (y1 35 a1.toNatClampNeg)))))))) := rfl
theorem ft_Node_valueOf_3 (n d : Nat) (a1 : Int32) (x : fn_M) : fn_ev 0 (n + 2000) (d + 1) 36 [.ref 31, .int a1] x =
  (if a1 = 16 then
    (fn_bi (fn_ev 0 (n + 2000) d 138 [.ref 39] x) (fun y3 v4 =>
      some (y3, some (.int v4))))
    else
    (fn_bi (fn_ev 0 (n + 2000) d 80 [.int a1, .int 0, .int 15] x) (fun y1 v2 =>
      (if v2 = 0 then
      some (y1, some (.int (-1)))
      else
      (if a1 < 0 ∨ 16 ≤ a1.toNatClampNeg then
        none
        else
        some (y1, some (.int (y1 35 a1.toNatClampNeg)))))))) :=
  fn_ev_t (dd := fn_d36) (lo := [(0, .ref 31), (1, .int a1)]) (sp := []) rfl rfl rfl (fc_Node_valueOf_3 (fn_ev 0 (n + 2000) d) (fn_run 0 (fn_ev 0 (n + 2000) d) (fn_lk fn_d36)) (n + 1986) a1 x)
set_option maxRecDepth 20000 in
theorem fc_Node_valueOf_4 (cf : Nat → List Value → fn_M → Option fn_R) (K : Nat → fn_K) (m : Nat) (a1 : Int32) (x : fn_M) : fn_runc 0 cf (fn_lk fn_d36) [] K (m + 14) 0 [(0, .ref 32), (1, .int a1)] [] x =
  (if a1 = 16 then
    (fn_bi (cf 138 [.ref 40] x) (fun y3 v4 =>
      some (y3, some (.int v4))))
    else
    (fn_bi (cf 80 [.int a1, .int 0, .int 15] x) (fun y1 v2 =>
      (if v2 = 0 then
      some (y1, some (.int (-1)))
      else
      (if a1 < 0 ∨ 16 ≤ a1.toNatClampNeg then
        none
        else
        some (y1, some (.int (y1 36 a1.toNatClampNeg)))))))) := rfl
theorem ft_Node_valueOf_4 (n d : Nat) (a1 : Int32) (x : fn_M) : fn_ev 0 (n + 2000) (d + 1) 36 [.ref 32, .int a1] x =
  (if a1 = 16 then
    (fn_bi (fn_ev 0 (n + 2000) d 138 [.ref 40] x) (fun y3 v4 =>
      some (y3, some (.int v4))))
    else
    (fn_bi (fn_ev 0 (n + 2000) d 80 [.int a1, .int 0, .int 15] x) (fun y1 v2 =>
      (if v2 = 0 then
      some (y1, some (.int (-1)))
      else
      (if a1 < 0 ∨ 16 ≤ a1.toNatClampNeg then
        none
        else
        some (y1, some (.int (y1 36 a1.toNatClampNeg)))))))) :=
  fn_ev_t (dd := fn_d36) (lo := [(0, .ref 32), (1, .int a1)]) (sp := []) rfl rfl rfl (fc_Node_valueOf_4 (fn_ev 0 (n + 2000) d) (fn_run 0 (fn_ev 0 (n + 2000) d) (fn_lk fn_d36)) (n + 1986) a1 x)
set_option maxRecDepth 20000 in
theorem fc_Node_live_1 (cf : Nat → List Value → fn_M → Option fn_R) (K : Nat → fn_K) (m : Nat) (x : fn_M) : fn_runc 0 cf (fn_lk fn_d37) [] K (m + 24) 0 [(0, .ref 29), (1, .ref 1)] [] x =
  (fn_bi (cf 26 [.ref 29] x) (fun y1 v2 =>
    (if v2 = 0 then
    some (y1, none)
    else
    (fn_bv (cf 38 [.ref 29, .ref 1] y1) (fun y3 =>
      (fn_bv (cf 39 [.ref 29, .ref 1] y3) (fun y4 =>
      (fn_bi (cf 31 [.ref 29] y4) (fun y5 v6 =>
      (if v6 = 0 then
      some (y5, none)
      else
      (if (y5 29 6) = 0 then
        some (y5, none)
        else
        (fn_bi (cf 33 [.ref 29, .int (y5 1 6)] y5) (fun y7 v8 =>
          (if v8 = 0 then
          some (y7, none)
          else
          (fn_bv (cf 34 [.ref 29, .ref 1] y7) (fun y9 =>
            some (y9, none))))))))))))))))) := rfl
theorem ft_Node_live_1 (n d : Nat) (x : fn_M) : fn_ev 0 (n + 2000) (d + 1) 37 [.ref 29, .ref 1] x =
  (fn_bi (fn_ev 0 (n + 2000) d 26 [.ref 29] x) (fun y1 v2 =>
    (if v2 = 0 then
    some (y1, none)
    else
    (fn_bv (fn_ev 0 (n + 2000) d 38 [.ref 29, .ref 1] y1) (fun y3 =>
      (fn_bv (fn_ev 0 (n + 2000) d 39 [.ref 29, .ref 1] y3) (fun y4 =>
      (fn_bi (fn_ev 0 (n + 2000) d 31 [.ref 29] y4) (fun y5 v6 =>
      (if v6 = 0 then
      some (y5, none)
      else
      (if (y5 29 6) = 0 then
        some (y5, none)
        else
        (fn_bi (fn_ev 0 (n + 2000) d 33 [.ref 29, .int (y5 1 6)] y5) (fun y7 v8 =>
          (if v8 = 0 then
          some (y7, none)
          else
          (fn_bv (fn_ev 0 (n + 2000) d 34 [.ref 29, .ref 1] y7) (fun y9 =>
            some (y9, none))))))))))))))))) :=
  fn_ev_t (dd := fn_d37) (lo := [(0, .ref 29), (1, .ref 1)]) (sp := []) rfl rfl rfl (fc_Node_live_1 (fn_ev 0 (n + 2000) d) (fn_run 0 (fn_ev 0 (n + 2000) d) (fn_lk fn_d37)) (n + 1976) x)
set_option maxRecDepth 20000 in
theorem fc_Node_live_2 (cf : Nat → List Value → fn_M → Option fn_R) (K : Nat → fn_K) (m : Nat) (x : fn_M) : fn_runc 0 cf (fn_lk fn_d37) [] K (m + 24) 0 [(0, .ref 30), (1, .ref 1)] [] x =
  (fn_bi (cf 26 [.ref 30] x) (fun y1 v2 =>
    (if v2 = 0 then
    some (y1, none)
    else
    (fn_bv (cf 38 [.ref 30, .ref 1] y1) (fun y3 =>
      (fn_bv (cf 39 [.ref 30, .ref 1] y3) (fun y4 =>
      (fn_bi (cf 31 [.ref 30] y4) (fun y5 v6 =>
      (if v6 = 0 then
      some (y5, none)
      else
      (if (y5 30 6) = 0 then
        some (y5, none)
        else
        (fn_bi (cf 33 [.ref 30, .int (y5 1 6)] y5) (fun y7 v8 =>
          (if v8 = 0 then
          some (y7, none)
          else
          (fn_bv (cf 34 [.ref 30, .ref 1] y7) (fun y9 =>
            some (y9, none))))))))))))))))) := rfl
theorem ft_Node_live_2 (n d : Nat) (x : fn_M) : fn_ev 0 (n + 2000) (d + 1) 37 [.ref 30, .ref 1] x =
  (fn_bi (fn_ev 0 (n + 2000) d 26 [.ref 30] x) (fun y1 v2 =>
    (if v2 = 0 then
    some (y1, none)
    else
    (fn_bv (fn_ev 0 (n + 2000) d 38 [.ref 30, .ref 1] y1) (fun y3 =>
      (fn_bv (fn_ev 0 (n + 2000) d 39 [.ref 30, .ref 1] y3) (fun y4 =>
      (fn_bi (fn_ev 0 (n + 2000) d 31 [.ref 30] y4) (fun y5 v6 =>
      (if v6 = 0 then
      some (y5, none)
      else
      (if (y5 30 6) = 0 then
        some (y5, none)
        else
        (fn_bi (fn_ev 0 (n + 2000) d 33 [.ref 30, .int (y5 1 6)] y5) (fun y7 v8 =>
          (if v8 = 0 then
          some (y7, none)
          else
          (fn_bv (fn_ev 0 (n + 2000) d 34 [.ref 30, .ref 1] y7) (fun y9 =>
            some (y9, none))))))))))))))))) :=
  fn_ev_t (dd := fn_d37) (lo := [(0, .ref 30), (1, .ref 1)]) (sp := []) rfl rfl rfl (fc_Node_live_2 (fn_ev 0 (n + 2000) d) (fn_run 0 (fn_ev 0 (n + 2000) d) (fn_lk fn_d37)) (n + 1976) x)
set_option maxRecDepth 20000 in
theorem fc_Node_live_3 (cf : Nat → List Value → fn_M → Option fn_R) (K : Nat → fn_K) (m : Nat) (x : fn_M) : fn_runc 0 cf (fn_lk fn_d37) [] K (m + 24) 0 [(0, .ref 31), (1, .ref 1)] [] x =
  (fn_bi (cf 26 [.ref 31] x) (fun y1 v2 =>
    (if v2 = 0 then
    some (y1, none)
    else
    (fn_bv (cf 38 [.ref 31, .ref 1] y1) (fun y3 =>
      (fn_bv (cf 39 [.ref 31, .ref 1] y3) (fun y4 =>
      (fn_bi (cf 31 [.ref 31] y4) (fun y5 v6 =>
      (if v6 = 0 then
      some (y5, none)
      else
      (if (y5 31 6) = 0 then
        some (y5, none)
        else
        (fn_bi (cf 33 [.ref 31, .int (y5 1 6)] y5) (fun y7 v8 =>
          (if v8 = 0 then
          some (y7, none)
          else
          (fn_bv (cf 34 [.ref 31, .ref 1] y7) (fun y9 =>
            some (y9, none))))))))))))))))) := rfl
theorem ft_Node_live_3 (n d : Nat) (x : fn_M) : fn_ev 0 (n + 2000) (d + 1) 37 [.ref 31, .ref 1] x =
  (fn_bi (fn_ev 0 (n + 2000) d 26 [.ref 31] x) (fun y1 v2 =>
    (if v2 = 0 then
    some (y1, none)
    else
    (fn_bv (fn_ev 0 (n + 2000) d 38 [.ref 31, .ref 1] y1) (fun y3 =>
      (fn_bv (fn_ev 0 (n + 2000) d 39 [.ref 31, .ref 1] y3) (fun y4 =>
      (fn_bi (fn_ev 0 (n + 2000) d 31 [.ref 31] y4) (fun y5 v6 =>
      (if v6 = 0 then
      some (y5, none)
      else
      (if (y5 31 6) = 0 then
        some (y5, none)
        else
        (fn_bi (fn_ev 0 (n + 2000) d 33 [.ref 31, .int (y5 1 6)] y5) (fun y7 v8 =>
          (if v8 = 0 then
          some (y7, none)
          else
          (fn_bv (fn_ev 0 (n + 2000) d 34 [.ref 31, .ref 1] y7) (fun y9 =>
            some (y9, none))))))))))))))))) :=
  fn_ev_t (dd := fn_d37) (lo := [(0, .ref 31), (1, .ref 1)]) (sp := []) rfl rfl rfl (fc_Node_live_3 (fn_ev 0 (n + 2000) d) (fn_run 0 (fn_ev 0 (n + 2000) d) (fn_lk fn_d37)) (n + 1976) x)
set_option maxRecDepth 20000 in
theorem fc_Node_live_4 (cf : Nat → List Value → fn_M → Option fn_R) (K : Nat → fn_K) (m : Nat) (x : fn_M) : fn_runc 0 cf (fn_lk fn_d37) [] K (m + 24) 0 [(0, .ref 32), (1, .ref 1)] [] x =
  (fn_bi (cf 26 [.ref 32] x) (fun y1 v2 =>
    (if v2 = 0 then
    some (y1, none)
    else
    (fn_bv (cf 38 [.ref 32, .ref 1] y1) (fun y3 =>
      (fn_bv (cf 39 [.ref 32, .ref 1] y3) (fun y4 =>
      (fn_bi (cf 31 [.ref 32] y4) (fun y5 v6 =>
      (if v6 = 0 then
      some (y5, none)
      else
      (if (y5 32 6) = 0 then
        some (y5, none)
        else
        (fn_bi (cf 33 [.ref 32, .int (y5 1 6)] y5) (fun y7 v8 =>
          (if v8 = 0 then
          some (y7, none)
          else
          (fn_bv (cf 34 [.ref 32, .ref 1] y7) (fun y9 =>
            some (y9, none))))))))))))))))) := rfl
theorem ft_Node_live_4 (n d : Nat) (x : fn_M) : fn_ev 0 (n + 2000) (d + 1) 37 [.ref 32, .ref 1] x =
  (fn_bi (fn_ev 0 (n + 2000) d 26 [.ref 32] x) (fun y1 v2 =>
    (if v2 = 0 then
    some (y1, none)
    else
    (fn_bv (fn_ev 0 (n + 2000) d 38 [.ref 32, .ref 1] y1) (fun y3 =>
      (fn_bv (fn_ev 0 (n + 2000) d 39 [.ref 32, .ref 1] y3) (fun y4 =>
      (fn_bi (fn_ev 0 (n + 2000) d 31 [.ref 32] y4) (fun y5 v6 =>
      (if v6 = 0 then
      some (y5, none)
      else
      (if (y5 32 6) = 0 then
        some (y5, none)
        else
        (fn_bi (fn_ev 0 (n + 2000) d 33 [.ref 32, .int (y5 1 6)] y5) (fun y7 v8 =>
          (if v8 = 0 then
          some (y7, none)
          else
          (fn_bv (fn_ev 0 (n + 2000) d 34 [.ref 32, .ref 1] y7) (fun y9 =>
            some (y9, none))))))))))))))))) :=
  fn_ev_t (dd := fn_d37) (lo := [(0, .ref 32), (1, .ref 1)]) (sp := []) rfl rfl rfl (fc_Node_live_4 (fn_ev 0 (n + 2000) d) (fn_run 0 (fn_ev 0 (n + 2000) d) (fn_lk fn_d37)) (n + 1976) x)
set_option maxRecDepth 20000 in
theorem fc_Node_beatIfDue_1 (cf : Nat → List Value → fn_M → Option fn_R) (K : Nat → fn_K) (m : Nat) (x : fn_M) : fn_runc 0 cf (fn_lk fn_d38) [] K (m + 32) 0 [(0, .ref 29), (1, .ref 1)] [] x =
  (if (x 33 2) ≤ 0 then
    some (x, none)
    else
    (if ((x 1 6) - (x 29 4)) < (x 33 2) then
      some (x, none)
      else
      (fn_bv (cf 55 [.ref 1, .int (x 29 0), .int (1792 + (x 29 0)), .int (x 29 3), .int 0, .int 0] x) (fun y1 =>
        some ((fn_w y1 29 4 (y1 1 6)), none))))) := rfl
theorem ft_Node_beatIfDue_1 (n d : Nat) (x : fn_M) : fn_ev 0 (n + 2000) (d + 1) 38 [.ref 29, .ref 1] x =
  (if (x 33 2) ≤ 0 then
    some (x, none)
    else
    (if ((x 1 6) - (x 29 4)) < (x 33 2) then
      some (x, none)
      else
      (fn_bv (fn_ev 0 (n + 2000) d 55 [.ref 1, .int (x 29 0), .int (1792 + (x 29 0)), .int (x 29 3), .int 0, .int 0] x) (fun y1 =>
        some ((fn_w y1 29 4 (y1 1 6)), none))))) :=
  fn_ev_t (dd := fn_d38) (lo := [(0, .ref 29), (1, .ref 1)]) (sp := []) rfl rfl rfl (fc_Node_beatIfDue_1 (fn_ev 0 (n + 2000) d) (fn_run 0 (fn_ev 0 (n + 2000) d) (fn_lk fn_d38)) (n + 1968) x)
set_option maxRecDepth 20000 in
theorem fc_Node_beatIfDue_2 (cf : Nat → List Value → fn_M → Option fn_R) (K : Nat → fn_K) (m : Nat) (x : fn_M) : fn_runc 0 cf (fn_lk fn_d38) [] K (m + 32) 0 [(0, .ref 30), (1, .ref 1)] [] x =
  (if (x 34 2) ≤ 0 then
    some (x, none)
    else
    (if ((x 1 6) - (x 30 4)) < (x 34 2) then
      some (x, none)
      else
      (fn_bv (cf 55 [.ref 1, .int (x 30 0), .int (1792 + (x 30 0)), .int (x 30 3), .int 0, .int 0] x) (fun y1 =>
        some ((fn_w y1 30 4 (y1 1 6)), none))))) := rfl
theorem ft_Node_beatIfDue_2 (n d : Nat) (x : fn_M) : fn_ev 0 (n + 2000) (d + 1) 38 [.ref 30, .ref 1] x =
  (if (x 34 2) ≤ 0 then
    some (x, none)
    else
    (if ((x 1 6) - (x 30 4)) < (x 34 2) then
      some (x, none)
      else
      (fn_bv (fn_ev 0 (n + 2000) d 55 [.ref 1, .int (x 30 0), .int (1792 + (x 30 0)), .int (x 30 3), .int 0, .int 0] x) (fun y1 =>
        some ((fn_w y1 30 4 (y1 1 6)), none))))) :=
  fn_ev_t (dd := fn_d38) (lo := [(0, .ref 30), (1, .ref 1)]) (sp := []) rfl rfl rfl (fc_Node_beatIfDue_2 (fn_ev 0 (n + 2000) d) (fn_run 0 (fn_ev 0 (n + 2000) d) (fn_lk fn_d38)) (n + 1968) x)
set_option maxRecDepth 20000 in
theorem fc_Node_beatIfDue_3 (cf : Nat → List Value → fn_M → Option fn_R) (K : Nat → fn_K) (m : Nat) (x : fn_M) : fn_runc 0 cf (fn_lk fn_d38) [] K (m + 32) 0 [(0, .ref 31), (1, .ref 1)] [] x =
  (if (x 35 2) ≤ 0 then
    some (x, none)
    else
    (if ((x 1 6) - (x 31 4)) < (x 35 2) then
      some (x, none)
      else
      (fn_bv (cf 55 [.ref 1, .int (x 31 0), .int (1792 + (x 31 0)), .int (x 31 3), .int 0, .int 0] x) (fun y1 =>
        some ((fn_w y1 31 4 (y1 1 6)), none))))) := rfl
theorem ft_Node_beatIfDue_3 (n d : Nat) (x : fn_M) : fn_ev 0 (n + 2000) (d + 1) 38 [.ref 31, .ref 1] x =
  (if (x 35 2) ≤ 0 then
    some (x, none)
    else
    (if ((x 1 6) - (x 31 4)) < (x 35 2) then
      some (x, none)
      else
      (fn_bv (fn_ev 0 (n + 2000) d 55 [.ref 1, .int (x 31 0), .int (1792 + (x 31 0)), .int (x 31 3), .int 0, .int 0] x) (fun y1 =>
        some ((fn_w y1 31 4 (y1 1 6)), none))))) :=
  fn_ev_t (dd := fn_d38) (lo := [(0, .ref 31), (1, .ref 1)]) (sp := []) rfl rfl rfl (fc_Node_beatIfDue_3 (fn_ev 0 (n + 2000) d) (fn_run 0 (fn_ev 0 (n + 2000) d) (fn_lk fn_d38)) (n + 1968) x)
set_option maxRecDepth 20000 in
theorem fc_Node_beatIfDue_4 (cf : Nat → List Value → fn_M → Option fn_R) (K : Nat → fn_K) (m : Nat) (x : fn_M) : fn_runc 0 cf (fn_lk fn_d38) [] K (m + 32) 0 [(0, .ref 32), (1, .ref 1)] [] x =
  (if (x 36 2) ≤ 0 then
    some (x, none)
    else
    (if ((x 1 6) - (x 32 4)) < (x 36 2) then
      some (x, none)
      else
      (fn_bv (cf 55 [.ref 1, .int (x 32 0), .int (1792 + (x 32 0)), .int (x 32 3), .int 0, .int 0] x) (fun y1 =>
        some ((fn_w y1 32 4 (y1 1 6)), none))))) := rfl
theorem ft_Node_beatIfDue_4 (n d : Nat) (x : fn_M) : fn_ev 0 (n + 2000) (d + 1) 38 [.ref 32, .ref 1] x =
  (if (x 36 2) ≤ 0 then
    some (x, none)
    else
    (if ((x 1 6) - (x 32 4)) < (x 36 2) then
      some (x, none)
      else
      (fn_bv (fn_ev 0 (n + 2000) d 55 [.ref 1, .int (x 32 0), .int (1792 + (x 32 0)), .int (x 32 3), .int 0, .int 0] x) (fun y1 =>
        some ((fn_w y1 32 4 (y1 1 6)), none))))) :=
  fn_ev_t (dd := fn_d38) (lo := [(0, .ref 32), (1, .ref 1)]) (sp := []) rfl rfl rfl (fc_Node_beatIfDue_4 (fn_ev 0 (n + 2000) d) (fn_run 0 (fn_ev 0 (n + 2000) d) (fn_lk fn_d38)) (n + 1968) x)
set_option maxRecDepth 20000 in
theorem fc_Node_missWatched_1 (cf : Nat → List Value → fn_M → Option fn_R) (K : Nat → fn_K) (m : Nat) (x : fn_M) : fn_runc 0 cf (fn_lk fn_d39) [] K (m + 51) 0 [(0, .ref 29), (1, .ref 1)] [] x =
  (if (x 33 3) = 0 then
    some (x, none)
    else
    (if (x 29 8) = (-1) then
      some (x, none)
      else
      (if ((x 33 3) - (x 33 3) / 100 * 100) ≤ ((x 1 6) - (x 29 8)) then
        (fn_bv (cf 55 [.ref 1, .int (x 29 0), .int (128 + (x 29 0)), .int 1, .int 0, .int 0] (fn_w (fn_w x 29 8 (-1)) 33 1 ((x 33 1) ||| 1))) (fun y1 =>
          (if (y1 29 3) = 5 then
          some ((fn_w y1 29 3 127), none)
          else
          some (y1, none))))
        else
        some (x, none)))) := rfl
theorem ft_Node_missWatched_1 (n d : Nat) (x : fn_M) : fn_ev 0 (n + 2000) (d + 1) 39 [.ref 29, .ref 1] x =
  (if (x 33 3) = 0 then
    some (x, none)
    else
    (if (x 29 8) = (-1) then
      some (x, none)
      else
      (if ((x 33 3) - (x 33 3) / 100 * 100) ≤ ((x 1 6) - (x 29 8)) then
        (fn_bv (fn_ev 0 (n + 2000) d 55 [.ref 1, .int (x 29 0), .int (128 + (x 29 0)), .int 1, .int 0, .int 0] (fn_w (fn_w x 29 8 (-1)) 33 1 ((x 33 1) ||| 1))) (fun y1 =>
          (if (y1 29 3) = 5 then
          some ((fn_w y1 29 3 127), none)
          else
          some (y1, none))))
        else
        some (x, none)))) :=
  fn_ev_t (dd := fn_d39) (lo := [(0, .ref 29), (1, .ref 1)]) (sp := []) rfl rfl rfl (fc_Node_missWatched_1 (fn_ev 0 (n + 2000) d) (fn_run 0 (fn_ev 0 (n + 2000) d) (fn_lk fn_d39)) (n + 1949) x)
set_option maxRecDepth 20000 in
theorem fc_Node_missWatched_2 (cf : Nat → List Value → fn_M → Option fn_R) (K : Nat → fn_K) (m : Nat) (x : fn_M) : fn_runc 0 cf (fn_lk fn_d39) [] K (m + 51) 0 [(0, .ref 30), (1, .ref 1)] [] x =
  (if (x 34 3) = 0 then
    some (x, none)
    else
    (if (x 30 8) = (-1) then
      some (x, none)
      else
      (if ((x 34 3) - (x 34 3) / 100 * 100) ≤ ((x 1 6) - (x 30 8)) then
        (fn_bv (cf 55 [.ref 1, .int (x 30 0), .int (128 + (x 30 0)), .int 1, .int 0, .int 0] (fn_w (fn_w x 30 8 (-1)) 34 1 ((x 34 1) ||| 1))) (fun y1 =>
          (if (y1 30 3) = 5 then
          some ((fn_w y1 30 3 127), none)
          else
          some (y1, none))))
        else
        some (x, none)))) := rfl
theorem ft_Node_missWatched_2 (n d : Nat) (x : fn_M) : fn_ev 0 (n + 2000) (d + 1) 39 [.ref 30, .ref 1] x =
  (if (x 34 3) = 0 then
    some (x, none)
    else
    (if (x 30 8) = (-1) then
      some (x, none)
      else
      (if ((x 34 3) - (x 34 3) / 100 * 100) ≤ ((x 1 6) - (x 30 8)) then
        (fn_bv (fn_ev 0 (n + 2000) d 55 [.ref 1, .int (x 30 0), .int (128 + (x 30 0)), .int 1, .int 0, .int 0] (fn_w (fn_w x 30 8 (-1)) 34 1 ((x 34 1) ||| 1))) (fun y1 =>
          (if (y1 30 3) = 5 then
          some ((fn_w y1 30 3 127), none)
          else
          some (y1, none))))
        else
        some (x, none)))) :=
  fn_ev_t (dd := fn_d39) (lo := [(0, .ref 30), (1, .ref 1)]) (sp := []) rfl rfl rfl (fc_Node_missWatched_2 (fn_ev 0 (n + 2000) d) (fn_run 0 (fn_ev 0 (n + 2000) d) (fn_lk fn_d39)) (n + 1949) x)
set_option maxRecDepth 20000 in
theorem fc_Node_missWatched_3 (cf : Nat → List Value → fn_M → Option fn_R) (K : Nat → fn_K) (m : Nat) (x : fn_M) : fn_runc 0 cf (fn_lk fn_d39) [] K (m + 51) 0 [(0, .ref 31), (1, .ref 1)] [] x =
  (if (x 35 3) = 0 then
    some (x, none)
    else
    (if (x 31 8) = (-1) then
      some (x, none)
      else
      (if ((x 35 3) - (x 35 3) / 100 * 100) ≤ ((x 1 6) - (x 31 8)) then
        (fn_bv (cf 55 [.ref 1, .int (x 31 0), .int (128 + (x 31 0)), .int 1, .int 0, .int 0] (fn_w (fn_w x 31 8 (-1)) 35 1 ((x 35 1) ||| 1))) (fun y1 =>
          (if (y1 31 3) = 5 then
          some ((fn_w y1 31 3 127), none)
          else
          some (y1, none))))
        else
        some (x, none)))) := rfl
theorem ft_Node_missWatched_3 (n d : Nat) (x : fn_M) : fn_ev 0 (n + 2000) (d + 1) 39 [.ref 31, .ref 1] x =
  (if (x 35 3) = 0 then
    some (x, none)
    else
    (if (x 31 8) = (-1) then
      some (x, none)
      else
      (if ((x 35 3) - (x 35 3) / 100 * 100) ≤ ((x 1 6) - (x 31 8)) then
        (fn_bv (fn_ev 0 (n + 2000) d 55 [.ref 1, .int (x 31 0), .int (128 + (x 31 0)), .int 1, .int 0, .int 0] (fn_w (fn_w x 31 8 (-1)) 35 1 ((x 35 1) ||| 1))) (fun y1 =>
          (if (y1 31 3) = 5 then
          some ((fn_w y1 31 3 127), none)
          else
          some (y1, none))))
        else
        some (x, none)))) :=
  fn_ev_t (dd := fn_d39) (lo := [(0, .ref 31), (1, .ref 1)]) (sp := []) rfl rfl rfl (fc_Node_missWatched_3 (fn_ev 0 (n + 2000) d) (fn_run 0 (fn_ev 0 (n + 2000) d) (fn_lk fn_d39)) (n + 1949) x)
set_option maxRecDepth 20000 in
theorem fc_Node_missWatched_4 (cf : Nat → List Value → fn_M → Option fn_R) (K : Nat → fn_K) (m : Nat) (x : fn_M) : fn_runc 0 cf (fn_lk fn_d39) [] K (m + 51) 0 [(0, .ref 32), (1, .ref 1)] [] x =
  (if (x 36 3) = 0 then
    some (x, none)
    else
    (if (x 32 8) = (-1) then
      some (x, none)
      else
      (if ((x 36 3) - (x 36 3) / 100 * 100) ≤ ((x 1 6) - (x 32 8)) then
        (fn_bv (cf 55 [.ref 1, .int (x 32 0), .int (128 + (x 32 0)), .int 1, .int 0, .int 0] (fn_w (fn_w x 32 8 (-1)) 36 1 ((x 36 1) ||| 1))) (fun y1 =>
          (if (y1 32 3) = 5 then
          some ((fn_w y1 32 3 127), none)
          else
          some (y1, none))))
        else
        some (x, none)))) := rfl
theorem ft_Node_missWatched_4 (n d : Nat) (x : fn_M) : fn_ev 0 (n + 2000) (d + 1) 39 [.ref 32, .ref 1] x =
  (if (x 36 3) = 0 then
    some (x, none)
    else
    (if (x 32 8) = (-1) then
      some (x, none)
      else
      (if ((x 36 3) - (x 36 3) / 100 * 100) ≤ ((x 1 6) - (x 32 8)) then
        (fn_bv (fn_ev 0 (n + 2000) d 55 [.ref 1, .int (x 32 0), .int (128 + (x 32 0)), .int 1, .int 0, .int 0] (fn_w (fn_w x 32 8 (-1)) 36 1 ((x 36 1) ||| 1))) (fun y1 =>
          (if (y1 32 3) = 5 then
          some ((fn_w y1 32 3 127), none)
          else
          some (y1, none))))
        else
        some (x, none)))) :=
  fn_ev_t (dd := fn_d39) (lo := [(0, .ref 32), (1, .ref 1)]) (sp := []) rfl rfl rfl (fc_Node_missWatched_4 (fn_ev 0 (n + 2000) d) (fn_run 0 (fn_ev 0 (n + 2000) d) (fn_lk fn_d39)) (n + 1949) x)
set_option maxRecDepth 20000 in
theorem fc_Node_hear_1 (cf : Nat → List Value → fn_M → Option fn_R) (K : Nat → fn_K) (m : Nat) (p : Nat) (x : fn_M) : fn_runc 0 cf (fn_lk fn_d40) [] K (m + 40) 0 [(0, .ref 29), (1, .ref p), (2, .ref 1)] [] x =
  (fn_bi (cf 26 [.ref 29] x) (fun y1 v2 =>
    (if v2 = 0 then
    some (y1, none)
    else
    (if fn_lc 0 p = 2 then
      (if (y1 p 1) = 0 then
        (fn_bv (cf 41 [.ref 29, .ref p, .ref 1] y1) (fun y11 =>
          some (y11, none)))
        else
        (if fn_lc 0 p = 2 then
          (if (y1 p 1) = 128 then
            (fn_bv (cf 42 [.ref 29, .ref 1] y1) (fun y10 =>
              some (y10, none)))
            else
            (if fn_lc 0 p = 2 then
              (if (y1 p 1) = (1536 + (y1 29 0)) then
                (fn_bv (cf 46 [.ref 29, .ref p, .ref 1] y1) (fun y9 =>
                  some (y9, none)))
                else
                (if fn_lc 0 p = 2 then
                  (fn_bi (cf 81 [.int ((y1 p 1) - 384)] y1) (fun y3 v4 =>
                    (if v4 = 0 then
                    (if fn_lc 0 p = 2 then
                      (fn_bi (cf 81 [.int ((y3 p 1) - 1792)] y3) (fun y5 v6 =>
                        (if v6 = 0 then
                        some (y5, none)
                        else
                        (if fn_lc 0 p = 2 then
                          (if fn_lc 0 p = 2 then
                            (fn_bv (cf 45 [.ref 29, .int ((y5 p 1) - 1792), .int (y5 p 2), .int (y5 1 6)] y5) (fun y7 =>
                              some (y7, none)))
                            else
                            none)
                          else
                          none))))
                      else
                      none)
                    else
                    (if fn_lc 0 p = 2 then
                      (if fn_lc 0 p = 2 then
                        (if fn_lc 0 p = 2 then
                          (fn_bv (cf 43 [.ref 29, .int ((y3 p 1) - 384), .int (y3 p 3), .int (y3 p 4)] y3) (fun y8 =>
                            some (y8, none)))
                          else
                          none)
                        else
                        none)
                      else
                      none))))
                  else
                  none))
              else
              none))
          else
          none))
      else
      none)))) := rfl
theorem ft_Node_hear_1 (n d : Nat) (p : Nat) (x : fn_M) : fn_ev 0 (n + 2000) (d + 1) 40 [.ref 29, .ref p, .ref 1] x =
  (fn_bi (fn_ev 0 (n + 2000) d 26 [.ref 29] x) (fun y1 v2 =>
    (if v2 = 0 then
    some (y1, none)
    else
    (if fn_lc 0 p = 2 then
      (if (y1 p 1) = 0 then
        (fn_bv (fn_ev 0 (n + 2000) d 41 [.ref 29, .ref p, .ref 1] y1) (fun y11 =>
          some (y11, none)))
        else
        (if fn_lc 0 p = 2 then
          (if (y1 p 1) = 128 then
            (fn_bv (fn_ev 0 (n + 2000) d 42 [.ref 29, .ref 1] y1) (fun y10 =>
              some (y10, none)))
            else
            (if fn_lc 0 p = 2 then
              (if (y1 p 1) = (1536 + (y1 29 0)) then
                (fn_bv (fn_ev 0 (n + 2000) d 46 [.ref 29, .ref p, .ref 1] y1) (fun y9 =>
                  some (y9, none)))
                else
                (if fn_lc 0 p = 2 then
                  (fn_bi (fn_ev 0 (n + 2000) d 81 [.int ((y1 p 1) - 384)] y1) (fun y3 v4 =>
                    (if v4 = 0 then
                    (if fn_lc 0 p = 2 then
                      (fn_bi (fn_ev 0 (n + 2000) d 81 [.int ((y3 p 1) - 1792)] y3) (fun y5 v6 =>
                        (if v6 = 0 then
                        some (y5, none)
                        else
                        (if fn_lc 0 p = 2 then
                          (if fn_lc 0 p = 2 then
                            (fn_bv (fn_ev 0 (n + 2000) d 45 [.ref 29, .int ((y5 p 1) - 1792), .int (y5 p 2), .int (y5 1 6)] y5) (fun y7 =>
                              some (y7, none)))
                            else
                            none)
                          else
                          none))))
                      else
                      none)
                    else
                    (if fn_lc 0 p = 2 then
                      (if fn_lc 0 p = 2 then
                        (if fn_lc 0 p = 2 then
                          (fn_bv (fn_ev 0 (n + 2000) d 43 [.ref 29, .int ((y3 p 1) - 384), .int (y3 p 3), .int (y3 p 4)] y3) (fun y8 =>
                            some (y8, none)))
                          else
                          none)
                        else
                        none)
                      else
                      none))))
                  else
                  none))
              else
              none))
          else
          none))
      else
      none)))) :=
  fn_ev_t (dd := fn_d40) (lo := [(0, .ref 29), (1, .ref p), (2, .ref 1)]) (sp := []) rfl rfl rfl (fc_Node_hear_1 (fn_ev 0 (n + 2000) d) (fn_run 0 (fn_ev 0 (n + 2000) d) (fn_lk fn_d40)) (n + 1960) p x)
set_option maxRecDepth 20000 in
theorem fc_Node_hear_2 (cf : Nat → List Value → fn_M → Option fn_R) (K : Nat → fn_K) (m : Nat) (p : Nat) (x : fn_M) : fn_runc 0 cf (fn_lk fn_d40) [] K (m + 40) 0 [(0, .ref 30), (1, .ref p), (2, .ref 1)] [] x =
  (fn_bi (cf 26 [.ref 30] x) (fun y1 v2 =>
    (if v2 = 0 then
    some (y1, none)
    else
    (if fn_lc 0 p = 2 then
      (if (y1 p 1) = 0 then
        (fn_bv (cf 41 [.ref 30, .ref p, .ref 1] y1) (fun y11 =>
          some (y11, none)))
        else
        (if fn_lc 0 p = 2 then
          (if (y1 p 1) = 128 then
            (fn_bv (cf 42 [.ref 30, .ref 1] y1) (fun y10 =>
              some (y10, none)))
            else
            (if fn_lc 0 p = 2 then
              (if (y1 p 1) = (1536 + (y1 30 0)) then
                (fn_bv (cf 46 [.ref 30, .ref p, .ref 1] y1) (fun y9 =>
                  some (y9, none)))
                else
                (if fn_lc 0 p = 2 then
                  (fn_bi (cf 81 [.int ((y1 p 1) - 384)] y1) (fun y3 v4 =>
                    (if v4 = 0 then
                    (if fn_lc 0 p = 2 then
                      (fn_bi (cf 81 [.int ((y3 p 1) - 1792)] y3) (fun y5 v6 =>
                        (if v6 = 0 then
                        some (y5, none)
                        else
                        (if fn_lc 0 p = 2 then
                          (if fn_lc 0 p = 2 then
                            (fn_bv (cf 45 [.ref 30, .int ((y5 p 1) - 1792), .int (y5 p 2), .int (y5 1 6)] y5) (fun y7 =>
                              some (y7, none)))
                            else
                            none)
                          else
                          none))))
                      else
                      none)
                    else
                    (if fn_lc 0 p = 2 then
                      (if fn_lc 0 p = 2 then
                        (if fn_lc 0 p = 2 then
                          (fn_bv (cf 43 [.ref 30, .int ((y3 p 1) - 384), .int (y3 p 3), .int (y3 p 4)] y3) (fun y8 =>
                            some (y8, none)))
                          else
                          none)
                        else
                        none)
                      else
                      none))))
                  else
                  none))
              else
              none))
          else
          none))
      else
      none)))) := rfl
theorem ft_Node_hear_2 (n d : Nat) (p : Nat) (x : fn_M) : fn_ev 0 (n + 2000) (d + 1) 40 [.ref 30, .ref p, .ref 1] x =
  (fn_bi (fn_ev 0 (n + 2000) d 26 [.ref 30] x) (fun y1 v2 =>
    (if v2 = 0 then
    some (y1, none)
    else
    (if fn_lc 0 p = 2 then
      (if (y1 p 1) = 0 then
        (fn_bv (fn_ev 0 (n + 2000) d 41 [.ref 30, .ref p, .ref 1] y1) (fun y11 =>
          some (y11, none)))
        else
        (if fn_lc 0 p = 2 then
          (if (y1 p 1) = 128 then
            (fn_bv (fn_ev 0 (n + 2000) d 42 [.ref 30, .ref 1] y1) (fun y10 =>
              some (y10, none)))
            else
            (if fn_lc 0 p = 2 then
              (if (y1 p 1) = (1536 + (y1 30 0)) then
                (fn_bv (fn_ev 0 (n + 2000) d 46 [.ref 30, .ref p, .ref 1] y1) (fun y9 =>
                  some (y9, none)))
                else
                (if fn_lc 0 p = 2 then
                  (fn_bi (fn_ev 0 (n + 2000) d 81 [.int ((y1 p 1) - 384)] y1) (fun y3 v4 =>
                    (if v4 = 0 then
                    (if fn_lc 0 p = 2 then
                      (fn_bi (fn_ev 0 (n + 2000) d 81 [.int ((y3 p 1) - 1792)] y3) (fun y5 v6 =>
                        (if v6 = 0 then
                        some (y5, none)
                        else
                        (if fn_lc 0 p = 2 then
                          (if fn_lc 0 p = 2 then
                            (fn_bv (fn_ev 0 (n + 2000) d 45 [.ref 30, .int ((y5 p 1) - 1792), .int (y5 p 2), .int (y5 1 6)] y5) (fun y7 =>
                              some (y7, none)))
                            else
                            none)
                          else
                          none))))
                      else
                      none)
                    else
                    (if fn_lc 0 p = 2 then
                      (if fn_lc 0 p = 2 then
                        (if fn_lc 0 p = 2 then
                          (fn_bv (fn_ev 0 (n + 2000) d 43 [.ref 30, .int ((y3 p 1) - 384), .int (y3 p 3), .int (y3 p 4)] y3) (fun y8 =>
                            some (y8, none)))
                          else
                          none)
                        else
                        none)
                      else
                      none))))
                  else
                  none))
              else
              none))
          else
          none))
      else
      none)))) :=
  fn_ev_t (dd := fn_d40) (lo := [(0, .ref 30), (1, .ref p), (2, .ref 1)]) (sp := []) rfl rfl rfl (fc_Node_hear_2 (fn_ev 0 (n + 2000) d) (fn_run 0 (fn_ev 0 (n + 2000) d) (fn_lk fn_d40)) (n + 1960) p x)
set_option maxRecDepth 20000 in
theorem fc_Node_hear_3 (cf : Nat → List Value → fn_M → Option fn_R) (K : Nat → fn_K) (m : Nat) (p : Nat) (x : fn_M) : fn_runc 0 cf (fn_lk fn_d40) [] K (m + 40) 0 [(0, .ref 31), (1, .ref p), (2, .ref 1)] [] x =
  (fn_bi (cf 26 [.ref 31] x) (fun y1 v2 =>
    (if v2 = 0 then
    some (y1, none)
    else
    (if fn_lc 0 p = 2 then
      (if (y1 p 1) = 0 then
        (fn_bv (cf 41 [.ref 31, .ref p, .ref 1] y1) (fun y11 =>
          some (y11, none)))
        else
        (if fn_lc 0 p = 2 then
          (if (y1 p 1) = 128 then
            (fn_bv (cf 42 [.ref 31, .ref 1] y1) (fun y10 =>
              some (y10, none)))
            else
            (if fn_lc 0 p = 2 then
              (if (y1 p 1) = (1536 + (y1 31 0)) then
                (fn_bv (cf 46 [.ref 31, .ref p, .ref 1] y1) (fun y9 =>
                  some (y9, none)))
                else
                (if fn_lc 0 p = 2 then
                  (fn_bi (cf 81 [.int ((y1 p 1) - 384)] y1) (fun y3 v4 =>
                    (if v4 = 0 then
                    (if fn_lc 0 p = 2 then
                      (fn_bi (cf 81 [.int ((y3 p 1) - 1792)] y3) (fun y5 v6 =>
                        (if v6 = 0 then
                        some (y5, none)
                        else
                        (if fn_lc 0 p = 2 then
                          (if fn_lc 0 p = 2 then
                            (fn_bv (cf 45 [.ref 31, .int ((y5 p 1) - 1792), .int (y5 p 2), .int (y5 1 6)] y5) (fun y7 =>
                              some (y7, none)))
                            else
                            none)
                          else
                          none))))
                      else
                      none)
                    else
                    (if fn_lc 0 p = 2 then
                      (if fn_lc 0 p = 2 then
                        (if fn_lc 0 p = 2 then
                          (fn_bv (cf 43 [.ref 31, .int ((y3 p 1) - 384), .int (y3 p 3), .int (y3 p 4)] y3) (fun y8 =>
                            some (y8, none)))
                          else
                          none)
                        else
                        none)
                      else
                      none))))
                  else
                  none))
              else
              none))
          else
          none))
      else
      none)))) := rfl
theorem ft_Node_hear_3 (n d : Nat) (p : Nat) (x : fn_M) : fn_ev 0 (n + 2000) (d + 1) 40 [.ref 31, .ref p, .ref 1] x =
  (fn_bi (fn_ev 0 (n + 2000) d 26 [.ref 31] x) (fun y1 v2 =>
    (if v2 = 0 then
    some (y1, none)
    else
    (if fn_lc 0 p = 2 then
      (if (y1 p 1) = 0 then
        (fn_bv (fn_ev 0 (n + 2000) d 41 [.ref 31, .ref p, .ref 1] y1) (fun y11 =>
          some (y11, none)))
        else
        (if fn_lc 0 p = 2 then
          (if (y1 p 1) = 128 then
            (fn_bv (fn_ev 0 (n + 2000) d 42 [.ref 31, .ref 1] y1) (fun y10 =>
              some (y10, none)))
            else
            (if fn_lc 0 p = 2 then
              (if (y1 p 1) = (1536 + (y1 31 0)) then
                (fn_bv (fn_ev 0 (n + 2000) d 46 [.ref 31, .ref p, .ref 1] y1) (fun y9 =>
                  some (y9, none)))
                else
                (if fn_lc 0 p = 2 then
                  (fn_bi (fn_ev 0 (n + 2000) d 81 [.int ((y1 p 1) - 384)] y1) (fun y3 v4 =>
                    (if v4 = 0 then
                    (if fn_lc 0 p = 2 then
                      (fn_bi (fn_ev 0 (n + 2000) d 81 [.int ((y3 p 1) - 1792)] y3) (fun y5 v6 =>
                        (if v6 = 0 then
                        some (y5, none)
                        else
                        (if fn_lc 0 p = 2 then
                          (if fn_lc 0 p = 2 then
                            (fn_bv (fn_ev 0 (n + 2000) d 45 [.ref 31, .int ((y5 p 1) - 1792), .int (y5 p 2), .int (y5 1 6)] y5) (fun y7 =>
                              some (y7, none)))
                            else
                            none)
                          else
                          none))))
                      else
                      none)
                    else
                    (if fn_lc 0 p = 2 then
                      (if fn_lc 0 p = 2 then
                        (if fn_lc 0 p = 2 then
                          (fn_bv (fn_ev 0 (n + 2000) d 43 [.ref 31, .int ((y3 p 1) - 384), .int (y3 p 3), .int (y3 p 4)] y3) (fun y8 =>
                            some (y8, none)))
                          else
                          none)
                        else
                        none)
                      else
                      none))))
                  else
                  none))
              else
              none))
          else
          none))
      else
      none)))) :=
  fn_ev_t (dd := fn_d40) (lo := [(0, .ref 31), (1, .ref p), (2, .ref 1)]) (sp := []) rfl rfl rfl (fc_Node_hear_3 (fn_ev 0 (n + 2000) d) (fn_run 0 (fn_ev 0 (n + 2000) d) (fn_lk fn_d40)) (n + 1960) p x)
set_option maxRecDepth 20000 in
theorem fc_Node_hear_4 (cf : Nat → List Value → fn_M → Option fn_R) (K : Nat → fn_K) (m : Nat) (p : Nat) (x : fn_M) : fn_runc 0 cf (fn_lk fn_d40) [] K (m + 40) 0 [(0, .ref 32), (1, .ref p), (2, .ref 1)] [] x =
  (fn_bi (cf 26 [.ref 32] x) (fun y1 v2 =>
    (if v2 = 0 then
    some (y1, none)
    else
    (if fn_lc 0 p = 2 then
      (if (y1 p 1) = 0 then
        (fn_bv (cf 41 [.ref 32, .ref p, .ref 1] y1) (fun y11 =>
          some (y11, none)))
        else
        (if fn_lc 0 p = 2 then
          (if (y1 p 1) = 128 then
            (fn_bv (cf 42 [.ref 32, .ref 1] y1) (fun y10 =>
              some (y10, none)))
            else
            (if fn_lc 0 p = 2 then
              (if (y1 p 1) = (1536 + (y1 32 0)) then
                (fn_bv (cf 46 [.ref 32, .ref p, .ref 1] y1) (fun y9 =>
                  some (y9, none)))
                else
                (if fn_lc 0 p = 2 then
                  (fn_bi (cf 81 [.int ((y1 p 1) - 384)] y1) (fun y3 v4 =>
                    (if v4 = 0 then
                    (if fn_lc 0 p = 2 then
                      (fn_bi (cf 81 [.int ((y3 p 1) - 1792)] y3) (fun y5 v6 =>
                        (if v6 = 0 then
                        some (y5, none)
                        else
                        (if fn_lc 0 p = 2 then
                          (if fn_lc 0 p = 2 then
                            (fn_bv (cf 45 [.ref 32, .int ((y5 p 1) - 1792), .int (y5 p 2), .int (y5 1 6)] y5) (fun y7 =>
                              some (y7, none)))
                            else
                            none)
                          else
                          none))))
                      else
                      none)
                    else
                    (if fn_lc 0 p = 2 then
                      (if fn_lc 0 p = 2 then
                        (if fn_lc 0 p = 2 then
                          (fn_bv (cf 43 [.ref 32, .int ((y3 p 1) - 384), .int (y3 p 3), .int (y3 p 4)] y3) (fun y8 =>
                            some (y8, none)))
                          else
                          none)
                        else
                        none)
                      else
                      none))))
                  else
                  none))
              else
              none))
          else
          none))
      else
      none)))) := rfl
theorem ft_Node_hear_4 (n d : Nat) (p : Nat) (x : fn_M) : fn_ev 0 (n + 2000) (d + 1) 40 [.ref 32, .ref p, .ref 1] x =
  (fn_bi (fn_ev 0 (n + 2000) d 26 [.ref 32] x) (fun y1 v2 =>
    (if v2 = 0 then
    some (y1, none)
    else
    (if fn_lc 0 p = 2 then
      (if (y1 p 1) = 0 then
        (fn_bv (fn_ev 0 (n + 2000) d 41 [.ref 32, .ref p, .ref 1] y1) (fun y11 =>
          some (y11, none)))
        else
        (if fn_lc 0 p = 2 then
          (if (y1 p 1) = 128 then
            (fn_bv (fn_ev 0 (n + 2000) d 42 [.ref 32, .ref 1] y1) (fun y10 =>
              some (y10, none)))
            else
            (if fn_lc 0 p = 2 then
              (if (y1 p 1) = (1536 + (y1 32 0)) then
                (fn_bv (fn_ev 0 (n + 2000) d 46 [.ref 32, .ref p, .ref 1] y1) (fun y9 =>
                  some (y9, none)))
                else
                (if fn_lc 0 p = 2 then
                  (fn_bi (fn_ev 0 (n + 2000) d 81 [.int ((y1 p 1) - 384)] y1) (fun y3 v4 =>
                    (if v4 = 0 then
                    (if fn_lc 0 p = 2 then
                      (fn_bi (fn_ev 0 (n + 2000) d 81 [.int ((y3 p 1) - 1792)] y3) (fun y5 v6 =>
                        (if v6 = 0 then
                        some (y5, none)
                        else
                        (if fn_lc 0 p = 2 then
                          (if fn_lc 0 p = 2 then
                            (fn_bv (fn_ev 0 (n + 2000) d 45 [.ref 32, .int ((y5 p 1) - 1792), .int (y5 p 2), .int (y5 1 6)] y5) (fun y7 =>
                              some (y7, none)))
                            else
                            none)
                          else
                          none))))
                      else
                      none)
                    else
                    (if fn_lc 0 p = 2 then
                      (if fn_lc 0 p = 2 then
                        (if fn_lc 0 p = 2 then
                          (fn_bv (fn_ev 0 (n + 2000) d 43 [.ref 32, .int ((y3 p 1) - 384), .int (y3 p 3), .int (y3 p 4)] y3) (fun y8 =>
                            some (y8, none)))
                          else
                          none)
                        else
                        none)
                      else
                      none))))
                  else
                  none))
              else
              none))
          else
          none))
      else
      none)))) :=
  fn_ev_t (dd := fn_d40) (lo := [(0, .ref 32), (1, .ref p), (2, .ref 1)]) (sp := []) rfl rfl rfl (fc_Node_hear_4 (fn_ev 0 (n + 2000) d) (fn_run 0 (fn_ev 0 (n + 2000) d) (fn_lk fn_d40)) (n + 1960) p x)
set_option maxRecDepth 20000 in
theorem fc_Node_obey_1 (cf : Nat → List Value → fn_M → Option fn_R) (K : Nat → fn_K) (m : Nat) (p : Nat) (x : fn_M) : fn_runc 0 cf (fn_lk fn_d41) [] K (m + 16) 0 [(0, .ref 29), (1, .ref p), (2, .ref 1)] [] x =
  (if fn_lc 0 p = 2 then
    (if (x p 3) = 0 then
      (if fn_lc 0 p = 2 then
        (if (x p 2) = 1 then
          some ((fn_w x 29 3 5), none)
          else
          (if (x p 2) = 2 then
            some ((fn_w x 29 3 4), none)
            else
            (if (x p 2) = 128 then
              some ((fn_w x 29 3 127), none)
              else
              (if (x p 2) = 129 then
                (fn_bv (cf 28 [.ref 29, .ref 1] x) (fun y1 =>
                  some (y1, none)))
                else
                some (x, none)))))
        else
        none)
      else
      (if fn_lc 0 p = 2 then
        (if (x p 3) = (x 29 0) then
          (if fn_lc 0 p = 2 then
            (if (x p 2) = 1 then
              some ((fn_w x 29 3 5), none)
              else
              (if (x p 2) = 2 then
                some ((fn_w x 29 3 4), none)
                else
                (if (x p 2) = 128 then
                  some ((fn_w x 29 3 127), none)
                  else
                  (if (x p 2) = 129 then
                    (fn_bv (cf 28 [.ref 29, .ref 1] x) (fun y2 =>
                      some (y2, none)))
                    else
                    some (x, none)))))
            else
            none)
          else
          some (x, none))
        else
        none))
    else
    none) := rfl
theorem ft_Node_obey_1 (n d : Nat) (p : Nat) (x : fn_M) : fn_ev 0 (n + 2000) (d + 1) 41 [.ref 29, .ref p, .ref 1] x =
  (if fn_lc 0 p = 2 then
    (if (x p 3) = 0 then
      (if fn_lc 0 p = 2 then
        (if (x p 2) = 1 then
          some ((fn_w x 29 3 5), none)
          else
          (if (x p 2) = 2 then
            some ((fn_w x 29 3 4), none)
            else
            (if (x p 2) = 128 then
              some ((fn_w x 29 3 127), none)
              else
              (if (x p 2) = 129 then
                (fn_bv (fn_ev 0 (n + 2000) d 28 [.ref 29, .ref 1] x) (fun y1 =>
                  some (y1, none)))
                else
                some (x, none)))))
        else
        none)
      else
      (if fn_lc 0 p = 2 then
        (if (x p 3) = (x 29 0) then
          (if fn_lc 0 p = 2 then
            (if (x p 2) = 1 then
              some ((fn_w x 29 3 5), none)
              else
              (if (x p 2) = 2 then
                some ((fn_w x 29 3 4), none)
                else
                (if (x p 2) = 128 then
                  some ((fn_w x 29 3 127), none)
                  else
                  (if (x p 2) = 129 then
                    (fn_bv (fn_ev 0 (n + 2000) d 28 [.ref 29, .ref 1] x) (fun y2 =>
                      some (y2, none)))
                    else
                    some (x, none)))))
            else
            none)
          else
          some (x, none))
        else
        none))
    else
    none) :=
  fn_ev_t (dd := fn_d41) (lo := [(0, .ref 29), (1, .ref p), (2, .ref 1)]) (sp := []) rfl rfl rfl (fc_Node_obey_1 (fn_ev 0 (n + 2000) d) (fn_run 0 (fn_ev 0 (n + 2000) d) (fn_lk fn_d41)) (n + 1984) p x)
set_option maxRecDepth 20000 in
theorem fc_Node_obey_2 (cf : Nat → List Value → fn_M → Option fn_R) (K : Nat → fn_K) (m : Nat) (p : Nat) (x : fn_M) : fn_runc 0 cf (fn_lk fn_d41) [] K (m + 16) 0 [(0, .ref 30), (1, .ref p), (2, .ref 1)] [] x =
  (if fn_lc 0 p = 2 then
    (if (x p 3) = 0 then
      (if fn_lc 0 p = 2 then
        (if (x p 2) = 1 then
          some ((fn_w x 30 3 5), none)
          else
          (if (x p 2) = 2 then
            some ((fn_w x 30 3 4), none)
            else
            (if (x p 2) = 128 then
              some ((fn_w x 30 3 127), none)
              else
              (if (x p 2) = 129 then
                (fn_bv (cf 28 [.ref 30, .ref 1] x) (fun y1 =>
                  some (y1, none)))
                else
                some (x, none)))))
        else
        none)
      else
      (if fn_lc 0 p = 2 then
        (if (x p 3) = (x 30 0) then
          (if fn_lc 0 p = 2 then
            (if (x p 2) = 1 then
              some ((fn_w x 30 3 5), none)
              else
              (if (x p 2) = 2 then
                some ((fn_w x 30 3 4), none)
                else
                (if (x p 2) = 128 then
                  some ((fn_w x 30 3 127), none)
                  else
                  (if (x p 2) = 129 then
                    (fn_bv (cf 28 [.ref 30, .ref 1] x) (fun y2 =>
                      some (y2, none)))
                    else
                    some (x, none)))))
            else
            none)
          else
          some (x, none))
        else
        none))
    else
    none) := rfl
theorem ft_Node_obey_2 (n d : Nat) (p : Nat) (x : fn_M) : fn_ev 0 (n + 2000) (d + 1) 41 [.ref 30, .ref p, .ref 1] x =
  (if fn_lc 0 p = 2 then
    (if (x p 3) = 0 then
      (if fn_lc 0 p = 2 then
        (if (x p 2) = 1 then
          some ((fn_w x 30 3 5), none)
          else
          (if (x p 2) = 2 then
            some ((fn_w x 30 3 4), none)
            else
            (if (x p 2) = 128 then
              some ((fn_w x 30 3 127), none)
              else
              (if (x p 2) = 129 then
                (fn_bv (fn_ev 0 (n + 2000) d 28 [.ref 30, .ref 1] x) (fun y1 =>
                  some (y1, none)))
                else
                some (x, none)))))
        else
        none)
      else
      (if fn_lc 0 p = 2 then
        (if (x p 3) = (x 30 0) then
          (if fn_lc 0 p = 2 then
            (if (x p 2) = 1 then
              some ((fn_w x 30 3 5), none)
              else
              (if (x p 2) = 2 then
                some ((fn_w x 30 3 4), none)
                else
                (if (x p 2) = 128 then
                  some ((fn_w x 30 3 127), none)
                  else
                  (if (x p 2) = 129 then
                    (fn_bv (fn_ev 0 (n + 2000) d 28 [.ref 30, .ref 1] x) (fun y2 =>
                      some (y2, none)))
                    else
                    some (x, none)))))
            else
            none)
          else
          some (x, none))
        else
        none))
    else
    none) :=
  fn_ev_t (dd := fn_d41) (lo := [(0, .ref 30), (1, .ref p), (2, .ref 1)]) (sp := []) rfl rfl rfl (fc_Node_obey_2 (fn_ev 0 (n + 2000) d) (fn_run 0 (fn_ev 0 (n + 2000) d) (fn_lk fn_d41)) (n + 1984) p x)
set_option maxRecDepth 20000 in
theorem fc_Node_obey_3 (cf : Nat → List Value → fn_M → Option fn_R) (K : Nat → fn_K) (m : Nat) (p : Nat) (x : fn_M) : fn_runc 0 cf (fn_lk fn_d41) [] K (m + 16) 0 [(0, .ref 31), (1, .ref p), (2, .ref 1)] [] x =
  (if fn_lc 0 p = 2 then
    (if (x p 3) = 0 then
      (if fn_lc 0 p = 2 then
        (if (x p 2) = 1 then
          some ((fn_w x 31 3 5), none)
          else
          (if (x p 2) = 2 then
            some ((fn_w x 31 3 4), none)
            else
            (if (x p 2) = 128 then
              some ((fn_w x 31 3 127), none)
              else
              (if (x p 2) = 129 then
                (fn_bv (cf 28 [.ref 31, .ref 1] x) (fun y1 =>
                  some (y1, none)))
                else
                some (x, none)))))
        else
        none)
      else
      (if fn_lc 0 p = 2 then
        (if (x p 3) = (x 31 0) then
          (if fn_lc 0 p = 2 then
            (if (x p 2) = 1 then
              some ((fn_w x 31 3 5), none)
              else
              (if (x p 2) = 2 then
                some ((fn_w x 31 3 4), none)
                else
                (if (x p 2) = 128 then
                  some ((fn_w x 31 3 127), none)
                  else
                  (if (x p 2) = 129 then
                    (fn_bv (cf 28 [.ref 31, .ref 1] x) (fun y2 =>
                      some (y2, none)))
                    else
                    some (x, none)))))
            else
            none)
          else
          some (x, none))
        else
        none))
    else
    none) := rfl
theorem ft_Node_obey_3 (n d : Nat) (p : Nat) (x : fn_M) : fn_ev 0 (n + 2000) (d + 1) 41 [.ref 31, .ref p, .ref 1] x =
  (if fn_lc 0 p = 2 then
    (if (x p 3) = 0 then
      (if fn_lc 0 p = 2 then
        (if (x p 2) = 1 then
          some ((fn_w x 31 3 5), none)
          else
          (if (x p 2) = 2 then
            some ((fn_w x 31 3 4), none)
            else
            (if (x p 2) = 128 then
              some ((fn_w x 31 3 127), none)
              else
              (if (x p 2) = 129 then
                (fn_bv (fn_ev 0 (n + 2000) d 28 [.ref 31, .ref 1] x) (fun y1 =>
                  some (y1, none)))
                else
                some (x, none)))))
        else
        none)
      else
      (if fn_lc 0 p = 2 then
        (if (x p 3) = (x 31 0) then
          (if fn_lc 0 p = 2 then
            (if (x p 2) = 1 then
              some ((fn_w x 31 3 5), none)
              else
              (if (x p 2) = 2 then
                some ((fn_w x 31 3 4), none)
                else
                (if (x p 2) = 128 then
                  some ((fn_w x 31 3 127), none)
                  else
                  (if (x p 2) = 129 then
                    (fn_bv (fn_ev 0 (n + 2000) d 28 [.ref 31, .ref 1] x) (fun y2 =>
                      some (y2, none)))
                    else
                    some (x, none)))))
            else
            none)
          else
          some (x, none))
        else
        none))
    else
    none) :=
  fn_ev_t (dd := fn_d41) (lo := [(0, .ref 31), (1, .ref p), (2, .ref 1)]) (sp := []) rfl rfl rfl (fc_Node_obey_3 (fn_ev 0 (n + 2000) d) (fn_run 0 (fn_ev 0 (n + 2000) d) (fn_lk fn_d41)) (n + 1984) p x)
set_option maxRecDepth 20000 in
theorem fc_Node_obey_4 (cf : Nat → List Value → fn_M → Option fn_R) (K : Nat → fn_K) (m : Nat) (p : Nat) (x : fn_M) : fn_runc 0 cf (fn_lk fn_d41) [] K (m + 16) 0 [(0, .ref 32), (1, .ref p), (2, .ref 1)] [] x =
  (if fn_lc 0 p = 2 then
    (if (x p 3) = 0 then
      (if fn_lc 0 p = 2 then
        (if (x p 2) = 1 then
          some ((fn_w x 32 3 5), none)
          else
          (if (x p 2) = 2 then
            some ((fn_w x 32 3 4), none)
            else
            (if (x p 2) = 128 then
              some ((fn_w x 32 3 127), none)
              else
              (if (x p 2) = 129 then
                (fn_bv (cf 28 [.ref 32, .ref 1] x) (fun y1 =>
                  some (y1, none)))
                else
                some (x, none)))))
        else
        none)
      else
      (if fn_lc 0 p = 2 then
        (if (x p 3) = (x 32 0) then
          (if fn_lc 0 p = 2 then
            (if (x p 2) = 1 then
              some ((fn_w x 32 3 5), none)
              else
              (if (x p 2) = 2 then
                some ((fn_w x 32 3 4), none)
                else
                (if (x p 2) = 128 then
                  some ((fn_w x 32 3 127), none)
                  else
                  (if (x p 2) = 129 then
                    (fn_bv (cf 28 [.ref 32, .ref 1] x) (fun y2 =>
                      some (y2, none)))
                    else
                    some (x, none)))))
            else
            none)
          else
          some (x, none))
        else
        none))
    else
    none) := rfl
theorem ft_Node_obey_4 (n d : Nat) (p : Nat) (x : fn_M) : fn_ev 0 (n + 2000) (d + 1) 41 [.ref 32, .ref p, .ref 1] x =
  (if fn_lc 0 p = 2 then
    (if (x p 3) = 0 then
      (if fn_lc 0 p = 2 then
        (if (x p 2) = 1 then
          some ((fn_w x 32 3 5), none)
          else
          (if (x p 2) = 2 then
            some ((fn_w x 32 3 4), none)
            else
            (if (x p 2) = 128 then
              some ((fn_w x 32 3 127), none)
              else
              (if (x p 2) = 129 then
                (fn_bv (fn_ev 0 (n + 2000) d 28 [.ref 32, .ref 1] x) (fun y1 =>
                  some (y1, none)))
                else
                some (x, none)))))
        else
        none)
      else
      (if fn_lc 0 p = 2 then
        (if (x p 3) = (x 32 0) then
          (if fn_lc 0 p = 2 then
            (if (x p 2) = 1 then
              some ((fn_w x 32 3 5), none)
              else
              (if (x p 2) = 2 then
                some ((fn_w x 32 3 4), none)
                else
                (if (x p 2) = 128 then
                  some ((fn_w x 32 3 127), none)
                  else
                  (if (x p 2) = 129 then
                    (fn_bv (fn_ev 0 (n + 2000) d 28 [.ref 32, .ref 1] x) (fun y2 =>
                      some (y2, none)))
                    else
                    some (x, none)))))
            else
            none)
          else
          some (x, none))
        else
        none))
    else
    none) :=
  fn_ev_t (dd := fn_d41) (lo := [(0, .ref 32), (1, .ref p), (2, .ref 1)]) (sp := []) rfl rfl rfl (fc_Node_obey_4 (fn_ev 0 (n + 2000) d) (fn_run 0 (fn_ev 0 (n + 2000) d) (fn_lk fn_d41)) (n + 1984) p x)
set_option maxRecDepth 20000 in
theorem fc_Node_countSync_1 (cf : Nat → List Value → fn_M → Option fn_R) (K : Nat → fn_K) (m : Nat) (x : fn_M) : fn_runc 0 cf (fn_lk fn_d42) [] K (m + 29) 0 [(0, .ref 29), (1, .ref 1)] [] x =
  (if (x 29 3) = 5 then
    (if (x 33 4) = 0 then
      some (x, none)
      else
      (if ((x 29 7) + 1) < (x 33 4) then
        some ((fn_w x 29 7 ((x 29 7) + 1)), none)
        else
        (fn_bv (cf 34 [.ref 29, .ref 1] (fn_w x 29 7 ((x 29 7) + 1))) (fun y1 =>
          some ((fn_w y1 29 7 0), none)))))
    else
    some (x, none)) := rfl
theorem ft_Node_countSync_1 (n d : Nat) (x : fn_M) : fn_ev 0 (n + 2000) (d + 1) 42 [.ref 29, .ref 1] x =
  (if (x 29 3) = 5 then
    (if (x 33 4) = 0 then
      some (x, none)
      else
      (if ((x 29 7) + 1) < (x 33 4) then
        some ((fn_w x 29 7 ((x 29 7) + 1)), none)
        else
        (fn_bv (fn_ev 0 (n + 2000) d 34 [.ref 29, .ref 1] (fn_w x 29 7 ((x 29 7) + 1))) (fun y1 =>
          some ((fn_w y1 29 7 0), none)))))
    else
    some (x, none)) :=
  fn_ev_t (dd := fn_d42) (lo := [(0, .ref 29), (1, .ref 1)]) (sp := []) rfl rfl rfl (fc_Node_countSync_1 (fn_ev 0 (n + 2000) d) (fn_run 0 (fn_ev 0 (n + 2000) d) (fn_lk fn_d42)) (n + 1971) x)
set_option maxRecDepth 20000 in
theorem fc_Node_countSync_2 (cf : Nat → List Value → fn_M → Option fn_R) (K : Nat → fn_K) (m : Nat) (x : fn_M) : fn_runc 0 cf (fn_lk fn_d42) [] K (m + 29) 0 [(0, .ref 30), (1, .ref 1)] [] x =
  (if (x 30 3) = 5 then
    (if (x 34 4) = 0 then
      some (x, none)
      else
      (if ((x 30 7) + 1) < (x 34 4) then
        some ((fn_w x 30 7 ((x 30 7) + 1)), none)
        else
        (fn_bv (cf 34 [.ref 30, .ref 1] (fn_w x 30 7 ((x 30 7) + 1))) (fun y1 =>
          some ((fn_w y1 30 7 0), none)))))
    else
    some (x, none)) := rfl
theorem ft_Node_countSync_2 (n d : Nat) (x : fn_M) : fn_ev 0 (n + 2000) (d + 1) 42 [.ref 30, .ref 1] x =
  (if (x 30 3) = 5 then
    (if (x 34 4) = 0 then
      some (x, none)
      else
      (if ((x 30 7) + 1) < (x 34 4) then
        some ((fn_w x 30 7 ((x 30 7) + 1)), none)
        else
        (fn_bv (fn_ev 0 (n + 2000) d 34 [.ref 30, .ref 1] (fn_w x 30 7 ((x 30 7) + 1))) (fun y1 =>
          some ((fn_w y1 30 7 0), none)))))
    else
    some (x, none)) :=
  fn_ev_t (dd := fn_d42) (lo := [(0, .ref 30), (1, .ref 1)]) (sp := []) rfl rfl rfl (fc_Node_countSync_2 (fn_ev 0 (n + 2000) d) (fn_run 0 (fn_ev 0 (n + 2000) d) (fn_lk fn_d42)) (n + 1971) x)
set_option maxRecDepth 20000 in
theorem fc_Node_countSync_3 (cf : Nat → List Value → fn_M → Option fn_R) (K : Nat → fn_K) (m : Nat) (x : fn_M) : fn_runc 0 cf (fn_lk fn_d42) [] K (m + 29) 0 [(0, .ref 31), (1, .ref 1)] [] x =
  (if (x 31 3) = 5 then
    (if (x 35 4) = 0 then
      some (x, none)
      else
      (if ((x 31 7) + 1) < (x 35 4) then
        some ((fn_w x 31 7 ((x 31 7) + 1)), none)
        else
        (fn_bv (cf 34 [.ref 31, .ref 1] (fn_w x 31 7 ((x 31 7) + 1))) (fun y1 =>
          some ((fn_w y1 31 7 0), none)))))
    else
    some (x, none)) := rfl
theorem ft_Node_countSync_3 (n d : Nat) (x : fn_M) : fn_ev 0 (n + 2000) (d + 1) 42 [.ref 31, .ref 1] x =
  (if (x 31 3) = 5 then
    (if (x 35 4) = 0 then
      some (x, none)
      else
      (if ((x 31 7) + 1) < (x 35 4) then
        some ((fn_w x 31 7 ((x 31 7) + 1)), none)
        else
        (fn_bv (fn_ev 0 (n + 2000) d 34 [.ref 31, .ref 1] (fn_w x 31 7 ((x 31 7) + 1))) (fun y1 =>
          some ((fn_w y1 31 7 0), none)))))
    else
    some (x, none)) :=
  fn_ev_t (dd := fn_d42) (lo := [(0, .ref 31), (1, .ref 1)]) (sp := []) rfl rfl rfl (fc_Node_countSync_3 (fn_ev 0 (n + 2000) d) (fn_run 0 (fn_ev 0 (n + 2000) d) (fn_lk fn_d42)) (n + 1971) x)
set_option maxRecDepth 20000 in
theorem fc_Node_countSync_4 (cf : Nat → List Value → fn_M → Option fn_R) (K : Nat → fn_K) (m : Nat) (x : fn_M) : fn_runc 0 cf (fn_lk fn_d42) [] K (m + 29) 0 [(0, .ref 32), (1, .ref 1)] [] x =
  (if (x 32 3) = 5 then
    (if (x 36 4) = 0 then
      some (x, none)
      else
      (if ((x 32 7) + 1) < (x 36 4) then
        some ((fn_w x 32 7 ((x 32 7) + 1)), none)
        else
        (fn_bv (cf 34 [.ref 32, .ref 1] (fn_w x 32 7 ((x 32 7) + 1))) (fun y1 =>
          some ((fn_w y1 32 7 0), none)))))
    else
    some (x, none)) := rfl
theorem ft_Node_countSync_4 (n d : Nat) (x : fn_M) : fn_ev 0 (n + 2000) (d + 1) 42 [.ref 32, .ref 1] x =
  (if (x 32 3) = 5 then
    (if (x 36 4) = 0 then
      some (x, none)
      else
      (if ((x 32 7) + 1) < (x 36 4) then
        some ((fn_w x 32 7 ((x 32 7) + 1)), none)
        else
        (fn_bv (fn_ev 0 (n + 2000) d 34 [.ref 32, .ref 1] (fn_w x 32 7 ((x 32 7) + 1))) (fun y1 =>
          some ((fn_w y1 32 7 0), none)))))
    else
    some (x, none)) :=
  fn_ev_t (dd := fn_d42) (lo := [(0, .ref 32), (1, .ref 1)]) (sp := []) rfl rfl rfl (fc_Node_countSync_4 (fn_ev 0 (n + 2000) d) (fn_run 0 (fn_ev 0 (n + 2000) d) (fn_lk fn_d42)) (n + 1971) x)
set_option maxRecDepth 20000 in
theorem fc_Node_takeSample_1 (cf : Nat → List Value → fn_M → Option fn_R) (K : Nat → fn_K) (m : Nat) (a1 a2 a3 : Int32) (x : fn_M) : fn_runc 0 cf (fn_lk fn_d43) [] K (m + 29) 0 [(0, .ref 29), (1, .int a1), (2, .int a2), (3, .int a3)] [] x =
  (if (x 29 3) = 5 then
    (if ((x 33 7) / 10000) = a1 then
      (fn_bv (cf 44 [.ref 29, .int (((x 33 7) / 100) - ((x 33 7) / 100) / 100 * 100), .int a2] x) (fun y1 =>
        (fn_bv (cf 44 [.ref 29, .int ((x 33 7) - (x 33 7) / 100 * 100), .int a3] y1) (fun y2 =>
        some (y2, none)))))
      else
      some (x, none))
    else
    some (x, none)) := rfl
theorem ft_Node_takeSample_1 (n d : Nat) (a1 a2 a3 : Int32) (x : fn_M) : fn_ev 0 (n + 2000) (d + 1) 43 [.ref 29, .int a1, .int a2, .int a3] x =
  (if (x 29 3) = 5 then
    (if ((x 33 7) / 10000) = a1 then
      (fn_bv (fn_ev 0 (n + 2000) d 44 [.ref 29, .int (((x 33 7) / 100) - ((x 33 7) / 100) / 100 * 100), .int a2] x) (fun y1 =>
        (fn_bv (fn_ev 0 (n + 2000) d 44 [.ref 29, .int ((x 33 7) - (x 33 7) / 100 * 100), .int a3] y1) (fun y2 =>
        some (y2, none)))))
      else
      some (x, none))
    else
    some (x, none)) :=
  fn_ev_t (dd := fn_d43) (lo := [(0, .ref 29), (1, .int a1), (2, .int a2), (3, .int a3)]) (sp := []) rfl rfl rfl (fc_Node_takeSample_1 (fn_ev 0 (n + 2000) d) (fn_run 0 (fn_ev 0 (n + 2000) d) (fn_lk fn_d43)) (n + 1971) a1 a2 a3 x)
set_option maxRecDepth 20000 in
theorem fc_Node_takeSample_2 (cf : Nat → List Value → fn_M → Option fn_R) (K : Nat → fn_K) (m : Nat) (a1 a2 a3 : Int32) (x : fn_M) : fn_runc 0 cf (fn_lk fn_d43) [] K (m + 29) 0 [(0, .ref 30), (1, .int a1), (2, .int a2), (3, .int a3)] [] x =
  (if (x 30 3) = 5 then
    (if ((x 34 7) / 10000) = a1 then
      (fn_bv (cf 44 [.ref 30, .int (((x 34 7) / 100) - ((x 34 7) / 100) / 100 * 100), .int a2] x) (fun y1 =>
        (fn_bv (cf 44 [.ref 30, .int ((x 34 7) - (x 34 7) / 100 * 100), .int a3] y1) (fun y2 =>
        some (y2, none)))))
      else
      some (x, none))
    else
    some (x, none)) := rfl
theorem ft_Node_takeSample_2 (n d : Nat) (a1 a2 a3 : Int32) (x : fn_M) : fn_ev 0 (n + 2000) (d + 1) 43 [.ref 30, .int a1, .int a2, .int a3] x =
  (if (x 30 3) = 5 then
    (if ((x 34 7) / 10000) = a1 then
      (fn_bv (fn_ev 0 (n + 2000) d 44 [.ref 30, .int (((x 34 7) / 100) - ((x 34 7) / 100) / 100 * 100), .int a2] x) (fun y1 =>
        (fn_bv (fn_ev 0 (n + 2000) d 44 [.ref 30, .int ((x 34 7) - (x 34 7) / 100 * 100), .int a3] y1) (fun y2 =>
        some (y2, none)))))
      else
      some (x, none))
    else
    some (x, none)) :=
  fn_ev_t (dd := fn_d43) (lo := [(0, .ref 30), (1, .int a1), (2, .int a2), (3, .int a3)]) (sp := []) rfl rfl rfl (fc_Node_takeSample_2 (fn_ev 0 (n + 2000) d) (fn_run 0 (fn_ev 0 (n + 2000) d) (fn_lk fn_d43)) (n + 1971) a1 a2 a3 x)
set_option maxRecDepth 20000 in
theorem fc_Node_takeSample_3 (cf : Nat → List Value → fn_M → Option fn_R) (K : Nat → fn_K) (m : Nat) (a1 a2 a3 : Int32) (x : fn_M) : fn_runc 0 cf (fn_lk fn_d43) [] K (m + 29) 0 [(0, .ref 31), (1, .int a1), (2, .int a2), (3, .int a3)] [] x =
  (if (x 31 3) = 5 then
    (if ((x 35 7) / 10000) = a1 then
      (fn_bv (cf 44 [.ref 31, .int (((x 35 7) / 100) - ((x 35 7) / 100) / 100 * 100), .int a2] x) (fun y1 =>
        (fn_bv (cf 44 [.ref 31, .int ((x 35 7) - (x 35 7) / 100 * 100), .int a3] y1) (fun y2 =>
        some (y2, none)))))
      else
      some (x, none))
    else
    some (x, none)) := rfl
theorem ft_Node_takeSample_3 (n d : Nat) (a1 a2 a3 : Int32) (x : fn_M) : fn_ev 0 (n + 2000) (d + 1) 43 [.ref 31, .int a1, .int a2, .int a3] x =
  (if (x 31 3) = 5 then
    (if ((x 35 7) / 10000) = a1 then
      (fn_bv (fn_ev 0 (n + 2000) d 44 [.ref 31, .int (((x 35 7) / 100) - ((x 35 7) / 100) / 100 * 100), .int a2] x) (fun y1 =>
        (fn_bv (fn_ev 0 (n + 2000) d 44 [.ref 31, .int ((x 35 7) - (x 35 7) / 100 * 100), .int a3] y1) (fun y2 =>
        some (y2, none)))))
      else
      some (x, none))
    else
    some (x, none)) :=
  fn_ev_t (dd := fn_d43) (lo := [(0, .ref 31), (1, .int a1), (2, .int a2), (3, .int a3)]) (sp := []) rfl rfl rfl (fc_Node_takeSample_3 (fn_ev 0 (n + 2000) d) (fn_run 0 (fn_ev 0 (n + 2000) d) (fn_lk fn_d43)) (n + 1971) a1 a2 a3 x)
set_option maxRecDepth 20000 in
theorem fc_Node_takeSample_4 (cf : Nat → List Value → fn_M → Option fn_R) (K : Nat → fn_K) (m : Nat) (a1 a2 a3 : Int32) (x : fn_M) : fn_runc 0 cf (fn_lk fn_d43) [] K (m + 29) 0 [(0, .ref 32), (1, .int a1), (2, .int a2), (3, .int a3)] [] x =
  (if (x 32 3) = 5 then
    (if ((x 36 7) / 10000) = a1 then
      (fn_bv (cf 44 [.ref 32, .int (((x 36 7) / 100) - ((x 36 7) / 100) / 100 * 100), .int a2] x) (fun y1 =>
        (fn_bv (cf 44 [.ref 32, .int ((x 36 7) - (x 36 7) / 100 * 100), .int a3] y1) (fun y2 =>
        some (y2, none)))))
      else
      some (x, none))
    else
    some (x, none)) := rfl
theorem ft_Node_takeSample_4 (n d : Nat) (a1 a2 a3 : Int32) (x : fn_M) : fn_ev 0 (n + 2000) (d + 1) 43 [.ref 32, .int a1, .int a2, .int a3] x =
  (if (x 32 3) = 5 then
    (if ((x 36 7) / 10000) = a1 then
      (fn_bv (fn_ev 0 (n + 2000) d 44 [.ref 32, .int (((x 36 7) / 100) - ((x 36 7) / 100) / 100 * 100), .int a2] x) (fun y1 =>
        (fn_bv (fn_ev 0 (n + 2000) d 44 [.ref 32, .int ((x 36 7) - (x 36 7) / 100 * 100), .int a3] y1) (fun y2 =>
        some (y2, none)))))
      else
      some (x, none))
    else
    some (x, none)) :=
  fn_ev_t (dd := fn_d43) (lo := [(0, .ref 32), (1, .int a1), (2, .int a2), (3, .int a3)]) (sp := []) rfl rfl rfl (fc_Node_takeSample_4 (fn_ev 0 (n + 2000) d) (fn_run 0 (fn_ev 0 (n + 2000) d) (fn_lk fn_d43)) (n + 1971) a1 a2 a3 x)
set_option maxRecDepth 20000 in
theorem fc_Node_fillOutput_1 (cf : Nat → List Value → fn_M → Option fn_R) (K : Nat → fn_K) (m : Nat) (a1 a2 : Int32) (x : fn_M) : fn_runc 0 cf (fn_lk fn_d44) [] K (m + 9) 0 [(0, .ref 29), (1, .int a1), (2, .int a2)] [] x =
  (fn_bi (cf 83 [.int a1] x) (fun y1 v2 =>
    (if v2 = 0 then
    some (y1, none)
    else
    (if a1 < 0 ∨ 16 ≤ a1.toNatClampNeg then
      none
      else
      some ((fn_w y1 33 a1.toNatClampNeg a2), none))))) := rfl
theorem ft_Node_fillOutput_1 (n d : Nat) (a1 a2 : Int32) (x : fn_M) : fn_ev 0 (n + 2000) (d + 1) 44 [.ref 29, .int a1, .int a2] x =
  (fn_bi (fn_ev 0 (n + 2000) d 83 [.int a1] x) (fun y1 v2 =>
    (if v2 = 0 then
    some (y1, none)
    else
    (if a1 < 0 ∨ 16 ≤ a1.toNatClampNeg then
      none
      else
      some ((fn_w y1 33 a1.toNatClampNeg a2), none))))) :=
  fn_ev_t (dd := fn_d44) (lo := [(0, .ref 29), (1, .int a1), (2, .int a2)]) (sp := []) rfl rfl rfl (fc_Node_fillOutput_1 (fn_ev 0 (n + 2000) d) (fn_run 0 (fn_ev 0 (n + 2000) d) (fn_lk fn_d44)) (n + 1991) a1 a2 x)
set_option maxRecDepth 20000 in
theorem fc_Node_fillOutput_2 (cf : Nat → List Value → fn_M → Option fn_R) (K : Nat → fn_K) (m : Nat) (a1 a2 : Int32) (x : fn_M) : fn_runc 0 cf (fn_lk fn_d44) [] K (m + 9) 0 [(0, .ref 30), (1, .int a1), (2, .int a2)] [] x =
  (fn_bi (cf 83 [.int a1] x) (fun y1 v2 =>
    (if v2 = 0 then
    some (y1, none)
    else
    (if a1 < 0 ∨ 16 ≤ a1.toNatClampNeg then
      none
      else
      some ((fn_w y1 34 a1.toNatClampNeg a2), none))))) := rfl
theorem ft_Node_fillOutput_2 (n d : Nat) (a1 a2 : Int32) (x : fn_M) : fn_ev 0 (n + 2000) (d + 1) 44 [.ref 30, .int a1, .int a2] x =
  (fn_bi (fn_ev 0 (n + 2000) d 83 [.int a1] x) (fun y1 v2 =>
    (if v2 = 0 then
    some (y1, none)
    else
    (if a1 < 0 ∨ 16 ≤ a1.toNatClampNeg then
      none
      else
      some ((fn_w y1 34 a1.toNatClampNeg a2), none))))) :=
  fn_ev_t (dd := fn_d44) (lo := [(0, .ref 30), (1, .int a1), (2, .int a2)]) (sp := []) rfl rfl rfl (fc_Node_fillOutput_2 (fn_ev 0 (n + 2000) d) (fn_run 0 (fn_ev 0 (n + 2000) d) (fn_lk fn_d44)) (n + 1991) a1 a2 x)
set_option maxRecDepth 20000 in
theorem fc_Node_fillOutput_3 (cf : Nat → List Value → fn_M → Option fn_R) (K : Nat → fn_K) (m : Nat) (a1 a2 : Int32) (x : fn_M) : fn_runc 0 cf (fn_lk fn_d44) [] K (m + 9) 0 [(0, .ref 31), (1, .int a1), (2, .int a2)] [] x =
  (fn_bi (cf 83 [.int a1] x) (fun y1 v2 =>
    (if v2 = 0 then
    some (y1, none)
    else
    (if a1 < 0 ∨ 16 ≤ a1.toNatClampNeg then
      none
      else
      some ((fn_w y1 35 a1.toNatClampNeg a2), none))))) := rfl
theorem ft_Node_fillOutput_3 (n d : Nat) (a1 a2 : Int32) (x : fn_M) : fn_ev 0 (n + 2000) (d + 1) 44 [.ref 31, .int a1, .int a2] x =
  (fn_bi (fn_ev 0 (n + 2000) d 83 [.int a1] x) (fun y1 v2 =>
    (if v2 = 0 then
    some (y1, none)
    else
    (if a1 < 0 ∨ 16 ≤ a1.toNatClampNeg then
      none
      else
      some ((fn_w y1 35 a1.toNatClampNeg a2), none))))) :=
  fn_ev_t (dd := fn_d44) (lo := [(0, .ref 31), (1, .int a1), (2, .int a2)]) (sp := []) rfl rfl rfl (fc_Node_fillOutput_3 (fn_ev 0 (n + 2000) d) (fn_run 0 (fn_ev 0 (n + 2000) d) (fn_lk fn_d44)) (n + 1991) a1 a2 x)
set_option maxRecDepth 20000 in
theorem fc_Node_fillOutput_4 (cf : Nat → List Value → fn_M → Option fn_R) (K : Nat → fn_K) (m : Nat) (a1 a2 : Int32) (x : fn_M) : fn_runc 0 cf (fn_lk fn_d44) [] K (m + 9) 0 [(0, .ref 32), (1, .int a1), (2, .int a2)] [] x =
  (fn_bi (cf 83 [.int a1] x) (fun y1 v2 =>
    (if v2 = 0 then
    some (y1, none)
    else
    (if a1 < 0 ∨ 16 ≤ a1.toNatClampNeg then
      none
      else
      some ((fn_w y1 36 a1.toNatClampNeg a2), none))))) := rfl
theorem ft_Node_fillOutput_4 (n d : Nat) (a1 a2 : Int32) (x : fn_M) : fn_ev 0 (n + 2000) (d + 1) 44 [.ref 32, .int a1, .int a2] x =
  (fn_bi (fn_ev 0 (n + 2000) d 83 [.int a1] x) (fun y1 v2 =>
    (if v2 = 0 then
    some (y1, none)
    else
    (if a1 < 0 ∨ 16 ≤ a1.toNatClampNeg then
      none
      else
      some ((fn_w y1 36 a1.toNatClampNeg a2), none))))) :=
  fn_ev_t (dd := fn_d44) (lo := [(0, .ref 32), (1, .int a1), (2, .int a2)]) (sp := []) rfl rfl rfl (fc_Node_fillOutput_4 (fn_ev 0 (n + 2000) d) (fn_run 0 (fn_ev 0 (n + 2000) d) (fn_lk fn_d44)) (n + 1991) a1 a2 x)
set_option maxRecDepth 20000 in
theorem fc_Node_takeBeat_1 (cf : Nat → List Value → fn_M → Option fn_R) (K : Nat → fn_K) (m : Nat) (a1 a2 a3 : Int32) (x : fn_M) : fn_runc 0 cf (fn_lk fn_d45) [] K (m + 15) 0 [(0, .ref 29), (1, .int a1), (2, .int a2), (3, .int a3)] [] x =
  (if ((x 33 3) / 100) = a1 then
    (if a2 = 0 then
      some ((fn_w x 29 8 (-1)), none)
      else
      some ((fn_w x 29 8 a3), none))
    else
    some (x, none)) := rfl
theorem ft_Node_takeBeat_1 (n d : Nat) (a1 a2 a3 : Int32) (x : fn_M) : fn_ev 0 (n + 2000) (d + 1) 45 [.ref 29, .int a1, .int a2, .int a3] x =
  (if ((x 33 3) / 100) = a1 then
    (if a2 = 0 then
      some ((fn_w x 29 8 (-1)), none)
      else
      some ((fn_w x 29 8 a3), none))
    else
    some (x, none)) :=
  fn_ev_t (dd := fn_d45) (lo := [(0, .ref 29), (1, .int a1), (2, .int a2), (3, .int a3)]) (sp := []) rfl rfl rfl (fc_Node_takeBeat_1 (fn_ev 0 (n + 2000) d) (fn_run 0 (fn_ev 0 (n + 2000) d) (fn_lk fn_d45)) (n + 1985) a1 a2 a3 x)
set_option maxRecDepth 20000 in
theorem fc_Node_takeBeat_2 (cf : Nat → List Value → fn_M → Option fn_R) (K : Nat → fn_K) (m : Nat) (a1 a2 a3 : Int32) (x : fn_M) : fn_runc 0 cf (fn_lk fn_d45) [] K (m + 15) 0 [(0, .ref 30), (1, .int a1), (2, .int a2), (3, .int a3)] [] x =
  (if ((x 34 3) / 100) = a1 then
    (if a2 = 0 then
      some ((fn_w x 30 8 (-1)), none)
      else
      some ((fn_w x 30 8 a3), none))
    else
    some (x, none)) := rfl
theorem ft_Node_takeBeat_2 (n d : Nat) (a1 a2 a3 : Int32) (x : fn_M) : fn_ev 0 (n + 2000) (d + 1) 45 [.ref 30, .int a1, .int a2, .int a3] x =
  (if ((x 34 3) / 100) = a1 then
    (if a2 = 0 then
      some ((fn_w x 30 8 (-1)), none)
      else
      some ((fn_w x 30 8 a3), none))
    else
    some (x, none)) :=
  fn_ev_t (dd := fn_d45) (lo := [(0, .ref 30), (1, .int a1), (2, .int a2), (3, .int a3)]) (sp := []) rfl rfl rfl (fc_Node_takeBeat_2 (fn_ev 0 (n + 2000) d) (fn_run 0 (fn_ev 0 (n + 2000) d) (fn_lk fn_d45)) (n + 1985) a1 a2 a3 x)
set_option maxRecDepth 20000 in
theorem fc_Node_takeBeat_3 (cf : Nat → List Value → fn_M → Option fn_R) (K : Nat → fn_K) (m : Nat) (a1 a2 a3 : Int32) (x : fn_M) : fn_runc 0 cf (fn_lk fn_d45) [] K (m + 15) 0 [(0, .ref 31), (1, .int a1), (2, .int a2), (3, .int a3)] [] x =
  (if ((x 35 3) / 100) = a1 then
    (if a2 = 0 then
      some ((fn_w x 31 8 (-1)), none)
      else
      some ((fn_w x 31 8 a3), none))
    else
    some (x, none)) := rfl
theorem ft_Node_takeBeat_3 (n d : Nat) (a1 a2 a3 : Int32) (x : fn_M) : fn_ev 0 (n + 2000) (d + 1) 45 [.ref 31, .int a1, .int a2, .int a3] x =
  (if ((x 35 3) / 100) = a1 then
    (if a2 = 0 then
      some ((fn_w x 31 8 (-1)), none)
      else
      some ((fn_w x 31 8 a3), none))
    else
    some (x, none)) :=
  fn_ev_t (dd := fn_d45) (lo := [(0, .ref 31), (1, .int a1), (2, .int a2), (3, .int a3)]) (sp := []) rfl rfl rfl (fc_Node_takeBeat_3 (fn_ev 0 (n + 2000) d) (fn_run 0 (fn_ev 0 (n + 2000) d) (fn_lk fn_d45)) (n + 1985) a1 a2 a3 x)
set_option maxRecDepth 20000 in
theorem fc_Node_takeBeat_4 (cf : Nat → List Value → fn_M → Option fn_R) (K : Nat → fn_K) (m : Nat) (a1 a2 a3 : Int32) (x : fn_M) : fn_runc 0 cf (fn_lk fn_d45) [] K (m + 15) 0 [(0, .ref 32), (1, .int a1), (2, .int a2), (3, .int a3)] [] x =
  (if ((x 36 3) / 100) = a1 then
    (if a2 = 0 then
      some ((fn_w x 32 8 (-1)), none)
      else
      some ((fn_w x 32 8 a3), none))
    else
    some (x, none)) := rfl
theorem ft_Node_takeBeat_4 (n d : Nat) (a1 a2 a3 : Int32) (x : fn_M) : fn_ev 0 (n + 2000) (d + 1) 45 [.ref 32, .int a1, .int a2, .int a3] x =
  (if ((x 36 3) / 100) = a1 then
    (if a2 = 0 then
      some ((fn_w x 32 8 (-1)), none)
      else
      some ((fn_w x 32 8 a3), none))
    else
    some (x, none)) :=
  fn_ev_t (dd := fn_d45) (lo := [(0, .ref 32), (1, .int a1), (2, .int a2), (3, .int a3)]) (sp := []) rfl rfl rfl (fc_Node_takeBeat_4 (fn_ev 0 (n + 2000) d) (fn_run 0 (fn_ev 0 (n + 2000) d) (fn_lk fn_d45)) (n + 1985) a1 a2 a3 x)
set_option maxRecDepth 20000 in
theorem fc_Node_serve_1 (cf : Nat → List Value → fn_M → Option fn_R) (K : Nat → fn_K) (m : Nat) (p : Nat) (x : fn_M) : fn_runc 0 cf (fn_lk fn_d46) [] K (m + 36) 0 [(0, .ref 29), (1, .ref p), (2, .ref 1)] [] x =
  (if (x 29 3) = 4 then
    some (x, none)
    else
    (if fn_lc 0 p = 2 then
      (if (x p 2) = 1 then
        (if fn_lc 0 p = 2 then
          (if fn_lc 0 p = 2 then
            (fn_bi (cf 49 [.ref 29, .int (x p 3), .int (x p 4)] x) (fun y4 v5 =>
              (if v5 = 0 then
              (if fn_lc 0 p = 2 then
                (if fn_lc 0 p = 2 then
                  (fn_bv (cf 48 [.ref 29, .int (y4 p 3), .int (y4 p 4), .int (y4 1 6)] y4) (fun y8 =>
                    (if v5 = 0 then
                    (if fn_lc 0 p = 2 then
                      (fn_bv (cf 47 [.ref 29, .int 1, .int (y8 p 3), .int v5, .ref 1] y8) (fun y10 =>
                        some (y10, none)))
                      else
                      none)
                    else
                    (if fn_lc 0 p = 2 then
                      (fn_bv (cf 47 [.ref 29, .int 9, .int (y8 p 3), .int v5, .ref 1] y8) (fun y9 =>
                        some (y9, none)))
                      else
                      none))))
                  else
                  none)
                else
                none)
              else
              (if v5 = 0 then
                (if fn_lc 0 p = 2 then
                  (fn_bv (cf 47 [.ref 29, .int 1, .int (y4 p 3), .int v5, .ref 1] y4) (fun y7 =>
                    some (y7, none)))
                  else
                  none)
                else
                (if fn_lc 0 p = 2 then
                  (fn_bv (cf 47 [.ref 29, .int 9, .int (y4 p 3), .int v5, .ref 1] y4) (fun y6 =>
                    some (y6, none)))
                  else
                  none)))))
            else
            none)
          else
          none)
        else
        (if (x p 2) = 2 then
          (if fn_lc 0 p = 2 then
            (fn_bv (cf 52 [.ref 29, .int (x p 3), .ref 1] x) (fun y3 =>
              some (y3, none)))
            else
            none)
          else
          (if (x p 2) = 3 then
            (if fn_lc 0 p = 2 then
              (fn_bv (cf 53 [.ref 29, .int (x p 3), .ref 1] x) (fun y2 =>
                some (y2, none)))
              else
              none)
            else
            (if fn_lc 0 p = 2 then
              (fn_bv (cf 47 [.ref 29, .int 9, .int (x p 3), .int 6, .ref 1] x) (fun y1 =>
                some (y1, none)))
              else
              none))))
      else
      none)) := rfl
theorem ft_Node_serve_1 (n d : Nat) (p : Nat) (x : fn_M) : fn_ev 0 (n + 2000) (d + 1) 46 [.ref 29, .ref p, .ref 1] x =
  (if (x 29 3) = 4 then
    some (x, none)
    else
    (if fn_lc 0 p = 2 then
      (if (x p 2) = 1 then
        (if fn_lc 0 p = 2 then
          (if fn_lc 0 p = 2 then
            (fn_bi (fn_ev 0 (n + 2000) d 49 [.ref 29, .int (x p 3), .int (x p 4)] x) (fun y4 v5 =>
              (if v5 = 0 then
              (if fn_lc 0 p = 2 then
                (if fn_lc 0 p = 2 then
                  (fn_bv (fn_ev 0 (n + 2000) d 48 [.ref 29, .int (y4 p 3), .int (y4 p 4), .int (y4 1 6)] y4) (fun y8 =>
                    (if v5 = 0 then
                    (if fn_lc 0 p = 2 then
                      (fn_bv (fn_ev 0 (n + 2000) d 47 [.ref 29, .int 1, .int (y8 p 3), .int v5, .ref 1] y8) (fun y10 =>
                        some (y10, none)))
                      else
                      none)
                    else
                    (if fn_lc 0 p = 2 then
                      (fn_bv (fn_ev 0 (n + 2000) d 47 [.ref 29, .int 9, .int (y8 p 3), .int v5, .ref 1] y8) (fun y9 =>
                        some (y9, none)))
                      else
                      none))))
                  else
                  none)
                else
                none)
              else
              (if v5 = 0 then
                (if fn_lc 0 p = 2 then
                  (fn_bv (fn_ev 0 (n + 2000) d 47 [.ref 29, .int 1, .int (y4 p 3), .int v5, .ref 1] y4) (fun y7 =>
                    some (y7, none)))
                  else
                  none)
                else
                (if fn_lc 0 p = 2 then
                  (fn_bv (fn_ev 0 (n + 2000) d 47 [.ref 29, .int 9, .int (y4 p 3), .int v5, .ref 1] y4) (fun y6 =>
                    some (y6, none)))
                  else
                  none)))))
            else
            none)
          else
          none)
        else
        (if (x p 2) = 2 then
          (if fn_lc 0 p = 2 then
            (fn_bv (fn_ev 0 (n + 2000) d 52 [.ref 29, .int (x p 3), .ref 1] x) (fun y3 =>
              some (y3, none)))
            else
            none)
          else
          (if (x p 2) = 3 then
            (if fn_lc 0 p = 2 then
              (fn_bv (fn_ev 0 (n + 2000) d 53 [.ref 29, .int (x p 3), .ref 1] x) (fun y2 =>
                some (y2, none)))
              else
              none)
            else
            (if fn_lc 0 p = 2 then
              (fn_bv (fn_ev 0 (n + 2000) d 47 [.ref 29, .int 9, .int (x p 3), .int 6, .ref 1] x) (fun y1 =>
                some (y1, none)))
              else
              none))))
      else
      none)) :=
  fn_ev_t (dd := fn_d46) (lo := [(0, .ref 29), (1, .ref p), (2, .ref 1)]) (sp := []) rfl rfl rfl (fc_Node_serve_1 (fn_ev 0 (n + 2000) d) (fn_run 0 (fn_ev 0 (n + 2000) d) (fn_lk fn_d46)) (n + 1964) p x)
set_option maxRecDepth 20000 in
theorem fc_Node_serve_2 (cf : Nat → List Value → fn_M → Option fn_R) (K : Nat → fn_K) (m : Nat) (p : Nat) (x : fn_M) : fn_runc 0 cf (fn_lk fn_d46) [] K (m + 36) 0 [(0, .ref 30), (1, .ref p), (2, .ref 1)] [] x =
  (if (x 30 3) = 4 then
    some (x, none)
    else
    (if fn_lc 0 p = 2 then
      (if (x p 2) = 1 then
        (if fn_lc 0 p = 2 then
          (if fn_lc 0 p = 2 then
            (fn_bi (cf 49 [.ref 30, .int (x p 3), .int (x p 4)] x) (fun y4 v5 =>
              (if v5 = 0 then
              (if fn_lc 0 p = 2 then
                (if fn_lc 0 p = 2 then
                  (fn_bv (cf 48 [.ref 30, .int (y4 p 3), .int (y4 p 4), .int (y4 1 6)] y4) (fun y8 =>
                    (if v5 = 0 then
                    (if fn_lc 0 p = 2 then
                      (fn_bv (cf 47 [.ref 30, .int 1, .int (y8 p 3), .int v5, .ref 1] y8) (fun y10 =>
                        some (y10, none)))
                      else
                      none)
                    else
                    (if fn_lc 0 p = 2 then
                      (fn_bv (cf 47 [.ref 30, .int 9, .int (y8 p 3), .int v5, .ref 1] y8) (fun y9 =>
                        some (y9, none)))
                      else
                      none))))
                  else
                  none)
                else
                none)
              else
              (if v5 = 0 then
                (if fn_lc 0 p = 2 then
                  (fn_bv (cf 47 [.ref 30, .int 1, .int (y4 p 3), .int v5, .ref 1] y4) (fun y7 =>
                    some (y7, none)))
                  else
                  none)
                else
                (if fn_lc 0 p = 2 then
                  (fn_bv (cf 47 [.ref 30, .int 9, .int (y4 p 3), .int v5, .ref 1] y4) (fun y6 =>
                    some (y6, none)))
                  else
                  none)))))
            else
            none)
          else
          none)
        else
        (if (x p 2) = 2 then
          (if fn_lc 0 p = 2 then
            (fn_bv (cf 52 [.ref 30, .int (x p 3), .ref 1] x) (fun y3 =>
              some (y3, none)))
            else
            none)
          else
          (if (x p 2) = 3 then
            (if fn_lc 0 p = 2 then
              (fn_bv (cf 53 [.ref 30, .int (x p 3), .ref 1] x) (fun y2 =>
                some (y2, none)))
              else
              none)
            else
            (if fn_lc 0 p = 2 then
              (fn_bv (cf 47 [.ref 30, .int 9, .int (x p 3), .int 6, .ref 1] x) (fun y1 =>
                some (y1, none)))
              else
              none))))
      else
      none)) := rfl
theorem ft_Node_serve_2 (n d : Nat) (p : Nat) (x : fn_M) : fn_ev 0 (n + 2000) (d + 1) 46 [.ref 30, .ref p, .ref 1] x =
  (if (x 30 3) = 4 then
    some (x, none)
    else
    (if fn_lc 0 p = 2 then
      (if (x p 2) = 1 then
        (if fn_lc 0 p = 2 then
          (if fn_lc 0 p = 2 then
            (fn_bi (fn_ev 0 (n + 2000) d 49 [.ref 30, .int (x p 3), .int (x p 4)] x) (fun y4 v5 =>
              (if v5 = 0 then
              (if fn_lc 0 p = 2 then
                (if fn_lc 0 p = 2 then
                  (fn_bv (fn_ev 0 (n + 2000) d 48 [.ref 30, .int (y4 p 3), .int (y4 p 4), .int (y4 1 6)] y4) (fun y8 =>
                    (if v5 = 0 then
                    (if fn_lc 0 p = 2 then
                      (fn_bv (fn_ev 0 (n + 2000) d 47 [.ref 30, .int 1, .int (y8 p 3), .int v5, .ref 1] y8) (fun y10 =>
                        some (y10, none)))
                      else
                      none)
                    else
                    (if fn_lc 0 p = 2 then
                      (fn_bv (fn_ev 0 (n + 2000) d 47 [.ref 30, .int 9, .int (y8 p 3), .int v5, .ref 1] y8) (fun y9 =>
                        some (y9, none)))
                      else
                      none))))
                  else
                  none)
                else
                none)
              else
              (if v5 = 0 then
                (if fn_lc 0 p = 2 then
                  (fn_bv (fn_ev 0 (n + 2000) d 47 [.ref 30, .int 1, .int (y4 p 3), .int v5, .ref 1] y4) (fun y7 =>
                    some (y7, none)))
                  else
                  none)
                else
                (if fn_lc 0 p = 2 then
                  (fn_bv (fn_ev 0 (n + 2000) d 47 [.ref 30, .int 9, .int (y4 p 3), .int v5, .ref 1] y4) (fun y6 =>
                    some (y6, none)))
                  else
                  none)))))
            else
            none)
          else
          none)
        else
        (if (x p 2) = 2 then
          (if fn_lc 0 p = 2 then
            (fn_bv (fn_ev 0 (n + 2000) d 52 [.ref 30, .int (x p 3), .ref 1] x) (fun y3 =>
              some (y3, none)))
            else
            none)
          else
          (if (x p 2) = 3 then
            (if fn_lc 0 p = 2 then
              (fn_bv (fn_ev 0 (n + 2000) d 53 [.ref 30, .int (x p 3), .ref 1] x) (fun y2 =>
                some (y2, none)))
              else
              none)
            else
            (if fn_lc 0 p = 2 then
              (fn_bv (fn_ev 0 (n + 2000) d 47 [.ref 30, .int 9, .int (x p 3), .int 6, .ref 1] x) (fun y1 =>
                some (y1, none)))
              else
              none))))
      else
      none)) :=
  fn_ev_t (dd := fn_d46) (lo := [(0, .ref 30), (1, .ref p), (2, .ref 1)]) (sp := []) rfl rfl rfl (fc_Node_serve_2 (fn_ev 0 (n + 2000) d) (fn_run 0 (fn_ev 0 (n + 2000) d) (fn_lk fn_d46)) (n + 1964) p x)
set_option maxRecDepth 20000 in
theorem fc_Node_serve_3 (cf : Nat → List Value → fn_M → Option fn_R) (K : Nat → fn_K) (m : Nat) (p : Nat) (x : fn_M) : fn_runc 0 cf (fn_lk fn_d46) [] K (m + 36) 0 [(0, .ref 31), (1, .ref p), (2, .ref 1)] [] x =
  (if (x 31 3) = 4 then
    some (x, none)
    else
    (if fn_lc 0 p = 2 then
      (if (x p 2) = 1 then
        (if fn_lc 0 p = 2 then
          (if fn_lc 0 p = 2 then
            (fn_bi (cf 49 [.ref 31, .int (x p 3), .int (x p 4)] x) (fun y4 v5 =>
              (if v5 = 0 then
              (if fn_lc 0 p = 2 then
                (if fn_lc 0 p = 2 then
                  (fn_bv (cf 48 [.ref 31, .int (y4 p 3), .int (y4 p 4), .int (y4 1 6)] y4) (fun y8 =>
                    (if v5 = 0 then
                    (if fn_lc 0 p = 2 then
                      (fn_bv (cf 47 [.ref 31, .int 1, .int (y8 p 3), .int v5, .ref 1] y8) (fun y10 =>
                        some (y10, none)))
                      else
                      none)
                    else
                    (if fn_lc 0 p = 2 then
                      (fn_bv (cf 47 [.ref 31, .int 9, .int (y8 p 3), .int v5, .ref 1] y8) (fun y9 =>
                        some (y9, none)))
                      else
                      none))))
                  else
                  none)
                else
                none)
              else
              (if v5 = 0 then
                (if fn_lc 0 p = 2 then
                  (fn_bv (cf 47 [.ref 31, .int 1, .int (y4 p 3), .int v5, .ref 1] y4) (fun y7 =>
                    some (y7, none)))
                  else
                  none)
                else
                (if fn_lc 0 p = 2 then
                  (fn_bv (cf 47 [.ref 31, .int 9, .int (y4 p 3), .int v5, .ref 1] y4) (fun y6 =>
                    some (y6, none)))
                  else
                  none)))))
            else
            none)
          else
          none)
        else
        (if (x p 2) = 2 then
          (if fn_lc 0 p = 2 then
            (fn_bv (cf 52 [.ref 31, .int (x p 3), .ref 1] x) (fun y3 =>
              some (y3, none)))
            else
            none)
          else
          (if (x p 2) = 3 then
            (if fn_lc 0 p = 2 then
              (fn_bv (cf 53 [.ref 31, .int (x p 3), .ref 1] x) (fun y2 =>
                some (y2, none)))
              else
              none)
            else
            (if fn_lc 0 p = 2 then
              (fn_bv (cf 47 [.ref 31, .int 9, .int (x p 3), .int 6, .ref 1] x) (fun y1 =>
                some (y1, none)))
              else
              none))))
      else
      none)) := rfl
theorem ft_Node_serve_3 (n d : Nat) (p : Nat) (x : fn_M) : fn_ev 0 (n + 2000) (d + 1) 46 [.ref 31, .ref p, .ref 1] x =
  (if (x 31 3) = 4 then
    some (x, none)
    else
    (if fn_lc 0 p = 2 then
      (if (x p 2) = 1 then
        (if fn_lc 0 p = 2 then
          (if fn_lc 0 p = 2 then
            (fn_bi (fn_ev 0 (n + 2000) d 49 [.ref 31, .int (x p 3), .int (x p 4)] x) (fun y4 v5 =>
              (if v5 = 0 then
              (if fn_lc 0 p = 2 then
                (if fn_lc 0 p = 2 then
                  (fn_bv (fn_ev 0 (n + 2000) d 48 [.ref 31, .int (y4 p 3), .int (y4 p 4), .int (y4 1 6)] y4) (fun y8 =>
                    (if v5 = 0 then
                    (if fn_lc 0 p = 2 then
                      (fn_bv (fn_ev 0 (n + 2000) d 47 [.ref 31, .int 1, .int (y8 p 3), .int v5, .ref 1] y8) (fun y10 =>
                        some (y10, none)))
                      else
                      none)
                    else
                    (if fn_lc 0 p = 2 then
                      (fn_bv (fn_ev 0 (n + 2000) d 47 [.ref 31, .int 9, .int (y8 p 3), .int v5, .ref 1] y8) (fun y9 =>
                        some (y9, none)))
                      else
                      none))))
                  else
                  none)
                else
                none)
              else
              (if v5 = 0 then
                (if fn_lc 0 p = 2 then
                  (fn_bv (fn_ev 0 (n + 2000) d 47 [.ref 31, .int 1, .int (y4 p 3), .int v5, .ref 1] y4) (fun y7 =>
                    some (y7, none)))
                  else
                  none)
                else
                (if fn_lc 0 p = 2 then
                  (fn_bv (fn_ev 0 (n + 2000) d 47 [.ref 31, .int 9, .int (y4 p 3), .int v5, .ref 1] y4) (fun y6 =>
                    some (y6, none)))
                  else
                  none)))))
            else
            none)
          else
          none)
        else
        (if (x p 2) = 2 then
          (if fn_lc 0 p = 2 then
            (fn_bv (fn_ev 0 (n + 2000) d 52 [.ref 31, .int (x p 3), .ref 1] x) (fun y3 =>
              some (y3, none)))
            else
            none)
          else
          (if (x p 2) = 3 then
            (if fn_lc 0 p = 2 then
              (fn_bv (fn_ev 0 (n + 2000) d 53 [.ref 31, .int (x p 3), .ref 1] x) (fun y2 =>
                some (y2, none)))
              else
              none)
            else
            (if fn_lc 0 p = 2 then
              (fn_bv (fn_ev 0 (n + 2000) d 47 [.ref 31, .int 9, .int (x p 3), .int 6, .ref 1] x) (fun y1 =>
                some (y1, none)))
              else
              none))))
      else
      none)) :=
  fn_ev_t (dd := fn_d46) (lo := [(0, .ref 31), (1, .ref p), (2, .ref 1)]) (sp := []) rfl rfl rfl (fc_Node_serve_3 (fn_ev 0 (n + 2000) d) (fn_run 0 (fn_ev 0 (n + 2000) d) (fn_lk fn_d46)) (n + 1964) p x)
set_option maxRecDepth 20000 in
theorem fc_Node_serve_4 (cf : Nat → List Value → fn_M → Option fn_R) (K : Nat → fn_K) (m : Nat) (p : Nat) (x : fn_M) : fn_runc 0 cf (fn_lk fn_d46) [] K (m + 36) 0 [(0, .ref 32), (1, .ref p), (2, .ref 1)] [] x =
  (if (x 32 3) = 4 then
    some (x, none)
    else
    (if fn_lc 0 p = 2 then
      (if (x p 2) = 1 then
        (if fn_lc 0 p = 2 then
          (if fn_lc 0 p = 2 then
            (fn_bi (cf 49 [.ref 32, .int (x p 3), .int (x p 4)] x) (fun y4 v5 =>
              (if v5 = 0 then
              (if fn_lc 0 p = 2 then
                (if fn_lc 0 p = 2 then
                  (fn_bv (cf 48 [.ref 32, .int (y4 p 3), .int (y4 p 4), .int (y4 1 6)] y4) (fun y8 =>
                    (if v5 = 0 then
                    (if fn_lc 0 p = 2 then
                      (fn_bv (cf 47 [.ref 32, .int 1, .int (y8 p 3), .int v5, .ref 1] y8) (fun y10 =>
                        some (y10, none)))
                      else
                      none)
                    else
                    (if fn_lc 0 p = 2 then
                      (fn_bv (cf 47 [.ref 32, .int 9, .int (y8 p 3), .int v5, .ref 1] y8) (fun y9 =>
                        some (y9, none)))
                      else
                      none))))
                  else
                  none)
                else
                none)
              else
              (if v5 = 0 then
                (if fn_lc 0 p = 2 then
                  (fn_bv (cf 47 [.ref 32, .int 1, .int (y4 p 3), .int v5, .ref 1] y4) (fun y7 =>
                    some (y7, none)))
                  else
                  none)
                else
                (if fn_lc 0 p = 2 then
                  (fn_bv (cf 47 [.ref 32, .int 9, .int (y4 p 3), .int v5, .ref 1] y4) (fun y6 =>
                    some (y6, none)))
                  else
                  none)))))
            else
            none)
          else
          none)
        else
        (if (x p 2) = 2 then
          (if fn_lc 0 p = 2 then
            (fn_bv (cf 52 [.ref 32, .int (x p 3), .ref 1] x) (fun y3 =>
              some (y3, none)))
            else
            none)
          else
          (if (x p 2) = 3 then
            (if fn_lc 0 p = 2 then
              (fn_bv (cf 53 [.ref 32, .int (x p 3), .ref 1] x) (fun y2 =>
                some (y2, none)))
              else
              none)
            else
            (if fn_lc 0 p = 2 then
              (fn_bv (cf 47 [.ref 32, .int 9, .int (x p 3), .int 6, .ref 1] x) (fun y1 =>
                some (y1, none)))
              else
              none))))
      else
      none)) := rfl
theorem ft_Node_serve_4 (n d : Nat) (p : Nat) (x : fn_M) : fn_ev 0 (n + 2000) (d + 1) 46 [.ref 32, .ref p, .ref 1] x =
  (if (x 32 3) = 4 then
    some (x, none)
    else
    (if fn_lc 0 p = 2 then
      (if (x p 2) = 1 then
        (if fn_lc 0 p = 2 then
          (if fn_lc 0 p = 2 then
            (fn_bi (fn_ev 0 (n + 2000) d 49 [.ref 32, .int (x p 3), .int (x p 4)] x) (fun y4 v5 =>
              (if v5 = 0 then
              (if fn_lc 0 p = 2 then
                (if fn_lc 0 p = 2 then
                  (fn_bv (fn_ev 0 (n + 2000) d 48 [.ref 32, .int (y4 p 3), .int (y4 p 4), .int (y4 1 6)] y4) (fun y8 =>
                    (if v5 = 0 then
                    (if fn_lc 0 p = 2 then
                      (fn_bv (fn_ev 0 (n + 2000) d 47 [.ref 32, .int 1, .int (y8 p 3), .int v5, .ref 1] y8) (fun y10 =>
                        some (y10, none)))
                      else
                      none)
                    else
                    (if fn_lc 0 p = 2 then
                      (fn_bv (fn_ev 0 (n + 2000) d 47 [.ref 32, .int 9, .int (y8 p 3), .int v5, .ref 1] y8) (fun y9 =>
                        some (y9, none)))
                      else
                      none))))
                  else
                  none)
                else
                none)
              else
              (if v5 = 0 then
                (if fn_lc 0 p = 2 then
                  (fn_bv (fn_ev 0 (n + 2000) d 47 [.ref 32, .int 1, .int (y4 p 3), .int v5, .ref 1] y4) (fun y7 =>
                    some (y7, none)))
                  else
                  none)
                else
                (if fn_lc 0 p = 2 then
                  (fn_bv (fn_ev 0 (n + 2000) d 47 [.ref 32, .int 9, .int (y4 p 3), .int v5, .ref 1] y4) (fun y6 =>
                    some (y6, none)))
                  else
                  none)))))
            else
            none)
          else
          none)
        else
        (if (x p 2) = 2 then
          (if fn_lc 0 p = 2 then
            (fn_bv (fn_ev 0 (n + 2000) d 52 [.ref 32, .int (x p 3), .ref 1] x) (fun y3 =>
              some (y3, none)))
            else
            none)
          else
          (if (x p 2) = 3 then
            (if fn_lc 0 p = 2 then
              (fn_bv (fn_ev 0 (n + 2000) d 53 [.ref 32, .int (x p 3), .ref 1] x) (fun y2 =>
                some (y2, none)))
              else
              none)
            else
            (if fn_lc 0 p = 2 then
              (fn_bv (fn_ev 0 (n + 2000) d 47 [.ref 32, .int 9, .int (x p 3), .int 6, .ref 1] x) (fun y1 =>
                some (y1, none)))
              else
              none))))
      else
      none)) :=
  fn_ev_t (dd := fn_d46) (lo := [(0, .ref 32), (1, .ref p), (2, .ref 1)]) (sp := []) rfl rfl rfl (fc_Node_serve_4 (fn_ev 0 (n + 2000) d) (fn_run 0 (fn_ev 0 (n + 2000) d) (fn_lk fn_d46)) (n + 1964) p x)
set_option maxRecDepth 20000 in
theorem fc_Node_answer_1 (cf : Nat → List Value → fn_M → Option fn_R) (K : Nat → fn_K) (m : Nat) (a1 a2 a3 : Int32) (x : fn_M) : fn_runc 0 cf (fn_lk fn_d47) [] K (m + 12) 0 [(0, .ref 29), (1, .int a1), (2, .int a2), (3, .int a3), (4, .ref 1)] [] x =
  (fn_bv (cf 55 [.ref 1, .int (x 29 0), .int (1408 + (x 29 0)), .int a1, .int a2, .int a3] x) (fun y1 =>
    some (y1, none))) := rfl
theorem ft_Node_answer_1 (n d : Nat) (a1 a2 a3 : Int32) (x : fn_M) : fn_ev 0 (n + 2000) (d + 1) 47 [.ref 29, .int a1, .int a2, .int a3, .ref 1] x =
  (fn_bv (fn_ev 0 (n + 2000) d 55 [.ref 1, .int (x 29 0), .int (1408 + (x 29 0)), .int a1, .int a2, .int a3] x) (fun y1 =>
    some (y1, none))) :=
  fn_ev_t (dd := fn_d47) (lo := [(0, .ref 29), (1, .int a1), (2, .int a2), (3, .int a3), (4, .ref 1)]) (sp := []) rfl rfl rfl (fc_Node_answer_1 (fn_ev 0 (n + 2000) d) (fn_run 0 (fn_ev 0 (n + 2000) d) (fn_lk fn_d47)) (n + 1988) a1 a2 a3 x)
set_option maxRecDepth 20000 in
theorem fc_Node_answer_2 (cf : Nat → List Value → fn_M → Option fn_R) (K : Nat → fn_K) (m : Nat) (a1 a2 a3 : Int32) (x : fn_M) : fn_runc 0 cf (fn_lk fn_d47) [] K (m + 12) 0 [(0, .ref 30), (1, .int a1), (2, .int a2), (3, .int a3), (4, .ref 1)] [] x =
  (fn_bv (cf 55 [.ref 1, .int (x 30 0), .int (1408 + (x 30 0)), .int a1, .int a2, .int a3] x) (fun y1 =>
    some (y1, none))) := rfl
theorem ft_Node_answer_2 (n d : Nat) (a1 a2 a3 : Int32) (x : fn_M) : fn_ev 0 (n + 2000) (d + 1) 47 [.ref 30, .int a1, .int a2, .int a3, .ref 1] x =
  (fn_bv (fn_ev 0 (n + 2000) d 55 [.ref 1, .int (x 30 0), .int (1408 + (x 30 0)), .int a1, .int a2, .int a3] x) (fun y1 =>
    some (y1, none))) :=
  fn_ev_t (dd := fn_d47) (lo := [(0, .ref 30), (1, .int a1), (2, .int a2), (3, .int a3), (4, .ref 1)]) (sp := []) rfl rfl rfl (fc_Node_answer_2 (fn_ev 0 (n + 2000) d) (fn_run 0 (fn_ev 0 (n + 2000) d) (fn_lk fn_d47)) (n + 1988) a1 a2 a3 x)
set_option maxRecDepth 20000 in
theorem fc_Node_answer_3 (cf : Nat → List Value → fn_M → Option fn_R) (K : Nat → fn_K) (m : Nat) (a1 a2 a3 : Int32) (x : fn_M) : fn_runc 0 cf (fn_lk fn_d47) [] K (m + 12) 0 [(0, .ref 31), (1, .int a1), (2, .int a2), (3, .int a3), (4, .ref 1)] [] x =
  (fn_bv (cf 55 [.ref 1, .int (x 31 0), .int (1408 + (x 31 0)), .int a1, .int a2, .int a3] x) (fun y1 =>
    some (y1, none))) := rfl
theorem ft_Node_answer_3 (n d : Nat) (a1 a2 a3 : Int32) (x : fn_M) : fn_ev 0 (n + 2000) (d + 1) 47 [.ref 31, .int a1, .int a2, .int a3, .ref 1] x =
  (fn_bv (fn_ev 0 (n + 2000) d 55 [.ref 1, .int (x 31 0), .int (1408 + (x 31 0)), .int a1, .int a2, .int a3] x) (fun y1 =>
    some (y1, none))) :=
  fn_ev_t (dd := fn_d47) (lo := [(0, .ref 31), (1, .int a1), (2, .int a2), (3, .int a3), (4, .ref 1)]) (sp := []) rfl rfl rfl (fc_Node_answer_3 (fn_ev 0 (n + 2000) d) (fn_run 0 (fn_ev 0 (n + 2000) d) (fn_lk fn_d47)) (n + 1988) a1 a2 a3 x)
set_option maxRecDepth 20000 in
theorem fc_Node_answer_4 (cf : Nat → List Value → fn_M → Option fn_R) (K : Nat → fn_K) (m : Nat) (a1 a2 a3 : Int32) (x : fn_M) : fn_runc 0 cf (fn_lk fn_d47) [] K (m + 12) 0 [(0, .ref 32), (1, .int a1), (2, .int a2), (3, .int a3), (4, .ref 1)] [] x =
  (fn_bv (cf 55 [.ref 1, .int (x 32 0), .int (1408 + (x 32 0)), .int a1, .int a2, .int a3] x) (fun y1 =>
    some (y1, none))) := rfl
theorem ft_Node_answer_4 (n d : Nat) (a1 a2 a3 : Int32) (x : fn_M) : fn_ev 0 (n + 2000) (d + 1) 47 [.ref 32, .int a1, .int a2, .int a3, .ref 1] x =
  (fn_bv (fn_ev 0 (n + 2000) d 55 [.ref 1, .int (x 32 0), .int (1408 + (x 32 0)), .int a1, .int a2, .int a3] x) (fun y1 =>
    some (y1, none))) :=
  fn_ev_t (dd := fn_d47) (lo := [(0, .ref 32), (1, .int a1), (2, .int a2), (3, .int a3), (4, .ref 1)]) (sp := []) rfl rfl rfl (fc_Node_answer_4 (fn_ev 0 (n + 2000) d) (fn_run 0 (fn_ev 0 (n + 2000) d) (fn_lk fn_d47)) (n + 1988) a1 a2 a3 x)
set_option maxRecDepth 20000 in
theorem fc_Node_store_1 (cf : Nat → List Value → fn_M → Option fn_R) (K : Nat → fn_K) (m : Nat) (a1 a2 a3 : Int32) (x : fn_M) : fn_runc 0 cf (fn_lk fn_d48) [] K (m + 18) 0 [(0, .ref 29), (1, .int a1), (2, .int a2), (3, .int a3)] [] x =
  (if a1 < 0 ∨ 16 ≤ a1.toNatClampNeg then
    none
    else
    (if a1 = 2 then
      some ((fn_w (fn_w x 33 a1.toNatClampNeg a2) 29 4 a3), none)
      else
      (if a1 = 3 then
        some ((fn_w (fn_w x 33 a1.toNatClampNeg a2) 29 8 (-1)), none)
        else
        (if a1 = 4 then
          some ((fn_w (fn_w x 33 a1.toNatClampNeg a2) 29 7 0), none)
          else
          some ((fn_w x 33 a1.toNatClampNeg a2), none))))) := rfl
theorem ft_Node_store_1 (n d : Nat) (a1 a2 a3 : Int32) (x : fn_M) : fn_ev 0 (n + 2000) (d + 1) 48 [.ref 29, .int a1, .int a2, .int a3] x =
  (if a1 < 0 ∨ 16 ≤ a1.toNatClampNeg then
    none
    else
    (if a1 = 2 then
      some ((fn_w (fn_w x 33 a1.toNatClampNeg a2) 29 4 a3), none)
      else
      (if a1 = 3 then
        some ((fn_w (fn_w x 33 a1.toNatClampNeg a2) 29 8 (-1)), none)
        else
        (if a1 = 4 then
          some ((fn_w (fn_w x 33 a1.toNatClampNeg a2) 29 7 0), none)
          else
          some ((fn_w x 33 a1.toNatClampNeg a2), none))))) :=
  fn_ev_t (dd := fn_d48) (lo := [(0, .ref 29), (1, .int a1), (2, .int a2), (3, .int a3)]) (sp := []) rfl rfl rfl (fc_Node_store_1 (fn_ev 0 (n + 2000) d) (fn_run 0 (fn_ev 0 (n + 2000) d) (fn_lk fn_d48)) (n + 1982) a1 a2 a3 x)
set_option maxRecDepth 20000 in
theorem fc_Node_store_2 (cf : Nat → List Value → fn_M → Option fn_R) (K : Nat → fn_K) (m : Nat) (a1 a2 a3 : Int32) (x : fn_M) : fn_runc 0 cf (fn_lk fn_d48) [] K (m + 18) 0 [(0, .ref 30), (1, .int a1), (2, .int a2), (3, .int a3)] [] x =
  (if a1 < 0 ∨ 16 ≤ a1.toNatClampNeg then
    none
    else
    (if a1 = 2 then
      some ((fn_w (fn_w x 34 a1.toNatClampNeg a2) 30 4 a3), none)
      else
      (if a1 = 3 then
        some ((fn_w (fn_w x 34 a1.toNatClampNeg a2) 30 8 (-1)), none)
        else
        (if a1 = 4 then
          some ((fn_w (fn_w x 34 a1.toNatClampNeg a2) 30 7 0), none)
          else
          some ((fn_w x 34 a1.toNatClampNeg a2), none))))) := rfl
theorem ft_Node_store_2 (n d : Nat) (a1 a2 a3 : Int32) (x : fn_M) : fn_ev 0 (n + 2000) (d + 1) 48 [.ref 30, .int a1, .int a2, .int a3] x =
  (if a1 < 0 ∨ 16 ≤ a1.toNatClampNeg then
    none
    else
    (if a1 = 2 then
      some ((fn_w (fn_w x 34 a1.toNatClampNeg a2) 30 4 a3), none)
      else
      (if a1 = 3 then
        some ((fn_w (fn_w x 34 a1.toNatClampNeg a2) 30 8 (-1)), none)
        else
        (if a1 = 4 then
          some ((fn_w (fn_w x 34 a1.toNatClampNeg a2) 30 7 0), none)
          else
          some ((fn_w x 34 a1.toNatClampNeg a2), none))))) :=
  fn_ev_t (dd := fn_d48) (lo := [(0, .ref 30), (1, .int a1), (2, .int a2), (3, .int a3)]) (sp := []) rfl rfl rfl (fc_Node_store_2 (fn_ev 0 (n + 2000) d) (fn_run 0 (fn_ev 0 (n + 2000) d) (fn_lk fn_d48)) (n + 1982) a1 a2 a3 x)
set_option maxRecDepth 20000 in
theorem fc_Node_store_3 (cf : Nat → List Value → fn_M → Option fn_R) (K : Nat → fn_K) (m : Nat) (a1 a2 a3 : Int32) (x : fn_M) : fn_runc 0 cf (fn_lk fn_d48) [] K (m + 18) 0 [(0, .ref 31), (1, .int a1), (2, .int a2), (3, .int a3)] [] x =
  (if a1 < 0 ∨ 16 ≤ a1.toNatClampNeg then
    none
    else
    (if a1 = 2 then
      some ((fn_w (fn_w x 35 a1.toNatClampNeg a2) 31 4 a3), none)
      else
      (if a1 = 3 then
        some ((fn_w (fn_w x 35 a1.toNatClampNeg a2) 31 8 (-1)), none)
        else
        (if a1 = 4 then
          some ((fn_w (fn_w x 35 a1.toNatClampNeg a2) 31 7 0), none)
          else
          some ((fn_w x 35 a1.toNatClampNeg a2), none))))) := rfl
theorem ft_Node_store_3 (n d : Nat) (a1 a2 a3 : Int32) (x : fn_M) : fn_ev 0 (n + 2000) (d + 1) 48 [.ref 31, .int a1, .int a2, .int a3] x =
  (if a1 < 0 ∨ 16 ≤ a1.toNatClampNeg then
    none
    else
    (if a1 = 2 then
      some ((fn_w (fn_w x 35 a1.toNatClampNeg a2) 31 4 a3), none)
      else
      (if a1 = 3 then
        some ((fn_w (fn_w x 35 a1.toNatClampNeg a2) 31 8 (-1)), none)
        else
        (if a1 = 4 then
          some ((fn_w (fn_w x 35 a1.toNatClampNeg a2) 31 7 0), none)
          else
          some ((fn_w x 35 a1.toNatClampNeg a2), none))))) :=
  fn_ev_t (dd := fn_d48) (lo := [(0, .ref 31), (1, .int a1), (2, .int a2), (3, .int a3)]) (sp := []) rfl rfl rfl (fc_Node_store_3 (fn_ev 0 (n + 2000) d) (fn_run 0 (fn_ev 0 (n + 2000) d) (fn_lk fn_d48)) (n + 1982) a1 a2 a3 x)
set_option maxRecDepth 20000 in
theorem fc_Node_store_4 (cf : Nat → List Value → fn_M → Option fn_R) (K : Nat → fn_K) (m : Nat) (a1 a2 a3 : Int32) (x : fn_M) : fn_runc 0 cf (fn_lk fn_d48) [] K (m + 18) 0 [(0, .ref 32), (1, .int a1), (2, .int a2), (3, .int a3)] [] x =
  (if a1 < 0 ∨ 16 ≤ a1.toNatClampNeg then
    none
    else
    (if a1 = 2 then
      some ((fn_w (fn_w x 36 a1.toNatClampNeg a2) 32 4 a3), none)
      else
      (if a1 = 3 then
        some ((fn_w (fn_w x 36 a1.toNatClampNeg a2) 32 8 (-1)), none)
        else
        (if a1 = 4 then
          some ((fn_w (fn_w x 36 a1.toNatClampNeg a2) 32 7 0), none)
          else
          some ((fn_w x 36 a1.toNatClampNeg a2), none))))) := rfl
theorem ft_Node_store_4 (n d : Nat) (a1 a2 a3 : Int32) (x : fn_M) : fn_ev 0 (n + 2000) (d + 1) 48 [.ref 32, .int a1, .int a2, .int a3] x =
  (if a1 < 0 ∨ 16 ≤ a1.toNatClampNeg then
    none
    else
    (if a1 = 2 then
      some ((fn_w (fn_w x 36 a1.toNatClampNeg a2) 32 4 a3), none)
      else
      (if a1 = 3 then
        some ((fn_w (fn_w x 36 a1.toNatClampNeg a2) 32 8 (-1)), none)
        else
        (if a1 = 4 then
          some ((fn_w (fn_w x 36 a1.toNatClampNeg a2) 32 7 0), none)
          else
          some ((fn_w x 36 a1.toNatClampNeg a2), none))))) :=
  fn_ev_t (dd := fn_d48) (lo := [(0, .ref 32), (1, .int a1), (2, .int a2), (3, .int a3)]) (sp := []) rfl rfl rfl (fc_Node_store_4 (fn_ev 0 (n + 2000) d) (fn_run 0 (fn_ev 0 (n + 2000) d) (fn_lk fn_d48)) (n + 1982) a1 a2 a3 x)
set_option maxRecDepth 20000 in
theorem fc_Node_codeOfWrite_1 (cf : Nat → List Value → fn_M → Option fn_R) (K : Nat → fn_K) (m : Nat) (a1 a2 : Int32) (x : fn_M) : fn_runc 0 cf (fn_lk fn_d49) [31, 59, 81] K (m + 39) 0 [(0, .ref 29), (1, .int a1), (2, .int a2)] [] x =
  (fn_bi (cf 80 [.int a1, .int 0, .int 16] x) (fun y1 v2 =>
    (if v2 = 0 then
    some (y1, some (.int 1))
    else
    (fn_bi (cf 80 [.int a1, .int 2, .int 7] y1) (fun y3 v4 =>
      (if v4 = 0 then
      (fn_bi (cf 83 [.int a1] y3) (fun y5 v6 =>
        (if v6 = 0 then
        some (y5, some (.int 2))
        else
        K (m + 26) 31 [(0, .ref 29), (1, .int a1), (2, .int a2)] [] y5)))
      else
      K (m + 29) 31 [(0, .ref 29), (1, .int a1), (2, .int a2)] [] y3)))))) := rfl
theorem ft_Node_codeOfWrite_1 (n d : Nat) (a1 a2 : Int32) (x : fn_M) : fn_ev 0 (n + 2000) (d + 1) 49 [.ref 29, .int a1, .int a2] x =
  (fn_bi (fn_ev 0 (n + 2000) d 80 [.int a1, .int 0, .int 16] x) (fun y1 v2 =>
    (if v2 = 0 then
    some (y1, some (.int 1))
    else
    (fn_bi (fn_ev 0 (n + 2000) d 80 [.int a1, .int 2, .int 7] y1) (fun y3 v4 =>
      (if v4 = 0 then
      (fn_bi (fn_ev 0 (n + 2000) d 83 [.int a1] y3) (fun y5 v6 =>
        (if v6 = 0 then
        some (y5, some (.int 2))
        else
        fn_run 0 (fn_ev 0 (n + 2000) d) (fn_lk fn_d49) (n + 1987) 31 [(0, .ref 29), (1, .int a1), (2, .int a2)] [] y5)))
      else
      fn_run 0 (fn_ev 0 (n + 2000) d) (fn_lk fn_d49) (n + 1990) 31 [(0, .ref 29), (1, .int a1), (2, .int a2)] [] y3)))))) :=
  fn_ev_t (dd := fn_d49) (lo := [(0, .ref 29), (1, .int a1), (2, .int a2)]) (sp := [31, 59, 81]) rfl rfl rfl (fc_Node_codeOfWrite_1 (fn_ev 0 (n + 2000) d) (fn_run 0 (fn_ev 0 (n + 2000) d) (fn_lk fn_d49)) (n + 1961) a1 a2 x)
set_option maxRecDepth 20000 in
theorem fc_Node_codeOfWrite_1_at31 (cf : Nat → List Value → fn_M → Option fn_R) (K : Nat → fn_K) (m : Nat) (l1 l2 : Int32) (x : fn_M) : fn_runc 0 cf (fn_lk fn_d49) [31, 59, 81] K (m + 26) 31 [(0, .ref 29), (1, .int l1), (2, .int l2)] [] x =
  (fn_bi (cf 50 [.ref 29, .int l1, .int l2] x) (fun y1 v2 =>
    (if v2 = 0 then
    some (y1, some (.int 3))
    else
    (if l1 = 4 then
      K (m + 18) 59 [(0, .ref 29), (1, .int l1), (2, .int l2)] [] y1
      else
      (if l1 = 6 then
        K (m + 15) 59 [(0, .ref 29), (1, .int l1), (2, .int l2)] [] y1
        else
        (if l1 = 7 then
          K (m + 12) 59 [(0, .ref 29), (1, .int l1), (2, .int l2)] [] y1
          else
          K (m + 8) 81 [(0, .ref 29), (1, .int l1), (2, .int l2), (3, .int 0)] [] y1)))))) := rfl
theorem ft_Node_codeOfWrite_1_at31 (n d m : Nat) (l1 l2 : Int32) (x : fn_M) : fn_run 0 (fn_ev 0 (n + 2000) d) (fn_lk fn_d49) (m + 26) 31 [(0, .ref 29), (1, .int l1), (2, .int l2)] [] x =
  (fn_bi (fn_ev 0 (n + 2000) d 50 [.ref 29, .int l1, .int l2] x) (fun y1 v2 =>
    (if v2 = 0 then
    some (y1, some (.int 3))
    else
    (if l1 = 4 then
      fn_run 0 (fn_ev 0 (n + 2000) d) (fn_lk fn_d49) (m + 18) 59 [(0, .ref 29), (1, .int l1), (2, .int l2)] [] y1
      else
      (if l1 = 6 then
        fn_run 0 (fn_ev 0 (n + 2000) d) (fn_lk fn_d49) (m + 15) 59 [(0, .ref 29), (1, .int l1), (2, .int l2)] [] y1
        else
        (if l1 = 7 then
          fn_run 0 (fn_ev 0 (n + 2000) d) (fn_lk fn_d49) (m + 12) 59 [(0, .ref 29), (1, .int l1), (2, .int l2)] [] y1
          else
          fn_run 0 (fn_ev 0 (n + 2000) d) (fn_lk fn_d49) (m + 8) 81 [(0, .ref 29), (1, .int l1), (2, .int l2), (3, .int 0)] [] y1)))))) :=
  (fn_runc_eq 0 (fn_ev 0 (n + 2000) d) (fn_lk fn_d49) [31, 59, 81] (m + 26) 31 [(0, .ref 29), (1, .int l1), (2, .int l2)] [] x).trans (fc_Node_codeOfWrite_1_at31 (fn_ev 0 (n + 2000) d) (fn_run 0 (fn_ev 0 (n + 2000) d) (fn_lk fn_d49)) m l1 l2 x)
set_option maxRecDepth 20000 in
theorem fc_Node_codeOfWrite_1_at59 (cf : Nat → List Value → fn_M → Option fn_R) (K : Nat → fn_K) (m : Nat) (l1 l2 : Int32) (x : fn_M) : fn_runc 0 cf (fn_lk fn_d49) [31, 59, 81] K (m + 12) 59 [(0, .ref 29), (1, .int l1), (2, .int l2)] [] x =
  (if (x 29 3) = 5 then
    some (x, some (.int 4))
    else
    K (m + 3) 81 [(0, .ref 29), (1, .int l1), (2, .int l2), (3, .int 1)] [] x) := rfl
theorem ft_Node_codeOfWrite_1_at59 (n d m : Nat) (l1 l2 : Int32) (x : fn_M) : fn_run 0 (fn_ev 0 (n + 2000) d) (fn_lk fn_d49) (m + 12) 59 [(0, .ref 29), (1, .int l1), (2, .int l2)] [] x =
  (if (x 29 3) = 5 then
    some (x, some (.int 4))
    else
    fn_run 0 (fn_ev 0 (n + 2000) d) (fn_lk fn_d49) (m + 3) 81 [(0, .ref 29), (1, .int l1), (2, .int l2), (3, .int 1)] [] x) :=
  (fn_runc_eq 0 (fn_ev 0 (n + 2000) d) (fn_lk fn_d49) [31, 59, 81] (m + 12) 59 [(0, .ref 29), (1, .int l1), (2, .int l2)] [] x).trans (fc_Node_codeOfWrite_1_at59 (fn_ev 0 (n + 2000) d) (fn_run 0 (fn_ev 0 (n + 2000) d) (fn_lk fn_d49)) m l1 l2 x)
set_option maxRecDepth 20000 in
theorem fc_Node_codeOfWrite_1_at81_0 (cf : Nat → List Value → fn_M → Option fn_R) (K : Nat → fn_K) (m : Nat) (l1 l2 : Int32) (x : fn_M) : fn_runc 0 cf (fn_lk fn_d49) [31, 59, 81] K (m + 2) 81 [(0, .ref 29), (1, .int l1), (2, .int l2), (3, .int 0)] [] x =
  some (x, some (.int 0)) := rfl
theorem ft_Node_codeOfWrite_1_at81_0 (n d m : Nat) (l1 l2 : Int32) (x : fn_M) : fn_run 0 (fn_ev 0 (n + 2000) d) (fn_lk fn_d49) (m + 2) 81 [(0, .ref 29), (1, .int l1), (2, .int l2), (3, .int 0)] [] x =
  some (x, some (.int 0)) :=
  (fn_runc_eq 0 (fn_ev 0 (n + 2000) d) (fn_lk fn_d49) [31, 59, 81] (m + 2) 81 [(0, .ref 29), (1, .int l1), (2, .int l2), (3, .int 0)] [] x).trans (fc_Node_codeOfWrite_1_at81_0 (fn_ev 0 (n + 2000) d) (fn_run 0 (fn_ev 0 (n + 2000) d) (fn_lk fn_d49)) m l1 l2 x)
set_option maxRecDepth 20000 in
theorem fc_Node_codeOfWrite_1_at81_1 (cf : Nat → List Value → fn_M → Option fn_R) (K : Nat → fn_K) (m : Nat) (l1 l2 : Int32) (x : fn_M) : fn_runc 0 cf (fn_lk fn_d49) [31, 59, 81] K (m + 2) 81 [(0, .ref 29), (1, .int l1), (2, .int l2), (3, .int 1)] [] x =
  some (x, some (.int 0)) := rfl
theorem ft_Node_codeOfWrite_1_at81_1 (n d m : Nat) (l1 l2 : Int32) (x : fn_M) : fn_run 0 (fn_ev 0 (n + 2000) d) (fn_lk fn_d49) (m + 2) 81 [(0, .ref 29), (1, .int l1), (2, .int l2), (3, .int 1)] [] x =
  some (x, some (.int 0)) :=
  (fn_runc_eq 0 (fn_ev 0 (n + 2000) d) (fn_lk fn_d49) [31, 59, 81] (m + 2) 81 [(0, .ref 29), (1, .int l1), (2, .int l2), (3, .int 1)] [] x).trans (fc_Node_codeOfWrite_1_at81_1 (fn_ev 0 (n + 2000) d) (fn_run 0 (fn_ev 0 (n + 2000) d) (fn_lk fn_d49)) m l1 l2 x)
set_option maxRecDepth 20000 in
theorem fc_Node_codeOfWrite_2 (cf : Nat → List Value → fn_M → Option fn_R) (K : Nat → fn_K) (m : Nat) (a1 a2 : Int32) (x : fn_M) : fn_runc 0 cf (fn_lk fn_d49) [31, 59, 81] K (m + 39) 0 [(0, .ref 30), (1, .int a1), (2, .int a2)] [] x =
  (fn_bi (cf 80 [.int a1, .int 0, .int 16] x) (fun y1 v2 =>
    (if v2 = 0 then
    some (y1, some (.int 1))
    else
    (fn_bi (cf 80 [.int a1, .int 2, .int 7] y1) (fun y3 v4 =>
      (if v4 = 0 then
      (fn_bi (cf 83 [.int a1] y3) (fun y5 v6 =>
        (if v6 = 0 then
        some (y5, some (.int 2))
        else
        K (m + 26) 31 [(0, .ref 30), (1, .int a1), (2, .int a2)] [] y5)))
      else
      K (m + 29) 31 [(0, .ref 30), (1, .int a1), (2, .int a2)] [] y3)))))) := rfl
theorem ft_Node_codeOfWrite_2 (n d : Nat) (a1 a2 : Int32) (x : fn_M) : fn_ev 0 (n + 2000) (d + 1) 49 [.ref 30, .int a1, .int a2] x =
  (fn_bi (fn_ev 0 (n + 2000) d 80 [.int a1, .int 0, .int 16] x) (fun y1 v2 =>
    (if v2 = 0 then
    some (y1, some (.int 1))
    else
    (fn_bi (fn_ev 0 (n + 2000) d 80 [.int a1, .int 2, .int 7] y1) (fun y3 v4 =>
      (if v4 = 0 then
      (fn_bi (fn_ev 0 (n + 2000) d 83 [.int a1] y3) (fun y5 v6 =>
        (if v6 = 0 then
        some (y5, some (.int 2))
        else
        fn_run 0 (fn_ev 0 (n + 2000) d) (fn_lk fn_d49) (n + 1987) 31 [(0, .ref 30), (1, .int a1), (2, .int a2)] [] y5)))
      else
      fn_run 0 (fn_ev 0 (n + 2000) d) (fn_lk fn_d49) (n + 1990) 31 [(0, .ref 30), (1, .int a1), (2, .int a2)] [] y3)))))) :=
  fn_ev_t (dd := fn_d49) (lo := [(0, .ref 30), (1, .int a1), (2, .int a2)]) (sp := [31, 59, 81]) rfl rfl rfl (fc_Node_codeOfWrite_2 (fn_ev 0 (n + 2000) d) (fn_run 0 (fn_ev 0 (n + 2000) d) (fn_lk fn_d49)) (n + 1961) a1 a2 x)
set_option maxRecDepth 20000 in
theorem fc_Node_codeOfWrite_2_at31 (cf : Nat → List Value → fn_M → Option fn_R) (K : Nat → fn_K) (m : Nat) (l1 l2 : Int32) (x : fn_M) : fn_runc 0 cf (fn_lk fn_d49) [31, 59, 81] K (m + 26) 31 [(0, .ref 30), (1, .int l1), (2, .int l2)] [] x =
  (fn_bi (cf 50 [.ref 30, .int l1, .int l2] x) (fun y1 v2 =>
    (if v2 = 0 then
    some (y1, some (.int 3))
    else
    (if l1 = 4 then
      K (m + 18) 59 [(0, .ref 30), (1, .int l1), (2, .int l2)] [] y1
      else
      (if l1 = 6 then
        K (m + 15) 59 [(0, .ref 30), (1, .int l1), (2, .int l2)] [] y1
        else
        (if l1 = 7 then
          K (m + 12) 59 [(0, .ref 30), (1, .int l1), (2, .int l2)] [] y1
          else
          K (m + 8) 81 [(0, .ref 30), (1, .int l1), (2, .int l2), (3, .int 0)] [] y1)))))) := rfl
theorem ft_Node_codeOfWrite_2_at31 (n d m : Nat) (l1 l2 : Int32) (x : fn_M) : fn_run 0 (fn_ev 0 (n + 2000) d) (fn_lk fn_d49) (m + 26) 31 [(0, .ref 30), (1, .int l1), (2, .int l2)] [] x =
  (fn_bi (fn_ev 0 (n + 2000) d 50 [.ref 30, .int l1, .int l2] x) (fun y1 v2 =>
    (if v2 = 0 then
    some (y1, some (.int 3))
    else
    (if l1 = 4 then
      fn_run 0 (fn_ev 0 (n + 2000) d) (fn_lk fn_d49) (m + 18) 59 [(0, .ref 30), (1, .int l1), (2, .int l2)] [] y1
      else
      (if l1 = 6 then
        fn_run 0 (fn_ev 0 (n + 2000) d) (fn_lk fn_d49) (m + 15) 59 [(0, .ref 30), (1, .int l1), (2, .int l2)] [] y1
        else
        (if l1 = 7 then
          fn_run 0 (fn_ev 0 (n + 2000) d) (fn_lk fn_d49) (m + 12) 59 [(0, .ref 30), (1, .int l1), (2, .int l2)] [] y1
          else
          fn_run 0 (fn_ev 0 (n + 2000) d) (fn_lk fn_d49) (m + 8) 81 [(0, .ref 30), (1, .int l1), (2, .int l2), (3, .int 0)] [] y1)))))) :=
  (fn_runc_eq 0 (fn_ev 0 (n + 2000) d) (fn_lk fn_d49) [31, 59, 81] (m + 26) 31 [(0, .ref 30), (1, .int l1), (2, .int l2)] [] x).trans (fc_Node_codeOfWrite_2_at31 (fn_ev 0 (n + 2000) d) (fn_run 0 (fn_ev 0 (n + 2000) d) (fn_lk fn_d49)) m l1 l2 x)
set_option maxRecDepth 20000 in
theorem fc_Node_codeOfWrite_2_at59 (cf : Nat → List Value → fn_M → Option fn_R) (K : Nat → fn_K) (m : Nat) (l1 l2 : Int32) (x : fn_M) : fn_runc 0 cf (fn_lk fn_d49) [31, 59, 81] K (m + 12) 59 [(0, .ref 30), (1, .int l1), (2, .int l2)] [] x =
  (if (x 30 3) = 5 then
    some (x, some (.int 4))
    else
    K (m + 3) 81 [(0, .ref 30), (1, .int l1), (2, .int l2), (3, .int 1)] [] x) := rfl
theorem ft_Node_codeOfWrite_2_at59 (n d m : Nat) (l1 l2 : Int32) (x : fn_M) : fn_run 0 (fn_ev 0 (n + 2000) d) (fn_lk fn_d49) (m + 12) 59 [(0, .ref 30), (1, .int l1), (2, .int l2)] [] x =
  (if (x 30 3) = 5 then
    some (x, some (.int 4))
    else
    fn_run 0 (fn_ev 0 (n + 2000) d) (fn_lk fn_d49) (m + 3) 81 [(0, .ref 30), (1, .int l1), (2, .int l2), (3, .int 1)] [] x) :=
  (fn_runc_eq 0 (fn_ev 0 (n + 2000) d) (fn_lk fn_d49) [31, 59, 81] (m + 12) 59 [(0, .ref 30), (1, .int l1), (2, .int l2)] [] x).trans (fc_Node_codeOfWrite_2_at59 (fn_ev 0 (n + 2000) d) (fn_run 0 (fn_ev 0 (n + 2000) d) (fn_lk fn_d49)) m l1 l2 x)
set_option maxRecDepth 20000 in
theorem fc_Node_codeOfWrite_2_at81_0 (cf : Nat → List Value → fn_M → Option fn_R) (K : Nat → fn_K) (m : Nat) (l1 l2 : Int32) (x : fn_M) : fn_runc 0 cf (fn_lk fn_d49) [31, 59, 81] K (m + 2) 81 [(0, .ref 30), (1, .int l1), (2, .int l2), (3, .int 0)] [] x =
  some (x, some (.int 0)) := rfl
theorem ft_Node_codeOfWrite_2_at81_0 (n d m : Nat) (l1 l2 : Int32) (x : fn_M) : fn_run 0 (fn_ev 0 (n + 2000) d) (fn_lk fn_d49) (m + 2) 81 [(0, .ref 30), (1, .int l1), (2, .int l2), (3, .int 0)] [] x =
  some (x, some (.int 0)) :=
  (fn_runc_eq 0 (fn_ev 0 (n + 2000) d) (fn_lk fn_d49) [31, 59, 81] (m + 2) 81 [(0, .ref 30), (1, .int l1), (2, .int l2), (3, .int 0)] [] x).trans (fc_Node_codeOfWrite_2_at81_0 (fn_ev 0 (n + 2000) d) (fn_run 0 (fn_ev 0 (n + 2000) d) (fn_lk fn_d49)) m l1 l2 x)
set_option maxRecDepth 20000 in
theorem fc_Node_codeOfWrite_2_at81_1 (cf : Nat → List Value → fn_M → Option fn_R) (K : Nat → fn_K) (m : Nat) (l1 l2 : Int32) (x : fn_M) : fn_runc 0 cf (fn_lk fn_d49) [31, 59, 81] K (m + 2) 81 [(0, .ref 30), (1, .int l1), (2, .int l2), (3, .int 1)] [] x =
  some (x, some (.int 0)) := rfl
theorem ft_Node_codeOfWrite_2_at81_1 (n d m : Nat) (l1 l2 : Int32) (x : fn_M) : fn_run 0 (fn_ev 0 (n + 2000) d) (fn_lk fn_d49) (m + 2) 81 [(0, .ref 30), (1, .int l1), (2, .int l2), (3, .int 1)] [] x =
  some (x, some (.int 0)) :=
  (fn_runc_eq 0 (fn_ev 0 (n + 2000) d) (fn_lk fn_d49) [31, 59, 81] (m + 2) 81 [(0, .ref 30), (1, .int l1), (2, .int l2), (3, .int 1)] [] x).trans (fc_Node_codeOfWrite_2_at81_1 (fn_ev 0 (n + 2000) d) (fn_run 0 (fn_ev 0 (n + 2000) d) (fn_lk fn_d49)) m l1 l2 x)
set_option maxRecDepth 20000 in
theorem fc_Node_codeOfWrite_3 (cf : Nat → List Value → fn_M → Option fn_R) (K : Nat → fn_K) (m : Nat) (a1 a2 : Int32) (x : fn_M) : fn_runc 0 cf (fn_lk fn_d49) [31, 59, 81] K (m + 39) 0 [(0, .ref 31), (1, .int a1), (2, .int a2)] [] x =
  (fn_bi (cf 80 [.int a1, .int 0, .int 16] x) (fun y1 v2 =>
    (if v2 = 0 then
    some (y1, some (.int 1))
    else
    (fn_bi (cf 80 [.int a1, .int 2, .int 7] y1) (fun y3 v4 =>
      (if v4 = 0 then
      (fn_bi (cf 83 [.int a1] y3) (fun y5 v6 =>
        (if v6 = 0 then
        some (y5, some (.int 2))
        else
        K (m + 26) 31 [(0, .ref 31), (1, .int a1), (2, .int a2)] [] y5)))
      else
      K (m + 29) 31 [(0, .ref 31), (1, .int a1), (2, .int a2)] [] y3)))))) := rfl
theorem ft_Node_codeOfWrite_3 (n d : Nat) (a1 a2 : Int32) (x : fn_M) : fn_ev 0 (n + 2000) (d + 1) 49 [.ref 31, .int a1, .int a2] x =
  (fn_bi (fn_ev 0 (n + 2000) d 80 [.int a1, .int 0, .int 16] x) (fun y1 v2 =>
    (if v2 = 0 then
    some (y1, some (.int 1))
    else
    (fn_bi (fn_ev 0 (n + 2000) d 80 [.int a1, .int 2, .int 7] y1) (fun y3 v4 =>
      (if v4 = 0 then
      (fn_bi (fn_ev 0 (n + 2000) d 83 [.int a1] y3) (fun y5 v6 =>
        (if v6 = 0 then
        some (y5, some (.int 2))
        else
        fn_run 0 (fn_ev 0 (n + 2000) d) (fn_lk fn_d49) (n + 1987) 31 [(0, .ref 31), (1, .int a1), (2, .int a2)] [] y5)))
      else
      fn_run 0 (fn_ev 0 (n + 2000) d) (fn_lk fn_d49) (n + 1990) 31 [(0, .ref 31), (1, .int a1), (2, .int a2)] [] y3)))))) :=
  fn_ev_t (dd := fn_d49) (lo := [(0, .ref 31), (1, .int a1), (2, .int a2)]) (sp := [31, 59, 81]) rfl rfl rfl (fc_Node_codeOfWrite_3 (fn_ev 0 (n + 2000) d) (fn_run 0 (fn_ev 0 (n + 2000) d) (fn_lk fn_d49)) (n + 1961) a1 a2 x)
set_option maxRecDepth 20000 in
theorem fc_Node_codeOfWrite_3_at31 (cf : Nat → List Value → fn_M → Option fn_R) (K : Nat → fn_K) (m : Nat) (l1 l2 : Int32) (x : fn_M) : fn_runc 0 cf (fn_lk fn_d49) [31, 59, 81] K (m + 26) 31 [(0, .ref 31), (1, .int l1), (2, .int l2)] [] x =
  (fn_bi (cf 50 [.ref 31, .int l1, .int l2] x) (fun y1 v2 =>
    (if v2 = 0 then
    some (y1, some (.int 3))
    else
    (if l1 = 4 then
      K (m + 18) 59 [(0, .ref 31), (1, .int l1), (2, .int l2)] [] y1
      else
      (if l1 = 6 then
        K (m + 15) 59 [(0, .ref 31), (1, .int l1), (2, .int l2)] [] y1
        else
        (if l1 = 7 then
          K (m + 12) 59 [(0, .ref 31), (1, .int l1), (2, .int l2)] [] y1
          else
          K (m + 8) 81 [(0, .ref 31), (1, .int l1), (2, .int l2), (3, .int 0)] [] y1)))))) := rfl
theorem ft_Node_codeOfWrite_3_at31 (n d m : Nat) (l1 l2 : Int32) (x : fn_M) : fn_run 0 (fn_ev 0 (n + 2000) d) (fn_lk fn_d49) (m + 26) 31 [(0, .ref 31), (1, .int l1), (2, .int l2)] [] x =
  (fn_bi (fn_ev 0 (n + 2000) d 50 [.ref 31, .int l1, .int l2] x) (fun y1 v2 =>
    (if v2 = 0 then
    some (y1, some (.int 3))
    else
    (if l1 = 4 then
      fn_run 0 (fn_ev 0 (n + 2000) d) (fn_lk fn_d49) (m + 18) 59 [(0, .ref 31), (1, .int l1), (2, .int l2)] [] y1
      else
      (if l1 = 6 then
        fn_run 0 (fn_ev 0 (n + 2000) d) (fn_lk fn_d49) (m + 15) 59 [(0, .ref 31), (1, .int l1), (2, .int l2)] [] y1
        else
        (if l1 = 7 then
          fn_run 0 (fn_ev 0 (n + 2000) d) (fn_lk fn_d49) (m + 12) 59 [(0, .ref 31), (1, .int l1), (2, .int l2)] [] y1
          else
          fn_run 0 (fn_ev 0 (n + 2000) d) (fn_lk fn_d49) (m + 8) 81 [(0, .ref 31), (1, .int l1), (2, .int l2), (3, .int 0)] [] y1)))))) :=
  (fn_runc_eq 0 (fn_ev 0 (n + 2000) d) (fn_lk fn_d49) [31, 59, 81] (m + 26) 31 [(0, .ref 31), (1, .int l1), (2, .int l2)] [] x).trans (fc_Node_codeOfWrite_3_at31 (fn_ev 0 (n + 2000) d) (fn_run 0 (fn_ev 0 (n + 2000) d) (fn_lk fn_d49)) m l1 l2 x)
set_option maxRecDepth 20000 in
theorem fc_Node_codeOfWrite_3_at59 (cf : Nat → List Value → fn_M → Option fn_R) (K : Nat → fn_K) (m : Nat) (l1 l2 : Int32) (x : fn_M) : fn_runc 0 cf (fn_lk fn_d49) [31, 59, 81] K (m + 12) 59 [(0, .ref 31), (1, .int l1), (2, .int l2)] [] x =
  (if (x 31 3) = 5 then
    some (x, some (.int 4))
    else
    K (m + 3) 81 [(0, .ref 31), (1, .int l1), (2, .int l2), (3, .int 1)] [] x) := rfl
theorem ft_Node_codeOfWrite_3_at59 (n d m : Nat) (l1 l2 : Int32) (x : fn_M) : fn_run 0 (fn_ev 0 (n + 2000) d) (fn_lk fn_d49) (m + 12) 59 [(0, .ref 31), (1, .int l1), (2, .int l2)] [] x =
  (if (x 31 3) = 5 then
    some (x, some (.int 4))
    else
    fn_run 0 (fn_ev 0 (n + 2000) d) (fn_lk fn_d49) (m + 3) 81 [(0, .ref 31), (1, .int l1), (2, .int l2), (3, .int 1)] [] x) :=
  (fn_runc_eq 0 (fn_ev 0 (n + 2000) d) (fn_lk fn_d49) [31, 59, 81] (m + 12) 59 [(0, .ref 31), (1, .int l1), (2, .int l2)] [] x).trans (fc_Node_codeOfWrite_3_at59 (fn_ev 0 (n + 2000) d) (fn_run 0 (fn_ev 0 (n + 2000) d) (fn_lk fn_d49)) m l1 l2 x)
set_option maxRecDepth 20000 in
theorem fc_Node_codeOfWrite_3_at81_0 (cf : Nat → List Value → fn_M → Option fn_R) (K : Nat → fn_K) (m : Nat) (l1 l2 : Int32) (x : fn_M) : fn_runc 0 cf (fn_lk fn_d49) [31, 59, 81] K (m + 2) 81 [(0, .ref 31), (1, .int l1), (2, .int l2), (3, .int 0)] [] x =
  some (x, some (.int 0)) := rfl
theorem ft_Node_codeOfWrite_3_at81_0 (n d m : Nat) (l1 l2 : Int32) (x : fn_M) : fn_run 0 (fn_ev 0 (n + 2000) d) (fn_lk fn_d49) (m + 2) 81 [(0, .ref 31), (1, .int l1), (2, .int l2), (3, .int 0)] [] x =
  some (x, some (.int 0)) :=
  (fn_runc_eq 0 (fn_ev 0 (n + 2000) d) (fn_lk fn_d49) [31, 59, 81] (m + 2) 81 [(0, .ref 31), (1, .int l1), (2, .int l2), (3, .int 0)] [] x).trans (fc_Node_codeOfWrite_3_at81_0 (fn_ev 0 (n + 2000) d) (fn_run 0 (fn_ev 0 (n + 2000) d) (fn_lk fn_d49)) m l1 l2 x)
set_option maxRecDepth 20000 in
theorem fc_Node_codeOfWrite_3_at81_1 (cf : Nat → List Value → fn_M → Option fn_R) (K : Nat → fn_K) (m : Nat) (l1 l2 : Int32) (x : fn_M) : fn_runc 0 cf (fn_lk fn_d49) [31, 59, 81] K (m + 2) 81 [(0, .ref 31), (1, .int l1), (2, .int l2), (3, .int 1)] [] x =
  some (x, some (.int 0)) := rfl
theorem ft_Node_codeOfWrite_3_at81_1 (n d m : Nat) (l1 l2 : Int32) (x : fn_M) : fn_run 0 (fn_ev 0 (n + 2000) d) (fn_lk fn_d49) (m + 2) 81 [(0, .ref 31), (1, .int l1), (2, .int l2), (3, .int 1)] [] x =
  some (x, some (.int 0)) :=
  (fn_runc_eq 0 (fn_ev 0 (n + 2000) d) (fn_lk fn_d49) [31, 59, 81] (m + 2) 81 [(0, .ref 31), (1, .int l1), (2, .int l2), (3, .int 1)] [] x).trans (fc_Node_codeOfWrite_3_at81_1 (fn_ev 0 (n + 2000) d) (fn_run 0 (fn_ev 0 (n + 2000) d) (fn_lk fn_d49)) m l1 l2 x)
set_option maxRecDepth 20000 in
theorem fc_Node_codeOfWrite_4 (cf : Nat → List Value → fn_M → Option fn_R) (K : Nat → fn_K) (m : Nat) (a1 a2 : Int32) (x : fn_M) : fn_runc 0 cf (fn_lk fn_d49) [31, 59, 81] K (m + 39) 0 [(0, .ref 32), (1, .int a1), (2, .int a2)] [] x =
  (fn_bi (cf 80 [.int a1, .int 0, .int 16] x) (fun y1 v2 =>
    (if v2 = 0 then
    some (y1, some (.int 1))
    else
    (fn_bi (cf 80 [.int a1, .int 2, .int 7] y1) (fun y3 v4 =>
      (if v4 = 0 then
      (fn_bi (cf 83 [.int a1] y3) (fun y5 v6 =>
        (if v6 = 0 then
        some (y5, some (.int 2))
        else
        K (m + 26) 31 [(0, .ref 32), (1, .int a1), (2, .int a2)] [] y5)))
      else
      K (m + 29) 31 [(0, .ref 32), (1, .int a1), (2, .int a2)] [] y3)))))) := rfl
theorem ft_Node_codeOfWrite_4 (n d : Nat) (a1 a2 : Int32) (x : fn_M) : fn_ev 0 (n + 2000) (d + 1) 49 [.ref 32, .int a1, .int a2] x =
  (fn_bi (fn_ev 0 (n + 2000) d 80 [.int a1, .int 0, .int 16] x) (fun y1 v2 =>
    (if v2 = 0 then
    some (y1, some (.int 1))
    else
    (fn_bi (fn_ev 0 (n + 2000) d 80 [.int a1, .int 2, .int 7] y1) (fun y3 v4 =>
      (if v4 = 0 then
      (fn_bi (fn_ev 0 (n + 2000) d 83 [.int a1] y3) (fun y5 v6 =>
        (if v6 = 0 then
        some (y5, some (.int 2))
        else
        fn_run 0 (fn_ev 0 (n + 2000) d) (fn_lk fn_d49) (n + 1987) 31 [(0, .ref 32), (1, .int a1), (2, .int a2)] [] y5)))
      else
      fn_run 0 (fn_ev 0 (n + 2000) d) (fn_lk fn_d49) (n + 1990) 31 [(0, .ref 32), (1, .int a1), (2, .int a2)] [] y3)))))) :=
  fn_ev_t (dd := fn_d49) (lo := [(0, .ref 32), (1, .int a1), (2, .int a2)]) (sp := [31, 59, 81]) rfl rfl rfl (fc_Node_codeOfWrite_4 (fn_ev 0 (n + 2000) d) (fn_run 0 (fn_ev 0 (n + 2000) d) (fn_lk fn_d49)) (n + 1961) a1 a2 x)
set_option maxRecDepth 20000 in
theorem fc_Node_codeOfWrite_4_at31 (cf : Nat → List Value → fn_M → Option fn_R) (K : Nat → fn_K) (m : Nat) (l1 l2 : Int32) (x : fn_M) : fn_runc 0 cf (fn_lk fn_d49) [31, 59, 81] K (m + 26) 31 [(0, .ref 32), (1, .int l1), (2, .int l2)] [] x =
  (fn_bi (cf 50 [.ref 32, .int l1, .int l2] x) (fun y1 v2 =>
    (if v2 = 0 then
    some (y1, some (.int 3))
    else
    (if l1 = 4 then
      K (m + 18) 59 [(0, .ref 32), (1, .int l1), (2, .int l2)] [] y1
      else
      (if l1 = 6 then
        K (m + 15) 59 [(0, .ref 32), (1, .int l1), (2, .int l2)] [] y1
        else
        (if l1 = 7 then
          K (m + 12) 59 [(0, .ref 32), (1, .int l1), (2, .int l2)] [] y1
          else
          K (m + 8) 81 [(0, .ref 32), (1, .int l1), (2, .int l2), (3, .int 0)] [] y1)))))) := rfl
theorem ft_Node_codeOfWrite_4_at31 (n d m : Nat) (l1 l2 : Int32) (x : fn_M) : fn_run 0 (fn_ev 0 (n + 2000) d) (fn_lk fn_d49) (m + 26) 31 [(0, .ref 32), (1, .int l1), (2, .int l2)] [] x =
  (fn_bi (fn_ev 0 (n + 2000) d 50 [.ref 32, .int l1, .int l2] x) (fun y1 v2 =>
    (if v2 = 0 then
    some (y1, some (.int 3))
    else
    (if l1 = 4 then
      fn_run 0 (fn_ev 0 (n + 2000) d) (fn_lk fn_d49) (m + 18) 59 [(0, .ref 32), (1, .int l1), (2, .int l2)] [] y1
      else
      (if l1 = 6 then
        fn_run 0 (fn_ev 0 (n + 2000) d) (fn_lk fn_d49) (m + 15) 59 [(0, .ref 32), (1, .int l1), (2, .int l2)] [] y1
        else
        (if l1 = 7 then
          fn_run 0 (fn_ev 0 (n + 2000) d) (fn_lk fn_d49) (m + 12) 59 [(0, .ref 32), (1, .int l1), (2, .int l2)] [] y1
          else
          fn_run 0 (fn_ev 0 (n + 2000) d) (fn_lk fn_d49) (m + 8) 81 [(0, .ref 32), (1, .int l1), (2, .int l2), (3, .int 0)] [] y1)))))) :=
  (fn_runc_eq 0 (fn_ev 0 (n + 2000) d) (fn_lk fn_d49) [31, 59, 81] (m + 26) 31 [(0, .ref 32), (1, .int l1), (2, .int l2)] [] x).trans (fc_Node_codeOfWrite_4_at31 (fn_ev 0 (n + 2000) d) (fn_run 0 (fn_ev 0 (n + 2000) d) (fn_lk fn_d49)) m l1 l2 x)
set_option maxRecDepth 20000 in
theorem fc_Node_codeOfWrite_4_at59 (cf : Nat → List Value → fn_M → Option fn_R) (K : Nat → fn_K) (m : Nat) (l1 l2 : Int32) (x : fn_M) : fn_runc 0 cf (fn_lk fn_d49) [31, 59, 81] K (m + 12) 59 [(0, .ref 32), (1, .int l1), (2, .int l2)] [] x =
  (if (x 32 3) = 5 then
    some (x, some (.int 4))
    else
    K (m + 3) 81 [(0, .ref 32), (1, .int l1), (2, .int l2), (3, .int 1)] [] x) := rfl
theorem ft_Node_codeOfWrite_4_at59 (n d m : Nat) (l1 l2 : Int32) (x : fn_M) : fn_run 0 (fn_ev 0 (n + 2000) d) (fn_lk fn_d49) (m + 12) 59 [(0, .ref 32), (1, .int l1), (2, .int l2)] [] x =
  (if (x 32 3) = 5 then
    some (x, some (.int 4))
    else
    fn_run 0 (fn_ev 0 (n + 2000) d) (fn_lk fn_d49) (m + 3) 81 [(0, .ref 32), (1, .int l1), (2, .int l2), (3, .int 1)] [] x) :=
  (fn_runc_eq 0 (fn_ev 0 (n + 2000) d) (fn_lk fn_d49) [31, 59, 81] (m + 12) 59 [(0, .ref 32), (1, .int l1), (2, .int l2)] [] x).trans (fc_Node_codeOfWrite_4_at59 (fn_ev 0 (n + 2000) d) (fn_run 0 (fn_ev 0 (n + 2000) d) (fn_lk fn_d49)) m l1 l2 x)
set_option maxRecDepth 20000 in
theorem fc_Node_codeOfWrite_4_at81_0 (cf : Nat → List Value → fn_M → Option fn_R) (K : Nat → fn_K) (m : Nat) (l1 l2 : Int32) (x : fn_M) : fn_runc 0 cf (fn_lk fn_d49) [31, 59, 81] K (m + 2) 81 [(0, .ref 32), (1, .int l1), (2, .int l2), (3, .int 0)] [] x =
  some (x, some (.int 0)) := rfl
theorem ft_Node_codeOfWrite_4_at81_0 (n d m : Nat) (l1 l2 : Int32) (x : fn_M) : fn_run 0 (fn_ev 0 (n + 2000) d) (fn_lk fn_d49) (m + 2) 81 [(0, .ref 32), (1, .int l1), (2, .int l2), (3, .int 0)] [] x =
  some (x, some (.int 0)) :=
  (fn_runc_eq 0 (fn_ev 0 (n + 2000) d) (fn_lk fn_d49) [31, 59, 81] (m + 2) 81 [(0, .ref 32), (1, .int l1), (2, .int l2), (3, .int 0)] [] x).trans (fc_Node_codeOfWrite_4_at81_0 (fn_ev 0 (n + 2000) d) (fn_run 0 (fn_ev 0 (n + 2000) d) (fn_lk fn_d49)) m l1 l2 x)
set_option maxRecDepth 20000 in
theorem fc_Node_codeOfWrite_4_at81_1 (cf : Nat → List Value → fn_M → Option fn_R) (K : Nat → fn_K) (m : Nat) (l1 l2 : Int32) (x : fn_M) : fn_runc 0 cf (fn_lk fn_d49) [31, 59, 81] K (m + 2) 81 [(0, .ref 32), (1, .int l1), (2, .int l2), (3, .int 1)] [] x =
  some (x, some (.int 0)) := rfl
theorem ft_Node_codeOfWrite_4_at81_1 (n d m : Nat) (l1 l2 : Int32) (x : fn_M) : fn_run 0 (fn_ev 0 (n + 2000) d) (fn_lk fn_d49) (m + 2) 81 [(0, .ref 32), (1, .int l1), (2, .int l2), (3, .int 1)] [] x =
  some (x, some (.int 0)) :=
  (fn_runc_eq 0 (fn_ev 0 (n + 2000) d) (fn_lk fn_d49) [31, 59, 81] (m + 2) 81 [(0, .ref 32), (1, .int l1), (2, .int l2), (3, .int 1)] [] x).trans (fc_Node_codeOfWrite_4_at81_1 (fn_ev 0 (n + 2000) d) (fn_run 0 (fn_ev 0 (n + 2000) d) (fn_lk fn_d49)) m l1 l2 x)
set_option maxRecDepth 20000 in
theorem fc_Node_isValueFor_1 (cf : Nat → List Value → fn_M → Option fn_R) (K : Nat → fn_K) (m : Nat) (a1 a2 : Int32) (x : fn_M) : fn_runc 0 cf (fn_lk fn_d50) [76, 80, 121, 125, 166, 170] K (m + 25) 0 [(0, .ref 29), (1, .int a1), (2, .int a2)] [] x =
  (if a1 = 2 then
    (fn_bi (cf 80 [.int a2, .int 0, .int 50] x) (fun y19 v20 =>
      (if v20 = 0 ∨ v20 = 1 then
      some (y19, some (.int v20))
      else
      none)))
    else
    (if a1 = 3 then
      (if a2 = 0 then
        K (m + 21) 76 [(0, .ref 29), (1, .int a1), (2, .int a2)] [] x
        else
        (fn_bi (cf 51 [.ref 29, .int (a2 / 100)] x) (fun y15 v16 =>
          (if v16 = 0 then
          K (m + 15) 80 [(0, .ref 29), (1, .int a1), (2, .int a2)] [] y15
          else
          (fn_bi (cf 80 [.int (a2 - a2 / 100 * 100), .int 1, .int 50] y15) (fun y17 v18 =>
            (if v18 = 0 then
            K (m + 8) 80 [(0, .ref 29), (1, .int a1), (2, .int a2)] [] y17
            else
            K (m + 8) 76 [(0, .ref 29), (1, .int a1), (2, .int a2)] [] y17)))))))
      else
      (if a1 = 4 then
        (fn_bi (cf 80 [.int a2, .int 0, .int 4] x) (fun y13 v14 =>
          (if v14 = 0 ∨ v14 = 1 then
          some (y13, some (.int v14))
          else
          none)))
        else
        (if a1 = 5 then
          (fn_bi (cf 80 [.int a2, .int 0, .int 20] x) (fun y11 v12 =>
            (if v12 = 0 ∨ v12 = 1 then
            some (y11, some (.int v12))
            else
            none)))
          else
          (if a1 = 6 then
            (if a2 = 0 then
              K (m + 21) 121 [(0, .ref 29), (1, .int a1), (2, .int a2)] [] x
              else
              (fn_bi (cf 82 [.int (a2 / 100)] x) (fun y7 v8 =>
                (if v8 = 0 then
                K (m + 16) 125 [(0, .ref 29), (1, .int a1), (2, .int a2)] [] y7
                else
                (fn_bi (cf 82 [.int (a2 - a2 / 100 * 100)] y7) (fun y9 v10 =>
                  (if v10 = 0 then
                  K (m + 11) 125 [(0, .ref 29), (1, .int a1), (2, .int a2)] [] y9
                  else
                  K (m + 11) 121 [(0, .ref 29), (1, .int a1), (2, .int a2)] [] y9)))))))
            else
            (if a1 = 7 then
              (if a2 = 0 then
                K (m + 21) 166 [(0, .ref 29), (1, .int a1), (2, .int a2)] [] x
                else
                (fn_bi (cf 51 [.ref 29, .int (a2 / 10000)] x) (fun y1 v2 =>
                  (if v2 = 0 then
                  K (m + 15) 170 [(0, .ref 29), (1, .int a1), (2, .int a2)] [] y1
                  else
                  (fn_bi (cf 83 [.int ((a2 / 100) - (a2 / 100) / 100 * 100)] y1) (fun y3 v4 =>
                    (if v4 = 0 then
                    K (m + 8) 170 [(0, .ref 29), (1, .int a1), (2, .int a2)] [] y3
                    else
                    (fn_bi (cf 83 [.int (a2 - a2 / 100 * 100)] y3) (fun y5 v6 =>
                      (if v6 = 0 then
                      K (m + 3) 170 [(0, .ref 29), (1, .int a1), (2, .int a2)] [] y5
                      else
                      K (m + 3) 166 [(0, .ref 29), (1, .int a1), (2, .int a2)] [] y5))))))))))
              else
              some (x, some (.int 1)))))))) := rfl
theorem ft_Node_isValueFor_1 (n d : Nat) (a1 a2 : Int32) (x : fn_M) : fn_ev 0 (n + 2000) (d + 1) 50 [.ref 29, .int a1, .int a2] x =
  (if a1 = 2 then
    (fn_bi (fn_ev 0 (n + 2000) d 80 [.int a2, .int 0, .int 50] x) (fun y19 v20 =>
      (if v20 = 0 ∨ v20 = 1 then
      some (y19, some (.int v20))
      else
      none)))
    else
    (if a1 = 3 then
      (if a2 = 0 then
        fn_run 0 (fn_ev 0 (n + 2000) d) (fn_lk fn_d50) (n + 1996) 76 [(0, .ref 29), (1, .int a1), (2, .int a2)] [] x
        else
        (fn_bi (fn_ev 0 (n + 2000) d 51 [.ref 29, .int (a2 / 100)] x) (fun y15 v16 =>
          (if v16 = 0 then
          fn_run 0 (fn_ev 0 (n + 2000) d) (fn_lk fn_d50) (n + 1990) 80 [(0, .ref 29), (1, .int a1), (2, .int a2)] [] y15
          else
          (fn_bi (fn_ev 0 (n + 2000) d 80 [.int (a2 - a2 / 100 * 100), .int 1, .int 50] y15) (fun y17 v18 =>
            (if v18 = 0 then
            fn_run 0 (fn_ev 0 (n + 2000) d) (fn_lk fn_d50) (n + 1983) 80 [(0, .ref 29), (1, .int a1), (2, .int a2)] [] y17
            else
            fn_run 0 (fn_ev 0 (n + 2000) d) (fn_lk fn_d50) (n + 1983) 76 [(0, .ref 29), (1, .int a1), (2, .int a2)] [] y17)))))))
      else
      (if a1 = 4 then
        (fn_bi (fn_ev 0 (n + 2000) d 80 [.int a2, .int 0, .int 4] x) (fun y13 v14 =>
          (if v14 = 0 ∨ v14 = 1 then
          some (y13, some (.int v14))
          else
          none)))
        else
        (if a1 = 5 then
          (fn_bi (fn_ev 0 (n + 2000) d 80 [.int a2, .int 0, .int 20] x) (fun y11 v12 =>
            (if v12 = 0 ∨ v12 = 1 then
            some (y11, some (.int v12))
            else
            none)))
          else
          (if a1 = 6 then
            (if a2 = 0 then
              fn_run 0 (fn_ev 0 (n + 2000) d) (fn_lk fn_d50) (n + 1996) 121 [(0, .ref 29), (1, .int a1), (2, .int a2)] [] x
              else
              (fn_bi (fn_ev 0 (n + 2000) d 82 [.int (a2 / 100)] x) (fun y7 v8 =>
                (if v8 = 0 then
                fn_run 0 (fn_ev 0 (n + 2000) d) (fn_lk fn_d50) (n + 1991) 125 [(0, .ref 29), (1, .int a1), (2, .int a2)] [] y7
                else
                (fn_bi (fn_ev 0 (n + 2000) d 82 [.int (a2 - a2 / 100 * 100)] y7) (fun y9 v10 =>
                  (if v10 = 0 then
                  fn_run 0 (fn_ev 0 (n + 2000) d) (fn_lk fn_d50) (n + 1986) 125 [(0, .ref 29), (1, .int a1), (2, .int a2)] [] y9
                  else
                  fn_run 0 (fn_ev 0 (n + 2000) d) (fn_lk fn_d50) (n + 1986) 121 [(0, .ref 29), (1, .int a1), (2, .int a2)] [] y9)))))))
            else
            (if a1 = 7 then
              (if a2 = 0 then
                fn_run 0 (fn_ev 0 (n + 2000) d) (fn_lk fn_d50) (n + 1996) 166 [(0, .ref 29), (1, .int a1), (2, .int a2)] [] x
                else
                (fn_bi (fn_ev 0 (n + 2000) d 51 [.ref 29, .int (a2 / 10000)] x) (fun y1 v2 =>
                  (if v2 = 0 then
                  fn_run 0 (fn_ev 0 (n + 2000) d) (fn_lk fn_d50) (n + 1990) 170 [(0, .ref 29), (1, .int a1), (2, .int a2)] [] y1
                  else
                  (fn_bi (fn_ev 0 (n + 2000) d 83 [.int ((a2 / 100) - (a2 / 100) / 100 * 100)] y1) (fun y3 v4 =>
                    (if v4 = 0 then
                    fn_run 0 (fn_ev 0 (n + 2000) d) (fn_lk fn_d50) (n + 1983) 170 [(0, .ref 29), (1, .int a1), (2, .int a2)] [] y3
                    else
                    (fn_bi (fn_ev 0 (n + 2000) d 83 [.int (a2 - a2 / 100 * 100)] y3) (fun y5 v6 =>
                      (if v6 = 0 then
                      fn_run 0 (fn_ev 0 (n + 2000) d) (fn_lk fn_d50) (n + 1978) 170 [(0, .ref 29), (1, .int a1), (2, .int a2)] [] y5
                      else
                      fn_run 0 (fn_ev 0 (n + 2000) d) (fn_lk fn_d50) (n + 1978) 166 [(0, .ref 29), (1, .int a1), (2, .int a2)] [] y5))))))))))
              else
              some (x, some (.int 1)))))))) :=
  fn_ev_t (dd := fn_d50) (lo := [(0, .ref 29), (1, .int a1), (2, .int a2)]) (sp := [76, 80, 121, 125, 166, 170]) rfl rfl rfl (fc_Node_isValueFor_1 (fn_ev 0 (n + 2000) d) (fn_run 0 (fn_ev 0 (n + 2000) d) (fn_lk fn_d50)) (n + 1975) a1 a2 x)
set_option maxRecDepth 20000 in
theorem fc_Node_isValueFor_1_at76 (cf : Nat → List Value → fn_M → Option fn_R) (K : Nat → fn_K) (m : Nat) (l1 l2 : Int32) (x : fn_M) : fn_runc 0 cf (fn_lk fn_d50) [76, 80, 121, 125, 166, 170] K (m + 3) 76 [(0, .ref 29), (1, .int l1), (2, .int l2)] [] x =
  some (x, some (.int 1)) := rfl
theorem ft_Node_isValueFor_1_at76 (n d m : Nat) (l1 l2 : Int32) (x : fn_M) : fn_run 0 (fn_ev 0 (n + 2000) d) (fn_lk fn_d50) (m + 3) 76 [(0, .ref 29), (1, .int l1), (2, .int l2)] [] x =
  some (x, some (.int 1)) :=
  (fn_runc_eq 0 (fn_ev 0 (n + 2000) d) (fn_lk fn_d50) [76, 80, 121, 125, 166, 170] (m + 3) 76 [(0, .ref 29), (1, .int l1), (2, .int l2)] [] x).trans (fc_Node_isValueFor_1_at76 (fn_ev 0 (n + 2000) d) (fn_run 0 (fn_ev 0 (n + 2000) d) (fn_lk fn_d50)) m l1 l2 x)
set_option maxRecDepth 20000 in
theorem fc_Node_isValueFor_1_at80 (cf : Nat → List Value → fn_M → Option fn_R) (K : Nat → fn_K) (m : Nat) (l1 l2 : Int32) (x : fn_M) : fn_runc 0 cf (fn_lk fn_d50) [76, 80, 121, 125, 166, 170] K (m + 2) 80 [(0, .ref 29), (1, .int l1), (2, .int l2)] [] x =
  some (x, some (.int 0)) := rfl
theorem ft_Node_isValueFor_1_at80 (n d m : Nat) (l1 l2 : Int32) (x : fn_M) : fn_run 0 (fn_ev 0 (n + 2000) d) (fn_lk fn_d50) (m + 2) 80 [(0, .ref 29), (1, .int l1), (2, .int l2)] [] x =
  some (x, some (.int 0)) :=
  (fn_runc_eq 0 (fn_ev 0 (n + 2000) d) (fn_lk fn_d50) [76, 80, 121, 125, 166, 170] (m + 2) 80 [(0, .ref 29), (1, .int l1), (2, .int l2)] [] x).trans (fc_Node_isValueFor_1_at80 (fn_ev 0 (n + 2000) d) (fn_run 0 (fn_ev 0 (n + 2000) d) (fn_lk fn_d50)) m l1 l2 x)
set_option maxRecDepth 20000 in
theorem fc_Node_isValueFor_1_at121 (cf : Nat → List Value → fn_M → Option fn_R) (K : Nat → fn_K) (m : Nat) (l1 l2 : Int32) (x : fn_M) : fn_runc 0 cf (fn_lk fn_d50) [76, 80, 121, 125, 166, 170] K (m + 3) 121 [(0, .ref 29), (1, .int l1), (2, .int l2)] [] x =
  some (x, some (.int 1)) := rfl
theorem ft_Node_isValueFor_1_at121 (n d m : Nat) (l1 l2 : Int32) (x : fn_M) : fn_run 0 (fn_ev 0 (n + 2000) d) (fn_lk fn_d50) (m + 3) 121 [(0, .ref 29), (1, .int l1), (2, .int l2)] [] x =
  some (x, some (.int 1)) :=
  (fn_runc_eq 0 (fn_ev 0 (n + 2000) d) (fn_lk fn_d50) [76, 80, 121, 125, 166, 170] (m + 3) 121 [(0, .ref 29), (1, .int l1), (2, .int l2)] [] x).trans (fc_Node_isValueFor_1_at121 (fn_ev 0 (n + 2000) d) (fn_run 0 (fn_ev 0 (n + 2000) d) (fn_lk fn_d50)) m l1 l2 x)
set_option maxRecDepth 20000 in
theorem fc_Node_isValueFor_1_at125 (cf : Nat → List Value → fn_M → Option fn_R) (K : Nat → fn_K) (m : Nat) (l1 l2 : Int32) (x : fn_M) : fn_runc 0 cf (fn_lk fn_d50) [76, 80, 121, 125, 166, 170] K (m + 2) 125 [(0, .ref 29), (1, .int l1), (2, .int l2)] [] x =
  some (x, some (.int 0)) := rfl
theorem ft_Node_isValueFor_1_at125 (n d m : Nat) (l1 l2 : Int32) (x : fn_M) : fn_run 0 (fn_ev 0 (n + 2000) d) (fn_lk fn_d50) (m + 2) 125 [(0, .ref 29), (1, .int l1), (2, .int l2)] [] x =
  some (x, some (.int 0)) :=
  (fn_runc_eq 0 (fn_ev 0 (n + 2000) d) (fn_lk fn_d50) [76, 80, 121, 125, 166, 170] (m + 2) 125 [(0, .ref 29), (1, .int l1), (2, .int l2)] [] x).trans (fc_Node_isValueFor_1_at125 (fn_ev 0 (n + 2000) d) (fn_run 0 (fn_ev 0 (n + 2000) d) (fn_lk fn_d50)) m l1 l2 x)
set_option maxRecDepth 20000 in
theorem fc_Node_isValueFor_1_at166 (cf : Nat → List Value → fn_M → Option fn_R) (K : Nat → fn_K) (m : Nat) (l1 l2 : Int32) (x : fn_M) : fn_runc 0 cf (fn_lk fn_d50) [76, 80, 121, 125, 166, 170] K (m + 3) 166 [(0, .ref 29), (1, .int l1), (2, .int l2)] [] x =
  some (x, some (.int 1)) := rfl
theorem ft_Node_isValueFor_1_at166 (n d m : Nat) (l1 l2 : Int32) (x : fn_M) : fn_run 0 (fn_ev 0 (n + 2000) d) (fn_lk fn_d50) (m + 3) 166 [(0, .ref 29), (1, .int l1), (2, .int l2)] [] x =
  some (x, some (.int 1)) :=
  (fn_runc_eq 0 (fn_ev 0 (n + 2000) d) (fn_lk fn_d50) [76, 80, 121, 125, 166, 170] (m + 3) 166 [(0, .ref 29), (1, .int l1), (2, .int l2)] [] x).trans (fc_Node_isValueFor_1_at166 (fn_ev 0 (n + 2000) d) (fn_run 0 (fn_ev 0 (n + 2000) d) (fn_lk fn_d50)) m l1 l2 x)
set_option maxRecDepth 20000 in
theorem fc_Node_isValueFor_1_at170 (cf : Nat → List Value → fn_M → Option fn_R) (K : Nat → fn_K) (m : Nat) (l1 l2 : Int32) (x : fn_M) : fn_runc 0 cf (fn_lk fn_d50) [76, 80, 121, 125, 166, 170] K (m + 2) 170 [(0, .ref 29), (1, .int l1), (2, .int l2)] [] x =
  some (x, some (.int 0)) := rfl
theorem ft_Node_isValueFor_1_at170 (n d m : Nat) (l1 l2 : Int32) (x : fn_M) : fn_run 0 (fn_ev 0 (n + 2000) d) (fn_lk fn_d50) (m + 2) 170 [(0, .ref 29), (1, .int l1), (2, .int l2)] [] x =
  some (x, some (.int 0)) :=
  (fn_runc_eq 0 (fn_ev 0 (n + 2000) d) (fn_lk fn_d50) [76, 80, 121, 125, 166, 170] (m + 2) 170 [(0, .ref 29), (1, .int l1), (2, .int l2)] [] x).trans (fc_Node_isValueFor_1_at170 (fn_ev 0 (n + 2000) d) (fn_run 0 (fn_ev 0 (n + 2000) d) (fn_lk fn_d50)) m l1 l2 x)
set_option maxRecDepth 20000 in
theorem fc_Node_isValueFor_2 (cf : Nat → List Value → fn_M → Option fn_R) (K : Nat → fn_K) (m : Nat) (a1 a2 : Int32) (x : fn_M) : fn_runc 0 cf (fn_lk fn_d50) [76, 80, 121, 125, 166, 170] K (m + 25) 0 [(0, .ref 30), (1, .int a1), (2, .int a2)] [] x =
  (if a1 = 2 then
    (fn_bi (cf 80 [.int a2, .int 0, .int 50] x) (fun y19 v20 =>
      (if v20 = 0 ∨ v20 = 1 then
      some (y19, some (.int v20))
      else
      none)))
    else
    (if a1 = 3 then
      (if a2 = 0 then
        K (m + 21) 76 [(0, .ref 30), (1, .int a1), (2, .int a2)] [] x
        else
        (fn_bi (cf 51 [.ref 30, .int (a2 / 100)] x) (fun y15 v16 =>
          (if v16 = 0 then
          K (m + 15) 80 [(0, .ref 30), (1, .int a1), (2, .int a2)] [] y15
          else
          (fn_bi (cf 80 [.int (a2 - a2 / 100 * 100), .int 1, .int 50] y15) (fun y17 v18 =>
            (if v18 = 0 then
            K (m + 8) 80 [(0, .ref 30), (1, .int a1), (2, .int a2)] [] y17
            else
            K (m + 8) 76 [(0, .ref 30), (1, .int a1), (2, .int a2)] [] y17)))))))
      else
      (if a1 = 4 then
        (fn_bi (cf 80 [.int a2, .int 0, .int 4] x) (fun y13 v14 =>
          (if v14 = 0 ∨ v14 = 1 then
          some (y13, some (.int v14))
          else
          none)))
        else
        (if a1 = 5 then
          (fn_bi (cf 80 [.int a2, .int 0, .int 20] x) (fun y11 v12 =>
            (if v12 = 0 ∨ v12 = 1 then
            some (y11, some (.int v12))
            else
            none)))
          else
          (if a1 = 6 then
            (if a2 = 0 then
              K (m + 21) 121 [(0, .ref 30), (1, .int a1), (2, .int a2)] [] x
              else
              (fn_bi (cf 82 [.int (a2 / 100)] x) (fun y7 v8 =>
                (if v8 = 0 then
                K (m + 16) 125 [(0, .ref 30), (1, .int a1), (2, .int a2)] [] y7
                else
                (fn_bi (cf 82 [.int (a2 - a2 / 100 * 100)] y7) (fun y9 v10 =>
                  (if v10 = 0 then
                  K (m + 11) 125 [(0, .ref 30), (1, .int a1), (2, .int a2)] [] y9
                  else
                  K (m + 11) 121 [(0, .ref 30), (1, .int a1), (2, .int a2)] [] y9)))))))
            else
            (if a1 = 7 then
              (if a2 = 0 then
                K (m + 21) 166 [(0, .ref 30), (1, .int a1), (2, .int a2)] [] x
                else
                (fn_bi (cf 51 [.ref 30, .int (a2 / 10000)] x) (fun y1 v2 =>
                  (if v2 = 0 then
                  K (m + 15) 170 [(0, .ref 30), (1, .int a1), (2, .int a2)] [] y1
                  else
                  (fn_bi (cf 83 [.int ((a2 / 100) - (a2 / 100) / 100 * 100)] y1) (fun y3 v4 =>
                    (if v4 = 0 then
                    K (m + 8) 170 [(0, .ref 30), (1, .int a1), (2, .int a2)] [] y3
                    else
                    (fn_bi (cf 83 [.int (a2 - a2 / 100 * 100)] y3) (fun y5 v6 =>
                      (if v6 = 0 then
                      K (m + 3) 170 [(0, .ref 30), (1, .int a1), (2, .int a2)] [] y5
                      else
                      K (m + 3) 166 [(0, .ref 30), (1, .int a1), (2, .int a2)] [] y5))))))))))
              else
              some (x, some (.int 1)))))))) := rfl
theorem ft_Node_isValueFor_2 (n d : Nat) (a1 a2 : Int32) (x : fn_M) : fn_ev 0 (n + 2000) (d + 1) 50 [.ref 30, .int a1, .int a2] x =
  (if a1 = 2 then
    (fn_bi (fn_ev 0 (n + 2000) d 80 [.int a2, .int 0, .int 50] x) (fun y19 v20 =>
      (if v20 = 0 ∨ v20 = 1 then
      some (y19, some (.int v20))
      else
      none)))
    else
    (if a1 = 3 then
      (if a2 = 0 then
        fn_run 0 (fn_ev 0 (n + 2000) d) (fn_lk fn_d50) (n + 1996) 76 [(0, .ref 30), (1, .int a1), (2, .int a2)] [] x
        else
        (fn_bi (fn_ev 0 (n + 2000) d 51 [.ref 30, .int (a2 / 100)] x) (fun y15 v16 =>
          (if v16 = 0 then
          fn_run 0 (fn_ev 0 (n + 2000) d) (fn_lk fn_d50) (n + 1990) 80 [(0, .ref 30), (1, .int a1), (2, .int a2)] [] y15
          else
          (fn_bi (fn_ev 0 (n + 2000) d 80 [.int (a2 - a2 / 100 * 100), .int 1, .int 50] y15) (fun y17 v18 =>
            (if v18 = 0 then
            fn_run 0 (fn_ev 0 (n + 2000) d) (fn_lk fn_d50) (n + 1983) 80 [(0, .ref 30), (1, .int a1), (2, .int a2)] [] y17
            else
            fn_run 0 (fn_ev 0 (n + 2000) d) (fn_lk fn_d50) (n + 1983) 76 [(0, .ref 30), (1, .int a1), (2, .int a2)] [] y17)))))))
      else
      (if a1 = 4 then
        (fn_bi (fn_ev 0 (n + 2000) d 80 [.int a2, .int 0, .int 4] x) (fun y13 v14 =>
          (if v14 = 0 ∨ v14 = 1 then
          some (y13, some (.int v14))
          else
          none)))
        else
        (if a1 = 5 then
          (fn_bi (fn_ev 0 (n + 2000) d 80 [.int a2, .int 0, .int 20] x) (fun y11 v12 =>
            (if v12 = 0 ∨ v12 = 1 then
            some (y11, some (.int v12))
            else
            none)))
          else
          (if a1 = 6 then
            (if a2 = 0 then
              fn_run 0 (fn_ev 0 (n + 2000) d) (fn_lk fn_d50) (n + 1996) 121 [(0, .ref 30), (1, .int a1), (2, .int a2)] [] x
              else
              (fn_bi (fn_ev 0 (n + 2000) d 82 [.int (a2 / 100)] x) (fun y7 v8 =>
                (if v8 = 0 then
                fn_run 0 (fn_ev 0 (n + 2000) d) (fn_lk fn_d50) (n + 1991) 125 [(0, .ref 30), (1, .int a1), (2, .int a2)] [] y7
                else
                (fn_bi (fn_ev 0 (n + 2000) d 82 [.int (a2 - a2 / 100 * 100)] y7) (fun y9 v10 =>
                  (if v10 = 0 then
                  fn_run 0 (fn_ev 0 (n + 2000) d) (fn_lk fn_d50) (n + 1986) 125 [(0, .ref 30), (1, .int a1), (2, .int a2)] [] y9
                  else
                  fn_run 0 (fn_ev 0 (n + 2000) d) (fn_lk fn_d50) (n + 1986) 121 [(0, .ref 30), (1, .int a1), (2, .int a2)] [] y9)))))))
            else
            (if a1 = 7 then
              (if a2 = 0 then
                fn_run 0 (fn_ev 0 (n + 2000) d) (fn_lk fn_d50) (n + 1996) 166 [(0, .ref 30), (1, .int a1), (2, .int a2)] [] x
                else
                (fn_bi (fn_ev 0 (n + 2000) d 51 [.ref 30, .int (a2 / 10000)] x) (fun y1 v2 =>
                  (if v2 = 0 then
                  fn_run 0 (fn_ev 0 (n + 2000) d) (fn_lk fn_d50) (n + 1990) 170 [(0, .ref 30), (1, .int a1), (2, .int a2)] [] y1
                  else
                  (fn_bi (fn_ev 0 (n + 2000) d 83 [.int ((a2 / 100) - (a2 / 100) / 100 * 100)] y1) (fun y3 v4 =>
                    (if v4 = 0 then
                    fn_run 0 (fn_ev 0 (n + 2000) d) (fn_lk fn_d50) (n + 1983) 170 [(0, .ref 30), (1, .int a1), (2, .int a2)] [] y3
                    else
                    (fn_bi (fn_ev 0 (n + 2000) d 83 [.int (a2 - a2 / 100 * 100)] y3) (fun y5 v6 =>
                      (if v6 = 0 then
                      fn_run 0 (fn_ev 0 (n + 2000) d) (fn_lk fn_d50) (n + 1978) 170 [(0, .ref 30), (1, .int a1), (2, .int a2)] [] y5
                      else
                      fn_run 0 (fn_ev 0 (n + 2000) d) (fn_lk fn_d50) (n + 1978) 166 [(0, .ref 30), (1, .int a1), (2, .int a2)] [] y5))))))))))
              else
              some (x, some (.int 1)))))))) :=
  fn_ev_t (dd := fn_d50) (lo := [(0, .ref 30), (1, .int a1), (2, .int a2)]) (sp := [76, 80, 121, 125, 166, 170]) rfl rfl rfl (fc_Node_isValueFor_2 (fn_ev 0 (n + 2000) d) (fn_run 0 (fn_ev 0 (n + 2000) d) (fn_lk fn_d50)) (n + 1975) a1 a2 x)
set_option maxRecDepth 20000 in
theorem fc_Node_isValueFor_2_at76 (cf : Nat → List Value → fn_M → Option fn_R) (K : Nat → fn_K) (m : Nat) (l1 l2 : Int32) (x : fn_M) : fn_runc 0 cf (fn_lk fn_d50) [76, 80, 121, 125, 166, 170] K (m + 3) 76 [(0, .ref 30), (1, .int l1), (2, .int l2)] [] x =
  some (x, some (.int 1)) := rfl
theorem ft_Node_isValueFor_2_at76 (n d m : Nat) (l1 l2 : Int32) (x : fn_M) : fn_run 0 (fn_ev 0 (n + 2000) d) (fn_lk fn_d50) (m + 3) 76 [(0, .ref 30), (1, .int l1), (2, .int l2)] [] x =
  some (x, some (.int 1)) :=
  (fn_runc_eq 0 (fn_ev 0 (n + 2000) d) (fn_lk fn_d50) [76, 80, 121, 125, 166, 170] (m + 3) 76 [(0, .ref 30), (1, .int l1), (2, .int l2)] [] x).trans (fc_Node_isValueFor_2_at76 (fn_ev 0 (n + 2000) d) (fn_run 0 (fn_ev 0 (n + 2000) d) (fn_lk fn_d50)) m l1 l2 x)
set_option maxRecDepth 20000 in
theorem fc_Node_isValueFor_2_at80 (cf : Nat → List Value → fn_M → Option fn_R) (K : Nat → fn_K) (m : Nat) (l1 l2 : Int32) (x : fn_M) : fn_runc 0 cf (fn_lk fn_d50) [76, 80, 121, 125, 166, 170] K (m + 2) 80 [(0, .ref 30), (1, .int l1), (2, .int l2)] [] x =
  some (x, some (.int 0)) := rfl
theorem ft_Node_isValueFor_2_at80 (n d m : Nat) (l1 l2 : Int32) (x : fn_M) : fn_run 0 (fn_ev 0 (n + 2000) d) (fn_lk fn_d50) (m + 2) 80 [(0, .ref 30), (1, .int l1), (2, .int l2)] [] x =
  some (x, some (.int 0)) :=
  (fn_runc_eq 0 (fn_ev 0 (n + 2000) d) (fn_lk fn_d50) [76, 80, 121, 125, 166, 170] (m + 2) 80 [(0, .ref 30), (1, .int l1), (2, .int l2)] [] x).trans (fc_Node_isValueFor_2_at80 (fn_ev 0 (n + 2000) d) (fn_run 0 (fn_ev 0 (n + 2000) d) (fn_lk fn_d50)) m l1 l2 x)
set_option maxRecDepth 20000 in
theorem fc_Node_isValueFor_2_at121 (cf : Nat → List Value → fn_M → Option fn_R) (K : Nat → fn_K) (m : Nat) (l1 l2 : Int32) (x : fn_M) : fn_runc 0 cf (fn_lk fn_d50) [76, 80, 121, 125, 166, 170] K (m + 3) 121 [(0, .ref 30), (1, .int l1), (2, .int l2)] [] x =
  some (x, some (.int 1)) := rfl
theorem ft_Node_isValueFor_2_at121 (n d m : Nat) (l1 l2 : Int32) (x : fn_M) : fn_run 0 (fn_ev 0 (n + 2000) d) (fn_lk fn_d50) (m + 3) 121 [(0, .ref 30), (1, .int l1), (2, .int l2)] [] x =
  some (x, some (.int 1)) :=
  (fn_runc_eq 0 (fn_ev 0 (n + 2000) d) (fn_lk fn_d50) [76, 80, 121, 125, 166, 170] (m + 3) 121 [(0, .ref 30), (1, .int l1), (2, .int l2)] [] x).trans (fc_Node_isValueFor_2_at121 (fn_ev 0 (n + 2000) d) (fn_run 0 (fn_ev 0 (n + 2000) d) (fn_lk fn_d50)) m l1 l2 x)
set_option maxRecDepth 20000 in
theorem fc_Node_isValueFor_2_at125 (cf : Nat → List Value → fn_M → Option fn_R) (K : Nat → fn_K) (m : Nat) (l1 l2 : Int32) (x : fn_M) : fn_runc 0 cf (fn_lk fn_d50) [76, 80, 121, 125, 166, 170] K (m + 2) 125 [(0, .ref 30), (1, .int l1), (2, .int l2)] [] x =
  some (x, some (.int 0)) := rfl
theorem ft_Node_isValueFor_2_at125 (n d m : Nat) (l1 l2 : Int32) (x : fn_M) : fn_run 0 (fn_ev 0 (n + 2000) d) (fn_lk fn_d50) (m + 2) 125 [(0, .ref 30), (1, .int l1), (2, .int l2)] [] x =
  some (x, some (.int 0)) :=
  (fn_runc_eq 0 (fn_ev 0 (n + 2000) d) (fn_lk fn_d50) [76, 80, 121, 125, 166, 170] (m + 2) 125 [(0, .ref 30), (1, .int l1), (2, .int l2)] [] x).trans (fc_Node_isValueFor_2_at125 (fn_ev 0 (n + 2000) d) (fn_run 0 (fn_ev 0 (n + 2000) d) (fn_lk fn_d50)) m l1 l2 x)
set_option maxRecDepth 20000 in
theorem fc_Node_isValueFor_2_at166 (cf : Nat → List Value → fn_M → Option fn_R) (K : Nat → fn_K) (m : Nat) (l1 l2 : Int32) (x : fn_M) : fn_runc 0 cf (fn_lk fn_d50) [76, 80, 121, 125, 166, 170] K (m + 3) 166 [(0, .ref 30), (1, .int l1), (2, .int l2)] [] x =
  some (x, some (.int 1)) := rfl
theorem ft_Node_isValueFor_2_at166 (n d m : Nat) (l1 l2 : Int32) (x : fn_M) : fn_run 0 (fn_ev 0 (n + 2000) d) (fn_lk fn_d50) (m + 3) 166 [(0, .ref 30), (1, .int l1), (2, .int l2)] [] x =
  some (x, some (.int 1)) :=
  (fn_runc_eq 0 (fn_ev 0 (n + 2000) d) (fn_lk fn_d50) [76, 80, 121, 125, 166, 170] (m + 3) 166 [(0, .ref 30), (1, .int l1), (2, .int l2)] [] x).trans (fc_Node_isValueFor_2_at166 (fn_ev 0 (n + 2000) d) (fn_run 0 (fn_ev 0 (n + 2000) d) (fn_lk fn_d50)) m l1 l2 x)
set_option maxRecDepth 20000 in
theorem fc_Node_isValueFor_2_at170 (cf : Nat → List Value → fn_M → Option fn_R) (K : Nat → fn_K) (m : Nat) (l1 l2 : Int32) (x : fn_M) : fn_runc 0 cf (fn_lk fn_d50) [76, 80, 121, 125, 166, 170] K (m + 2) 170 [(0, .ref 30), (1, .int l1), (2, .int l2)] [] x =
  some (x, some (.int 0)) := rfl
theorem ft_Node_isValueFor_2_at170 (n d m : Nat) (l1 l2 : Int32) (x : fn_M) : fn_run 0 (fn_ev 0 (n + 2000) d) (fn_lk fn_d50) (m + 2) 170 [(0, .ref 30), (1, .int l1), (2, .int l2)] [] x =
  some (x, some (.int 0)) :=
  (fn_runc_eq 0 (fn_ev 0 (n + 2000) d) (fn_lk fn_d50) [76, 80, 121, 125, 166, 170] (m + 2) 170 [(0, .ref 30), (1, .int l1), (2, .int l2)] [] x).trans (fc_Node_isValueFor_2_at170 (fn_ev 0 (n + 2000) d) (fn_run 0 (fn_ev 0 (n + 2000) d) (fn_lk fn_d50)) m l1 l2 x)
set_option maxRecDepth 20000 in
theorem fc_Node_isValueFor_3 (cf : Nat → List Value → fn_M → Option fn_R) (K : Nat → fn_K) (m : Nat) (a1 a2 : Int32) (x : fn_M) : fn_runc 0 cf (fn_lk fn_d50) [76, 80, 121, 125, 166, 170] K (m + 25) 0 [(0, .ref 31), (1, .int a1), (2, .int a2)] [] x =
  (if a1 = 2 then
    (fn_bi (cf 80 [.int a2, .int 0, .int 50] x) (fun y19 v20 =>
      (if v20 = 0 ∨ v20 = 1 then
      some (y19, some (.int v20))
      else
      none)))
    else
    (if a1 = 3 then
      (if a2 = 0 then
        K (m + 21) 76 [(0, .ref 31), (1, .int a1), (2, .int a2)] [] x
        else
        (fn_bi (cf 51 [.ref 31, .int (a2 / 100)] x) (fun y15 v16 =>
          (if v16 = 0 then
          K (m + 15) 80 [(0, .ref 31), (1, .int a1), (2, .int a2)] [] y15
          else
          (fn_bi (cf 80 [.int (a2 - a2 / 100 * 100), .int 1, .int 50] y15) (fun y17 v18 =>
            (if v18 = 0 then
            K (m + 8) 80 [(0, .ref 31), (1, .int a1), (2, .int a2)] [] y17
            else
            K (m + 8) 76 [(0, .ref 31), (1, .int a1), (2, .int a2)] [] y17)))))))
      else
      (if a1 = 4 then
        (fn_bi (cf 80 [.int a2, .int 0, .int 4] x) (fun y13 v14 =>
          (if v14 = 0 ∨ v14 = 1 then
          some (y13, some (.int v14))
          else
          none)))
        else
        (if a1 = 5 then
          (fn_bi (cf 80 [.int a2, .int 0, .int 20] x) (fun y11 v12 =>
            (if v12 = 0 ∨ v12 = 1 then
            some (y11, some (.int v12))
            else
            none)))
          else
          (if a1 = 6 then
            (if a2 = 0 then
              K (m + 21) 121 [(0, .ref 31), (1, .int a1), (2, .int a2)] [] x
              else
              (fn_bi (cf 82 [.int (a2 / 100)] x) (fun y7 v8 =>
                (if v8 = 0 then
                K (m + 16) 125 [(0, .ref 31), (1, .int a1), (2, .int a2)] [] y7
                else
                (fn_bi (cf 82 [.int (a2 - a2 / 100 * 100)] y7) (fun y9 v10 =>
                  (if v10 = 0 then
                  K (m + 11) 125 [(0, .ref 31), (1, .int a1), (2, .int a2)] [] y9
                  else
                  K (m + 11) 121 [(0, .ref 31), (1, .int a1), (2, .int a2)] [] y9)))))))
            else
            (if a1 = 7 then
              (if a2 = 0 then
                K (m + 21) 166 [(0, .ref 31), (1, .int a1), (2, .int a2)] [] x
                else
                (fn_bi (cf 51 [.ref 31, .int (a2 / 10000)] x) (fun y1 v2 =>
                  (if v2 = 0 then
                  K (m + 15) 170 [(0, .ref 31), (1, .int a1), (2, .int a2)] [] y1
                  else
                  (fn_bi (cf 83 [.int ((a2 / 100) - (a2 / 100) / 100 * 100)] y1) (fun y3 v4 =>
                    (if v4 = 0 then
                    K (m + 8) 170 [(0, .ref 31), (1, .int a1), (2, .int a2)] [] y3
                    else
                    (fn_bi (cf 83 [.int (a2 - a2 / 100 * 100)] y3) (fun y5 v6 =>
                      (if v6 = 0 then
                      K (m + 3) 170 [(0, .ref 31), (1, .int a1), (2, .int a2)] [] y5
                      else
                      K (m + 3) 166 [(0, .ref 31), (1, .int a1), (2, .int a2)] [] y5))))))))))
              else
              some (x, some (.int 1)))))))) := rfl
theorem ft_Node_isValueFor_3 (n d : Nat) (a1 a2 : Int32) (x : fn_M) : fn_ev 0 (n + 2000) (d + 1) 50 [.ref 31, .int a1, .int a2] x =
  (if a1 = 2 then
    (fn_bi (fn_ev 0 (n + 2000) d 80 [.int a2, .int 0, .int 50] x) (fun y19 v20 =>
      (if v20 = 0 ∨ v20 = 1 then
      some (y19, some (.int v20))
      else
      none)))
    else
    (if a1 = 3 then
      (if a2 = 0 then
        fn_run 0 (fn_ev 0 (n + 2000) d) (fn_lk fn_d50) (n + 1996) 76 [(0, .ref 31), (1, .int a1), (2, .int a2)] [] x
        else
        (fn_bi (fn_ev 0 (n + 2000) d 51 [.ref 31, .int (a2 / 100)] x) (fun y15 v16 =>
          (if v16 = 0 then
          fn_run 0 (fn_ev 0 (n + 2000) d) (fn_lk fn_d50) (n + 1990) 80 [(0, .ref 31), (1, .int a1), (2, .int a2)] [] y15
          else
          (fn_bi (fn_ev 0 (n + 2000) d 80 [.int (a2 - a2 / 100 * 100), .int 1, .int 50] y15) (fun y17 v18 =>
            (if v18 = 0 then
            fn_run 0 (fn_ev 0 (n + 2000) d) (fn_lk fn_d50) (n + 1983) 80 [(0, .ref 31), (1, .int a1), (2, .int a2)] [] y17
            else
            fn_run 0 (fn_ev 0 (n + 2000) d) (fn_lk fn_d50) (n + 1983) 76 [(0, .ref 31), (1, .int a1), (2, .int a2)] [] y17)))))))
      else
      (if a1 = 4 then
        (fn_bi (fn_ev 0 (n + 2000) d 80 [.int a2, .int 0, .int 4] x) (fun y13 v14 =>
          (if v14 = 0 ∨ v14 = 1 then
          some (y13, some (.int v14))
          else
          none)))
        else
        (if a1 = 5 then
          (fn_bi (fn_ev 0 (n + 2000) d 80 [.int a2, .int 0, .int 20] x) (fun y11 v12 =>
            (if v12 = 0 ∨ v12 = 1 then
            some (y11, some (.int v12))
            else
            none)))
          else
          (if a1 = 6 then
            (if a2 = 0 then
              fn_run 0 (fn_ev 0 (n + 2000) d) (fn_lk fn_d50) (n + 1996) 121 [(0, .ref 31), (1, .int a1), (2, .int a2)] [] x
              else
              (fn_bi (fn_ev 0 (n + 2000) d 82 [.int (a2 / 100)] x) (fun y7 v8 =>
                (if v8 = 0 then
                fn_run 0 (fn_ev 0 (n + 2000) d) (fn_lk fn_d50) (n + 1991) 125 [(0, .ref 31), (1, .int a1), (2, .int a2)] [] y7
                else
                (fn_bi (fn_ev 0 (n + 2000) d 82 [.int (a2 - a2 / 100 * 100)] y7) (fun y9 v10 =>
                  (if v10 = 0 then
                  fn_run 0 (fn_ev 0 (n + 2000) d) (fn_lk fn_d50) (n + 1986) 125 [(0, .ref 31), (1, .int a1), (2, .int a2)] [] y9
                  else
                  fn_run 0 (fn_ev 0 (n + 2000) d) (fn_lk fn_d50) (n + 1986) 121 [(0, .ref 31), (1, .int a1), (2, .int a2)] [] y9)))))))
            else
            (if a1 = 7 then
              (if a2 = 0 then
                fn_run 0 (fn_ev 0 (n + 2000) d) (fn_lk fn_d50) (n + 1996) 166 [(0, .ref 31), (1, .int a1), (2, .int a2)] [] x
                else
                (fn_bi (fn_ev 0 (n + 2000) d 51 [.ref 31, .int (a2 / 10000)] x) (fun y1 v2 =>
                  (if v2 = 0 then
                  fn_run 0 (fn_ev 0 (n + 2000) d) (fn_lk fn_d50) (n + 1990) 170 [(0, .ref 31), (1, .int a1), (2, .int a2)] [] y1
                  else
                  (fn_bi (fn_ev 0 (n + 2000) d 83 [.int ((a2 / 100) - (a2 / 100) / 100 * 100)] y1) (fun y3 v4 =>
                    (if v4 = 0 then
                    fn_run 0 (fn_ev 0 (n + 2000) d) (fn_lk fn_d50) (n + 1983) 170 [(0, .ref 31), (1, .int a1), (2, .int a2)] [] y3
                    else
                    (fn_bi (fn_ev 0 (n + 2000) d 83 [.int (a2 - a2 / 100 * 100)] y3) (fun y5 v6 =>
                      (if v6 = 0 then
                      fn_run 0 (fn_ev 0 (n + 2000) d) (fn_lk fn_d50) (n + 1978) 170 [(0, .ref 31), (1, .int a1), (2, .int a2)] [] y5
                      else
                      fn_run 0 (fn_ev 0 (n + 2000) d) (fn_lk fn_d50) (n + 1978) 166 [(0, .ref 31), (1, .int a1), (2, .int a2)] [] y5))))))))))
              else
              some (x, some (.int 1)))))))) :=
  fn_ev_t (dd := fn_d50) (lo := [(0, .ref 31), (1, .int a1), (2, .int a2)]) (sp := [76, 80, 121, 125, 166, 170]) rfl rfl rfl (fc_Node_isValueFor_3 (fn_ev 0 (n + 2000) d) (fn_run 0 (fn_ev 0 (n + 2000) d) (fn_lk fn_d50)) (n + 1975) a1 a2 x)
set_option maxRecDepth 20000 in
theorem fc_Node_isValueFor_3_at76 (cf : Nat → List Value → fn_M → Option fn_R) (K : Nat → fn_K) (m : Nat) (l1 l2 : Int32) (x : fn_M) : fn_runc 0 cf (fn_lk fn_d50) [76, 80, 121, 125, 166, 170] K (m + 3) 76 [(0, .ref 31), (1, .int l1), (2, .int l2)] [] x =
  some (x, some (.int 1)) := rfl
theorem ft_Node_isValueFor_3_at76 (n d m : Nat) (l1 l2 : Int32) (x : fn_M) : fn_run 0 (fn_ev 0 (n + 2000) d) (fn_lk fn_d50) (m + 3) 76 [(0, .ref 31), (1, .int l1), (2, .int l2)] [] x =
  some (x, some (.int 1)) :=
  (fn_runc_eq 0 (fn_ev 0 (n + 2000) d) (fn_lk fn_d50) [76, 80, 121, 125, 166, 170] (m + 3) 76 [(0, .ref 31), (1, .int l1), (2, .int l2)] [] x).trans (fc_Node_isValueFor_3_at76 (fn_ev 0 (n + 2000) d) (fn_run 0 (fn_ev 0 (n + 2000) d) (fn_lk fn_d50)) m l1 l2 x)
set_option maxRecDepth 20000 in
theorem fc_Node_isValueFor_3_at80 (cf : Nat → List Value → fn_M → Option fn_R) (K : Nat → fn_K) (m : Nat) (l1 l2 : Int32) (x : fn_M) : fn_runc 0 cf (fn_lk fn_d50) [76, 80, 121, 125, 166, 170] K (m + 2) 80 [(0, .ref 31), (1, .int l1), (2, .int l2)] [] x =
  some (x, some (.int 0)) := rfl
theorem ft_Node_isValueFor_3_at80 (n d m : Nat) (l1 l2 : Int32) (x : fn_M) : fn_run 0 (fn_ev 0 (n + 2000) d) (fn_lk fn_d50) (m + 2) 80 [(0, .ref 31), (1, .int l1), (2, .int l2)] [] x =
  some (x, some (.int 0)) :=
  (fn_runc_eq 0 (fn_ev 0 (n + 2000) d) (fn_lk fn_d50) [76, 80, 121, 125, 166, 170] (m + 2) 80 [(0, .ref 31), (1, .int l1), (2, .int l2)] [] x).trans (fc_Node_isValueFor_3_at80 (fn_ev 0 (n + 2000) d) (fn_run 0 (fn_ev 0 (n + 2000) d) (fn_lk fn_d50)) m l1 l2 x)
set_option maxRecDepth 20000 in
theorem fc_Node_isValueFor_3_at121 (cf : Nat → List Value → fn_M → Option fn_R) (K : Nat → fn_K) (m : Nat) (l1 l2 : Int32) (x : fn_M) : fn_runc 0 cf (fn_lk fn_d50) [76, 80, 121, 125, 166, 170] K (m + 3) 121 [(0, .ref 31), (1, .int l1), (2, .int l2)] [] x =
  some (x, some (.int 1)) := rfl
theorem ft_Node_isValueFor_3_at121 (n d m : Nat) (l1 l2 : Int32) (x : fn_M) : fn_run 0 (fn_ev 0 (n + 2000) d) (fn_lk fn_d50) (m + 3) 121 [(0, .ref 31), (1, .int l1), (2, .int l2)] [] x =
  some (x, some (.int 1)) :=
  (fn_runc_eq 0 (fn_ev 0 (n + 2000) d) (fn_lk fn_d50) [76, 80, 121, 125, 166, 170] (m + 3) 121 [(0, .ref 31), (1, .int l1), (2, .int l2)] [] x).trans (fc_Node_isValueFor_3_at121 (fn_ev 0 (n + 2000) d) (fn_run 0 (fn_ev 0 (n + 2000) d) (fn_lk fn_d50)) m l1 l2 x)
set_option maxRecDepth 20000 in
theorem fc_Node_isValueFor_3_at125 (cf : Nat → List Value → fn_M → Option fn_R) (K : Nat → fn_K) (m : Nat) (l1 l2 : Int32) (x : fn_M) : fn_runc 0 cf (fn_lk fn_d50) [76, 80, 121, 125, 166, 170] K (m + 2) 125 [(0, .ref 31), (1, .int l1), (2, .int l2)] [] x =
  some (x, some (.int 0)) := rfl
theorem ft_Node_isValueFor_3_at125 (n d m : Nat) (l1 l2 : Int32) (x : fn_M) : fn_run 0 (fn_ev 0 (n + 2000) d) (fn_lk fn_d50) (m + 2) 125 [(0, .ref 31), (1, .int l1), (2, .int l2)] [] x =
  some (x, some (.int 0)) :=
  (fn_runc_eq 0 (fn_ev 0 (n + 2000) d) (fn_lk fn_d50) [76, 80, 121, 125, 166, 170] (m + 2) 125 [(0, .ref 31), (1, .int l1), (2, .int l2)] [] x).trans (fc_Node_isValueFor_3_at125 (fn_ev 0 (n + 2000) d) (fn_run 0 (fn_ev 0 (n + 2000) d) (fn_lk fn_d50)) m l1 l2 x)
set_option maxRecDepth 20000 in
theorem fc_Node_isValueFor_3_at166 (cf : Nat → List Value → fn_M → Option fn_R) (K : Nat → fn_K) (m : Nat) (l1 l2 : Int32) (x : fn_M) : fn_runc 0 cf (fn_lk fn_d50) [76, 80, 121, 125, 166, 170] K (m + 3) 166 [(0, .ref 31), (1, .int l1), (2, .int l2)] [] x =
  some (x, some (.int 1)) := rfl
theorem ft_Node_isValueFor_3_at166 (n d m : Nat) (l1 l2 : Int32) (x : fn_M) : fn_run 0 (fn_ev 0 (n + 2000) d) (fn_lk fn_d50) (m + 3) 166 [(0, .ref 31), (1, .int l1), (2, .int l2)] [] x =
  some (x, some (.int 1)) :=
  (fn_runc_eq 0 (fn_ev 0 (n + 2000) d) (fn_lk fn_d50) [76, 80, 121, 125, 166, 170] (m + 3) 166 [(0, .ref 31), (1, .int l1), (2, .int l2)] [] x).trans (fc_Node_isValueFor_3_at166 (fn_ev 0 (n + 2000) d) (fn_run 0 (fn_ev 0 (n + 2000) d) (fn_lk fn_d50)) m l1 l2 x)
set_option maxRecDepth 20000 in
theorem fc_Node_isValueFor_3_at170 (cf : Nat → List Value → fn_M → Option fn_R) (K : Nat → fn_K) (m : Nat) (l1 l2 : Int32) (x : fn_M) : fn_runc 0 cf (fn_lk fn_d50) [76, 80, 121, 125, 166, 170] K (m + 2) 170 [(0, .ref 31), (1, .int l1), (2, .int l2)] [] x =
  some (x, some (.int 0)) := rfl
theorem ft_Node_isValueFor_3_at170 (n d m : Nat) (l1 l2 : Int32) (x : fn_M) : fn_run 0 (fn_ev 0 (n + 2000) d) (fn_lk fn_d50) (m + 2) 170 [(0, .ref 31), (1, .int l1), (2, .int l2)] [] x =
  some (x, some (.int 0)) :=
  (fn_runc_eq 0 (fn_ev 0 (n + 2000) d) (fn_lk fn_d50) [76, 80, 121, 125, 166, 170] (m + 2) 170 [(0, .ref 31), (1, .int l1), (2, .int l2)] [] x).trans (fc_Node_isValueFor_3_at170 (fn_ev 0 (n + 2000) d) (fn_run 0 (fn_ev 0 (n + 2000) d) (fn_lk fn_d50)) m l1 l2 x)
set_option maxRecDepth 20000 in
theorem fc_Node_isValueFor_4 (cf : Nat → List Value → fn_M → Option fn_R) (K : Nat → fn_K) (m : Nat) (a1 a2 : Int32) (x : fn_M) : fn_runc 0 cf (fn_lk fn_d50) [76, 80, 121, 125, 166, 170] K (m + 25) 0 [(0, .ref 32), (1, .int a1), (2, .int a2)] [] x =
  (if a1 = 2 then
    (fn_bi (cf 80 [.int a2, .int 0, .int 50] x) (fun y19 v20 =>
      (if v20 = 0 ∨ v20 = 1 then
      some (y19, some (.int v20))
      else
      none)))
    else
    (if a1 = 3 then
      (if a2 = 0 then
        K (m + 21) 76 [(0, .ref 32), (1, .int a1), (2, .int a2)] [] x
        else
        (fn_bi (cf 51 [.ref 32, .int (a2 / 100)] x) (fun y15 v16 =>
          (if v16 = 0 then
          K (m + 15) 80 [(0, .ref 32), (1, .int a1), (2, .int a2)] [] y15
          else
          (fn_bi (cf 80 [.int (a2 - a2 / 100 * 100), .int 1, .int 50] y15) (fun y17 v18 =>
            (if v18 = 0 then
            K (m + 8) 80 [(0, .ref 32), (1, .int a1), (2, .int a2)] [] y17
            else
            K (m + 8) 76 [(0, .ref 32), (1, .int a1), (2, .int a2)] [] y17)))))))
      else
      (if a1 = 4 then
        (fn_bi (cf 80 [.int a2, .int 0, .int 4] x) (fun y13 v14 =>
          (if v14 = 0 ∨ v14 = 1 then
          some (y13, some (.int v14))
          else
          none)))
        else
        (if a1 = 5 then
          (fn_bi (cf 80 [.int a2, .int 0, .int 20] x) (fun y11 v12 =>
            (if v12 = 0 ∨ v12 = 1 then
            some (y11, some (.int v12))
            else
            none)))
          else
          (if a1 = 6 then
            (if a2 = 0 then
              K (m + 21) 121 [(0, .ref 32), (1, .int a1), (2, .int a2)] [] x
              else
              (fn_bi (cf 82 [.int (a2 / 100)] x) (fun y7 v8 =>
                (if v8 = 0 then
                K (m + 16) 125 [(0, .ref 32), (1, .int a1), (2, .int a2)] [] y7
                else
                (fn_bi (cf 82 [.int (a2 - a2 / 100 * 100)] y7) (fun y9 v10 =>
                  (if v10 = 0 then
                  K (m + 11) 125 [(0, .ref 32), (1, .int a1), (2, .int a2)] [] y9
                  else
                  K (m + 11) 121 [(0, .ref 32), (1, .int a1), (2, .int a2)] [] y9)))))))
            else
            (if a1 = 7 then
              (if a2 = 0 then
                K (m + 21) 166 [(0, .ref 32), (1, .int a1), (2, .int a2)] [] x
                else
                (fn_bi (cf 51 [.ref 32, .int (a2 / 10000)] x) (fun y1 v2 =>
                  (if v2 = 0 then
                  K (m + 15) 170 [(0, .ref 32), (1, .int a1), (2, .int a2)] [] y1
                  else
                  (fn_bi (cf 83 [.int ((a2 / 100) - (a2 / 100) / 100 * 100)] y1) (fun y3 v4 =>
                    (if v4 = 0 then
                    K (m + 8) 170 [(0, .ref 32), (1, .int a1), (2, .int a2)] [] y3
                    else
                    (fn_bi (cf 83 [.int (a2 - a2 / 100 * 100)] y3) (fun y5 v6 =>
                      (if v6 = 0 then
                      K (m + 3) 170 [(0, .ref 32), (1, .int a1), (2, .int a2)] [] y5
                      else
                      K (m + 3) 166 [(0, .ref 32), (1, .int a1), (2, .int a2)] [] y5))))))))))
              else
              some (x, some (.int 1)))))))) := rfl
theorem ft_Node_isValueFor_4 (n d : Nat) (a1 a2 : Int32) (x : fn_M) : fn_ev 0 (n + 2000) (d + 1) 50 [.ref 32, .int a1, .int a2] x =
  (if a1 = 2 then
    (fn_bi (fn_ev 0 (n + 2000) d 80 [.int a2, .int 0, .int 50] x) (fun y19 v20 =>
      (if v20 = 0 ∨ v20 = 1 then
      some (y19, some (.int v20))
      else
      none)))
    else
    (if a1 = 3 then
      (if a2 = 0 then
        fn_run 0 (fn_ev 0 (n + 2000) d) (fn_lk fn_d50) (n + 1996) 76 [(0, .ref 32), (1, .int a1), (2, .int a2)] [] x
        else
        (fn_bi (fn_ev 0 (n + 2000) d 51 [.ref 32, .int (a2 / 100)] x) (fun y15 v16 =>
          (if v16 = 0 then
          fn_run 0 (fn_ev 0 (n + 2000) d) (fn_lk fn_d50) (n + 1990) 80 [(0, .ref 32), (1, .int a1), (2, .int a2)] [] y15
          else
          (fn_bi (fn_ev 0 (n + 2000) d 80 [.int (a2 - a2 / 100 * 100), .int 1, .int 50] y15) (fun y17 v18 =>
            (if v18 = 0 then
            fn_run 0 (fn_ev 0 (n + 2000) d) (fn_lk fn_d50) (n + 1983) 80 [(0, .ref 32), (1, .int a1), (2, .int a2)] [] y17
            else
            fn_run 0 (fn_ev 0 (n + 2000) d) (fn_lk fn_d50) (n + 1983) 76 [(0, .ref 32), (1, .int a1), (2, .int a2)] [] y17)))))))
      else
      (if a1 = 4 then
        (fn_bi (fn_ev 0 (n + 2000) d 80 [.int a2, .int 0, .int 4] x) (fun y13 v14 =>
          (if v14 = 0 ∨ v14 = 1 then
          some (y13, some (.int v14))
          else
          none)))
        else
        (if a1 = 5 then
          (fn_bi (fn_ev 0 (n + 2000) d 80 [.int a2, .int 0, .int 20] x) (fun y11 v12 =>
            (if v12 = 0 ∨ v12 = 1 then
            some (y11, some (.int v12))
            else
            none)))
          else
          (if a1 = 6 then
            (if a2 = 0 then
              fn_run 0 (fn_ev 0 (n + 2000) d) (fn_lk fn_d50) (n + 1996) 121 [(0, .ref 32), (1, .int a1), (2, .int a2)] [] x
              else
              (fn_bi (fn_ev 0 (n + 2000) d 82 [.int (a2 / 100)] x) (fun y7 v8 =>
                (if v8 = 0 then
                fn_run 0 (fn_ev 0 (n + 2000) d) (fn_lk fn_d50) (n + 1991) 125 [(0, .ref 32), (1, .int a1), (2, .int a2)] [] y7
                else
                (fn_bi (fn_ev 0 (n + 2000) d 82 [.int (a2 - a2 / 100 * 100)] y7) (fun y9 v10 =>
                  (if v10 = 0 then
                  fn_run 0 (fn_ev 0 (n + 2000) d) (fn_lk fn_d50) (n + 1986) 125 [(0, .ref 32), (1, .int a1), (2, .int a2)] [] y9
                  else
                  fn_run 0 (fn_ev 0 (n + 2000) d) (fn_lk fn_d50) (n + 1986) 121 [(0, .ref 32), (1, .int a1), (2, .int a2)] [] y9)))))))
            else
            (if a1 = 7 then
              (if a2 = 0 then
                fn_run 0 (fn_ev 0 (n + 2000) d) (fn_lk fn_d50) (n + 1996) 166 [(0, .ref 32), (1, .int a1), (2, .int a2)] [] x
                else
                (fn_bi (fn_ev 0 (n + 2000) d 51 [.ref 32, .int (a2 / 10000)] x) (fun y1 v2 =>
                  (if v2 = 0 then
                  fn_run 0 (fn_ev 0 (n + 2000) d) (fn_lk fn_d50) (n + 1990) 170 [(0, .ref 32), (1, .int a1), (2, .int a2)] [] y1
                  else
                  (fn_bi (fn_ev 0 (n + 2000) d 83 [.int ((a2 / 100) - (a2 / 100) / 100 * 100)] y1) (fun y3 v4 =>
                    (if v4 = 0 then
                    fn_run 0 (fn_ev 0 (n + 2000) d) (fn_lk fn_d50) (n + 1983) 170 [(0, .ref 32), (1, .int a1), (2, .int a2)] [] y3
                    else
                    (fn_bi (fn_ev 0 (n + 2000) d 83 [.int (a2 - a2 / 100 * 100)] y3) (fun y5 v6 =>
                      (if v6 = 0 then
                      fn_run 0 (fn_ev 0 (n + 2000) d) (fn_lk fn_d50) (n + 1978) 170 [(0, .ref 32), (1, .int a1), (2, .int a2)] [] y5
                      else
                      fn_run 0 (fn_ev 0 (n + 2000) d) (fn_lk fn_d50) (n + 1978) 166 [(0, .ref 32), (1, .int a1), (2, .int a2)] [] y5))))))))))
              else
              some (x, some (.int 1)))))))) :=
  fn_ev_t (dd := fn_d50) (lo := [(0, .ref 32), (1, .int a1), (2, .int a2)]) (sp := [76, 80, 121, 125, 166, 170]) rfl rfl rfl (fc_Node_isValueFor_4 (fn_ev 0 (n + 2000) d) (fn_run 0 (fn_ev 0 (n + 2000) d) (fn_lk fn_d50)) (n + 1975) a1 a2 x)
set_option maxRecDepth 20000 in
theorem fc_Node_isValueFor_4_at76 (cf : Nat → List Value → fn_M → Option fn_R) (K : Nat → fn_K) (m : Nat) (l1 l2 : Int32) (x : fn_M) : fn_runc 0 cf (fn_lk fn_d50) [76, 80, 121, 125, 166, 170] K (m + 3) 76 [(0, .ref 32), (1, .int l1), (2, .int l2)] [] x =
  some (x, some (.int 1)) := rfl
theorem ft_Node_isValueFor_4_at76 (n d m : Nat) (l1 l2 : Int32) (x : fn_M) : fn_run 0 (fn_ev 0 (n + 2000) d) (fn_lk fn_d50) (m + 3) 76 [(0, .ref 32), (1, .int l1), (2, .int l2)] [] x =
  some (x, some (.int 1)) :=
  (fn_runc_eq 0 (fn_ev 0 (n + 2000) d) (fn_lk fn_d50) [76, 80, 121, 125, 166, 170] (m + 3) 76 [(0, .ref 32), (1, .int l1), (2, .int l2)] [] x).trans (fc_Node_isValueFor_4_at76 (fn_ev 0 (n + 2000) d) (fn_run 0 (fn_ev 0 (n + 2000) d) (fn_lk fn_d50)) m l1 l2 x)
set_option maxRecDepth 20000 in
theorem fc_Node_isValueFor_4_at80 (cf : Nat → List Value → fn_M → Option fn_R) (K : Nat → fn_K) (m : Nat) (l1 l2 : Int32) (x : fn_M) : fn_runc 0 cf (fn_lk fn_d50) [76, 80, 121, 125, 166, 170] K (m + 2) 80 [(0, .ref 32), (1, .int l1), (2, .int l2)] [] x =
  some (x, some (.int 0)) := rfl
theorem ft_Node_isValueFor_4_at80 (n d m : Nat) (l1 l2 : Int32) (x : fn_M) : fn_run 0 (fn_ev 0 (n + 2000) d) (fn_lk fn_d50) (m + 2) 80 [(0, .ref 32), (1, .int l1), (2, .int l2)] [] x =
  some (x, some (.int 0)) :=
  (fn_runc_eq 0 (fn_ev 0 (n + 2000) d) (fn_lk fn_d50) [76, 80, 121, 125, 166, 170] (m + 2) 80 [(0, .ref 32), (1, .int l1), (2, .int l2)] [] x).trans (fc_Node_isValueFor_4_at80 (fn_ev 0 (n + 2000) d) (fn_run 0 (fn_ev 0 (n + 2000) d) (fn_lk fn_d50)) m l1 l2 x)
set_option maxRecDepth 20000 in
theorem fc_Node_isValueFor_4_at121 (cf : Nat → List Value → fn_M → Option fn_R) (K : Nat → fn_K) (m : Nat) (l1 l2 : Int32) (x : fn_M) : fn_runc 0 cf (fn_lk fn_d50) [76, 80, 121, 125, 166, 170] K (m + 3) 121 [(0, .ref 32), (1, .int l1), (2, .int l2)] [] x =
  some (x, some (.int 1)) := rfl
theorem ft_Node_isValueFor_4_at121 (n d m : Nat) (l1 l2 : Int32) (x : fn_M) : fn_run 0 (fn_ev 0 (n + 2000) d) (fn_lk fn_d50) (m + 3) 121 [(0, .ref 32), (1, .int l1), (2, .int l2)] [] x =
  some (x, some (.int 1)) :=
  (fn_runc_eq 0 (fn_ev 0 (n + 2000) d) (fn_lk fn_d50) [76, 80, 121, 125, 166, 170] (m + 3) 121 [(0, .ref 32), (1, .int l1), (2, .int l2)] [] x).trans (fc_Node_isValueFor_4_at121 (fn_ev 0 (n + 2000) d) (fn_run 0 (fn_ev 0 (n + 2000) d) (fn_lk fn_d50)) m l1 l2 x)
set_option maxRecDepth 20000 in
theorem fc_Node_isValueFor_4_at125 (cf : Nat → List Value → fn_M → Option fn_R) (K : Nat → fn_K) (m : Nat) (l1 l2 : Int32) (x : fn_M) : fn_runc 0 cf (fn_lk fn_d50) [76, 80, 121, 125, 166, 170] K (m + 2) 125 [(0, .ref 32), (1, .int l1), (2, .int l2)] [] x =
  some (x, some (.int 0)) := rfl
theorem ft_Node_isValueFor_4_at125 (n d m : Nat) (l1 l2 : Int32) (x : fn_M) : fn_run 0 (fn_ev 0 (n + 2000) d) (fn_lk fn_d50) (m + 2) 125 [(0, .ref 32), (1, .int l1), (2, .int l2)] [] x =
  some (x, some (.int 0)) :=
  (fn_runc_eq 0 (fn_ev 0 (n + 2000) d) (fn_lk fn_d50) [76, 80, 121, 125, 166, 170] (m + 2) 125 [(0, .ref 32), (1, .int l1), (2, .int l2)] [] x).trans (fc_Node_isValueFor_4_at125 (fn_ev 0 (n + 2000) d) (fn_run 0 (fn_ev 0 (n + 2000) d) (fn_lk fn_d50)) m l1 l2 x)
set_option maxRecDepth 20000 in
theorem fc_Node_isValueFor_4_at166 (cf : Nat → List Value → fn_M → Option fn_R) (K : Nat → fn_K) (m : Nat) (l1 l2 : Int32) (x : fn_M) : fn_runc 0 cf (fn_lk fn_d50) [76, 80, 121, 125, 166, 170] K (m + 3) 166 [(0, .ref 32), (1, .int l1), (2, .int l2)] [] x =
  some (x, some (.int 1)) := rfl
theorem ft_Node_isValueFor_4_at166 (n d m : Nat) (l1 l2 : Int32) (x : fn_M) : fn_run 0 (fn_ev 0 (n + 2000) d) (fn_lk fn_d50) (m + 3) 166 [(0, .ref 32), (1, .int l1), (2, .int l2)] [] x =
  some (x, some (.int 1)) :=
  (fn_runc_eq 0 (fn_ev 0 (n + 2000) d) (fn_lk fn_d50) [76, 80, 121, 125, 166, 170] (m + 3) 166 [(0, .ref 32), (1, .int l1), (2, .int l2)] [] x).trans (fc_Node_isValueFor_4_at166 (fn_ev 0 (n + 2000) d) (fn_run 0 (fn_ev 0 (n + 2000) d) (fn_lk fn_d50)) m l1 l2 x)
set_option maxRecDepth 20000 in
theorem fc_Node_isValueFor_4_at170 (cf : Nat → List Value → fn_M → Option fn_R) (K : Nat → fn_K) (m : Nat) (l1 l2 : Int32) (x : fn_M) : fn_runc 0 cf (fn_lk fn_d50) [76, 80, 121, 125, 166, 170] K (m + 2) 170 [(0, .ref 32), (1, .int l1), (2, .int l2)] [] x =
  some (x, some (.int 0)) := rfl
theorem ft_Node_isValueFor_4_at170 (n d m : Nat) (l1 l2 : Int32) (x : fn_M) : fn_run 0 (fn_ev 0 (n + 2000) d) (fn_lk fn_d50) (m + 2) 170 [(0, .ref 32), (1, .int l1), (2, .int l2)] [] x =
  some (x, some (.int 0)) :=
  (fn_runc_eq 0 (fn_ev 0 (n + 2000) d) (fn_lk fn_d50) [76, 80, 121, 125, 166, 170] (m + 2) 170 [(0, .ref 32), (1, .int l1), (2, .int l2)] [] x).trans (fc_Node_isValueFor_4_at170 (fn_ev 0 (n + 2000) d) (fn_run 0 (fn_ev 0 (n + 2000) d) (fn_lk fn_d50)) m l1 l2 x)
set_option maxRecDepth 20000 in
theorem fc_Node_isOther_1 (cf : Nat → List Value → fn_M → Option fn_R) (K : Nat → fn_K) (m : Nat) (a1 : Int32) (x : fn_M) : fn_runc 0 cf (fn_lk fn_d51) [] K (m + 13) 0 [(0, .ref 29), (1, .int a1)] [] x =
  (if a1 < 1 then
    some (x, some (.int 0))
    else
    (if 4 < a1 then
      some (x, some (.int 0))
      else
      (if a1 = (x 29 0) then
        some (x, some (.int 0))
        else
        some (x, some (.int 1))))) := rfl
theorem ft_Node_isOther_1 (n d : Nat) (a1 : Int32) (x : fn_M) : fn_ev 0 (n + 2000) (d + 1) 51 [.ref 29, .int a1] x =
  (if a1 < 1 then
    some (x, some (.int 0))
    else
    (if 4 < a1 then
      some (x, some (.int 0))
      else
      (if a1 = (x 29 0) then
        some (x, some (.int 0))
        else
        some (x, some (.int 1))))) :=
  fn_ev_t (dd := fn_d51) (lo := [(0, .ref 29), (1, .int a1)]) (sp := []) rfl rfl rfl (fc_Node_isOther_1 (fn_ev 0 (n + 2000) d) (fn_run 0 (fn_ev 0 (n + 2000) d) (fn_lk fn_d51)) (n + 1987) a1 x)
set_option maxRecDepth 20000 in
theorem fc_Node_isOther_2 (cf : Nat → List Value → fn_M → Option fn_R) (K : Nat → fn_K) (m : Nat) (a1 : Int32) (x : fn_M) : fn_runc 0 cf (fn_lk fn_d51) [] K (m + 13) 0 [(0, .ref 30), (1, .int a1)] [] x =
  (if a1 < 1 then
    some (x, some (.int 0))
    else
    (if 4 < a1 then
      some (x, some (.int 0))
      else
      (if a1 = (x 30 0) then
        some (x, some (.int 0))
        else
        some (x, some (.int 1))))) := rfl
theorem ft_Node_isOther_2 (n d : Nat) (a1 : Int32) (x : fn_M) : fn_ev 0 (n + 2000) (d + 1) 51 [.ref 30, .int a1] x =
  (if a1 < 1 then
    some (x, some (.int 0))
    else
    (if 4 < a1 then
      some (x, some (.int 0))
      else
      (if a1 = (x 30 0) then
        some (x, some (.int 0))
        else
        some (x, some (.int 1))))) :=
  fn_ev_t (dd := fn_d51) (lo := [(0, .ref 30), (1, .int a1)]) (sp := []) rfl rfl rfl (fc_Node_isOther_2 (fn_ev 0 (n + 2000) d) (fn_run 0 (fn_ev 0 (n + 2000) d) (fn_lk fn_d51)) (n + 1987) a1 x)
set_option maxRecDepth 20000 in
theorem fc_Node_isOther_3 (cf : Nat → List Value → fn_M → Option fn_R) (K : Nat → fn_K) (m : Nat) (a1 : Int32) (x : fn_M) : fn_runc 0 cf (fn_lk fn_d51) [] K (m + 13) 0 [(0, .ref 31), (1, .int a1)] [] x =
  (if a1 < 1 then
    some (x, some (.int 0))
    else
    (if 4 < a1 then
      some (x, some (.int 0))
      else
      (if a1 = (x 31 0) then
        some (x, some (.int 0))
        else
        some (x, some (.int 1))))) := rfl
theorem ft_Node_isOther_3 (n d : Nat) (a1 : Int32) (x : fn_M) : fn_ev 0 (n + 2000) (d + 1) 51 [.ref 31, .int a1] x =
  (if a1 < 1 then
    some (x, some (.int 0))
    else
    (if 4 < a1 then
      some (x, some (.int 0))
      else
      (if a1 = (x 31 0) then
        some (x, some (.int 0))
        else
        some (x, some (.int 1))))) :=
  fn_ev_t (dd := fn_d51) (lo := [(0, .ref 31), (1, .int a1)]) (sp := []) rfl rfl rfl (fc_Node_isOther_3 (fn_ev 0 (n + 2000) d) (fn_run 0 (fn_ev 0 (n + 2000) d) (fn_lk fn_d51)) (n + 1987) a1 x)
set_option maxRecDepth 20000 in
theorem fc_Node_isOther_4 (cf : Nat → List Value → fn_M → Option fn_R) (K : Nat → fn_K) (m : Nat) (a1 : Int32) (x : fn_M) : fn_runc 0 cf (fn_lk fn_d51) [] K (m + 13) 0 [(0, .ref 32), (1, .int a1)] [] x =
  (if a1 < 1 then
    some (x, some (.int 0))
    else
    (if 4 < a1 then
      some (x, some (.int 0))
      else
      (if a1 = (x 32 0) then
        some (x, some (.int 0))
        else
        some (x, some (.int 1))))) := rfl
theorem ft_Node_isOther_4 (n d : Nat) (a1 : Int32) (x : fn_M) : fn_ev 0 (n + 2000) (d + 1) 51 [.ref 32, .int a1] x =
  (if a1 < 1 then
    some (x, some (.int 0))
    else
    (if 4 < a1 then
      some (x, some (.int 0))
      else
      (if a1 = (x 32 0) then
        some (x, some (.int 0))
        else
        some (x, some (.int 1))))) :=
  fn_ev_t (dd := fn_d51) (lo := [(0, .ref 32), (1, .int a1)]) (sp := []) rfl rfl rfl (fc_Node_isOther_4 (fn_ev 0 (n + 2000) d) (fn_run 0 (fn_ev 0 (n + 2000) d) (fn_lk fn_d51)) (n + 1987) a1 x)
set_option maxRecDepth 20000 in
theorem fc_Node_serveRead_1 (cf : Nat → List Value → fn_M → Option fn_R) (K : Nat → fn_K) (m : Nat) (a1 : Int32) (x : fn_M) : fn_runc 0 cf (fn_lk fn_d52) [] K (m + 27) 0 [(0, .ref 29), (1, .int a1), (2, .ref 1)] [] x =
  (fn_bi (cf 80 [.int a1, .int 0, .int 16] x) (fun y1 v2 =>
    (if v2 = 0 then
    (fn_bv (cf 47 [.ref 29, .int 9, .int a1, .int 1, .ref 1] y1) (fun y7 =>
      some (y7, none)))
    else
    (if a1 = 16 then
      (fn_bi (cf 138 [.ref 37] (fn_w (fn_w (fn_w y1 29 9 1) 29 10 0) 29 11 0)) (fun y4 v5 =>
        (fn_bv (cf 47 [.ref 29, .int 3, .int 16, .int v5, .ref 1] y4) (fun y6 =>
        some (y6, none)))))
      else
      (if a1 < 0 ∨ 16 ≤ a1.toNatClampNeg then
        none
        else
        (fn_bv (cf 47 [.ref 29, .int 2, .int a1, .int (y1 33 a1.toNatClampNeg), .ref 1] y1) (fun y3 =>
          some (y3, none)))))))) := rfl
theorem ft_Node_serveRead_1 (n d : Nat) (a1 : Int32) (x : fn_M) : fn_ev 0 (n + 2000) (d + 1) 52 [.ref 29, .int a1, .ref 1] x =
  (fn_bi (fn_ev 0 (n + 2000) d 80 [.int a1, .int 0, .int 16] x) (fun y1 v2 =>
    (if v2 = 0 then
    (fn_bv (fn_ev 0 (n + 2000) d 47 [.ref 29, .int 9, .int a1, .int 1, .ref 1] y1) (fun y7 =>
      some (y7, none)))
    else
    (if a1 = 16 then
      (fn_bi (fn_ev 0 (n + 2000) d 138 [.ref 37] (fn_w (fn_w (fn_w y1 29 9 1) 29 10 0) 29 11 0)) (fun y4 v5 =>
        (fn_bv (fn_ev 0 (n + 2000) d 47 [.ref 29, .int 3, .int 16, .int v5, .ref 1] y4) (fun y6 =>
        some (y6, none)))))
      else
      (if a1 < 0 ∨ 16 ≤ a1.toNatClampNeg then
        none
        else
        (fn_bv (fn_ev 0 (n + 2000) d 47 [.ref 29, .int 2, .int a1, .int (y1 33 a1.toNatClampNeg), .ref 1] y1) (fun y3 =>
          some (y3, none)))))))) :=
  fn_ev_t (dd := fn_d52) (lo := [(0, .ref 29), (1, .int a1), (2, .ref 1)]) (sp := []) rfl rfl rfl (fc_Node_serveRead_1 (fn_ev 0 (n + 2000) d) (fn_run 0 (fn_ev 0 (n + 2000) d) (fn_lk fn_d52)) (n + 1973) a1 x)
set_option maxRecDepth 20000 in
theorem fc_Node_serveRead_2 (cf : Nat → List Value → fn_M → Option fn_R) (K : Nat → fn_K) (m : Nat) (a1 : Int32) (x : fn_M) : fn_runc 0 cf (fn_lk fn_d52) [] K (m + 27) 0 [(0, .ref 30), (1, .int a1), (2, .ref 1)] [] x =
  (fn_bi (cf 80 [.int a1, .int 0, .int 16] x) (fun y1 v2 =>
    (if v2 = 0 then
    (fn_bv (cf 47 [.ref 30, .int 9, .int a1, .int 1, .ref 1] y1) (fun y7 =>
      some (y7, none)))
    else
    (if a1 = 16 then
      (fn_bi (cf 138 [.ref 38] (fn_w (fn_w (fn_w y1 30 9 1) 30 10 0) 30 11 0)) (fun y4 v5 =>
        (fn_bv (cf 47 [.ref 30, .int 3, .int 16, .int v5, .ref 1] y4) (fun y6 =>
        some (y6, none)))))
      else
      (if a1 < 0 ∨ 16 ≤ a1.toNatClampNeg then
        none
        else
        (fn_bv (cf 47 [.ref 30, .int 2, .int a1, .int (y1 34 a1.toNatClampNeg), .ref 1] y1) (fun y3 =>
          some (y3, none)))))))) := rfl
theorem ft_Node_serveRead_2 (n d : Nat) (a1 : Int32) (x : fn_M) : fn_ev 0 (n + 2000) (d + 1) 52 [.ref 30, .int a1, .ref 1] x =
  (fn_bi (fn_ev 0 (n + 2000) d 80 [.int a1, .int 0, .int 16] x) (fun y1 v2 =>
    (if v2 = 0 then
    (fn_bv (fn_ev 0 (n + 2000) d 47 [.ref 30, .int 9, .int a1, .int 1, .ref 1] y1) (fun y7 =>
      some (y7, none)))
    else
    (if a1 = 16 then
      (fn_bi (fn_ev 0 (n + 2000) d 138 [.ref 38] (fn_w (fn_w (fn_w y1 30 9 1) 30 10 0) 30 11 0)) (fun y4 v5 =>
        (fn_bv (fn_ev 0 (n + 2000) d 47 [.ref 30, .int 3, .int 16, .int v5, .ref 1] y4) (fun y6 =>
        some (y6, none)))))
      else
      (if a1 < 0 ∨ 16 ≤ a1.toNatClampNeg then
        none
        else
        (fn_bv (fn_ev 0 (n + 2000) d 47 [.ref 30, .int 2, .int a1, .int (y1 34 a1.toNatClampNeg), .ref 1] y1) (fun y3 =>
          some (y3, none)))))))) :=
  fn_ev_t (dd := fn_d52) (lo := [(0, .ref 30), (1, .int a1), (2, .ref 1)]) (sp := []) rfl rfl rfl (fc_Node_serveRead_2 (fn_ev 0 (n + 2000) d) (fn_run 0 (fn_ev 0 (n + 2000) d) (fn_lk fn_d52)) (n + 1973) a1 x)
set_option maxRecDepth 20000 in
theorem fc_Node_serveRead_3 (cf : Nat → List Value → fn_M → Option fn_R) (K : Nat → fn_K) (m : Nat) (a1 : Int32) (x : fn_M) : fn_runc 0 cf (fn_lk fn_d52) [] K (m + 27) 0 [(0, .ref 31), (1, .int a1), (2, .ref 1)] [] x =
  (fn_bi (cf 80 [.int a1, .int 0, .int 16] x) (fun y1 v2 =>
    (if v2 = 0 then
    (fn_bv (cf 47 [.ref 31, .int 9, .int a1, .int 1, .ref 1] y1) (fun y7 =>
      some (y7, none)))
    else
    (if a1 = 16 then
      (fn_bi (cf 138 [.ref 39] (fn_w (fn_w (fn_w y1 31 9 1) 31 10 0) 31 11 0)) (fun y4 v5 =>
        (fn_bv (cf 47 [.ref 31, .int 3, .int 16, .int v5, .ref 1] y4) (fun y6 =>
        some (y6, none)))))
      else
      (if a1 < 0 ∨ 16 ≤ a1.toNatClampNeg then
        none
        else
        (fn_bv (cf 47 [.ref 31, .int 2, .int a1, .int (y1 35 a1.toNatClampNeg), .ref 1] y1) (fun y3 =>
          some (y3, none)))))))) := rfl
theorem ft_Node_serveRead_3 (n d : Nat) (a1 : Int32) (x : fn_M) : fn_ev 0 (n + 2000) (d + 1) 52 [.ref 31, .int a1, .ref 1] x =
  (fn_bi (fn_ev 0 (n + 2000) d 80 [.int a1, .int 0, .int 16] x) (fun y1 v2 =>
    (if v2 = 0 then
    (fn_bv (fn_ev 0 (n + 2000) d 47 [.ref 31, .int 9, .int a1, .int 1, .ref 1] y1) (fun y7 =>
      some (y7, none)))
    else
    (if a1 = 16 then
      (fn_bi (fn_ev 0 (n + 2000) d 138 [.ref 39] (fn_w (fn_w (fn_w y1 31 9 1) 31 10 0) 31 11 0)) (fun y4 v5 =>
        (fn_bv (fn_ev 0 (n + 2000) d 47 [.ref 31, .int 3, .int 16, .int v5, .ref 1] y4) (fun y6 =>
        some (y6, none)))))
      else
      (if a1 < 0 ∨ 16 ≤ a1.toNatClampNeg then
        none
        else
        (fn_bv (fn_ev 0 (n + 2000) d 47 [.ref 31, .int 2, .int a1, .int (y1 35 a1.toNatClampNeg), .ref 1] y1) (fun y3 =>
          some (y3, none)))))))) :=
  fn_ev_t (dd := fn_d52) (lo := [(0, .ref 31), (1, .int a1), (2, .ref 1)]) (sp := []) rfl rfl rfl (fc_Node_serveRead_3 (fn_ev 0 (n + 2000) d) (fn_run 0 (fn_ev 0 (n + 2000) d) (fn_lk fn_d52)) (n + 1973) a1 x)
set_option maxRecDepth 20000 in
theorem fc_Node_serveRead_4 (cf : Nat → List Value → fn_M → Option fn_R) (K : Nat → fn_K) (m : Nat) (a1 : Int32) (x : fn_M) : fn_runc 0 cf (fn_lk fn_d52) [] K (m + 27) 0 [(0, .ref 32), (1, .int a1), (2, .ref 1)] [] x =
  (fn_bi (cf 80 [.int a1, .int 0, .int 16] x) (fun y1 v2 =>
    (if v2 = 0 then
    (fn_bv (cf 47 [.ref 32, .int 9, .int a1, .int 1, .ref 1] y1) (fun y7 =>
      some (y7, none)))
    else
    (if a1 = 16 then
      (fn_bi (cf 138 [.ref 40] (fn_w (fn_w (fn_w y1 32 9 1) 32 10 0) 32 11 0)) (fun y4 v5 =>
        (fn_bv (cf 47 [.ref 32, .int 3, .int 16, .int v5, .ref 1] y4) (fun y6 =>
        some (y6, none)))))
      else
      (if a1 < 0 ∨ 16 ≤ a1.toNatClampNeg then
        none
        else
        (fn_bv (cf 47 [.ref 32, .int 2, .int a1, .int (y1 36 a1.toNatClampNeg), .ref 1] y1) (fun y3 =>
          some (y3, none)))))))) := rfl
theorem ft_Node_serveRead_4 (n d : Nat) (a1 : Int32) (x : fn_M) : fn_ev 0 (n + 2000) (d + 1) 52 [.ref 32, .int a1, .ref 1] x =
  (fn_bi (fn_ev 0 (n + 2000) d 80 [.int a1, .int 0, .int 16] x) (fun y1 v2 =>
    (if v2 = 0 then
    (fn_bv (fn_ev 0 (n + 2000) d 47 [.ref 32, .int 9, .int a1, .int 1, .ref 1] y1) (fun y7 =>
      some (y7, none)))
    else
    (if a1 = 16 then
      (fn_bi (fn_ev 0 (n + 2000) d 138 [.ref 40] (fn_w (fn_w (fn_w y1 32 9 1) 32 10 0) 32 11 0)) (fun y4 v5 =>
        (fn_bv (fn_ev 0 (n + 2000) d 47 [.ref 32, .int 3, .int 16, .int v5, .ref 1] y4) (fun y6 =>
        some (y6, none)))))
      else
      (if a1 < 0 ∨ 16 ≤ a1.toNatClampNeg then
        none
        else
        (fn_bv (fn_ev 0 (n + 2000) d 47 [.ref 32, .int 2, .int a1, .int (y1 36 a1.toNatClampNeg), .ref 1] y1) (fun y3 =>
          some (y3, none)))))))) :=
  fn_ev_t (dd := fn_d52) (lo := [(0, .ref 32), (1, .int a1), (2, .ref 1)]) (sp := []) rfl rfl rfl (fc_Node_serveRead_4 (fn_ev 0 (n + 2000) d) (fn_run 0 (fn_ev 0 (n + 2000) d) (fn_lk fn_d52)) (n + 1973) a1 x)
set_option maxRecDepth 20000 in
theorem fc_Node_serveReadOn_1 (cf : Nat → List Value → fn_M → Option fn_R) (K : Nat → fn_K) (m : Nat) (a1 : Int32) (x : fn_M) : fn_runc 0 cf (fn_lk fn_d53) [54] K (m + 20) 0 [(0, .ref 29), (1, .int a1), (2, .ref 1)] [] x =
  (if (x 29 9) = 0 then
    (fn_bv (cf 47 [.ref 29, .int 9, .int 16, .int 5, .ref 1] (fn_w x 29 9 0)) (fun y1 =>
      some (y1, none)))
    else
    (if a1 = (x 29 11) then
      (fn_bi (cf 138 [.ref 37] x) (fun y2 v3 =>
        (fn_bi (cf 157 [.int 4, .int (v3 - (y2 29 10))] y2) (fun y4 v5 =>
        K (m + 0) 54 [(0, .ref 29), (1, .int a1), (2, .ref 1), (3, .int v5), (4, .int 0), (5, .int 0)] [] y4))))
      else
      (fn_bv (cf 47 [.ref 29, .int 9, .int 16, .int 5, .ref 1] (fn_w x 29 9 0)) (fun y6 =>
        some (y6, none))))) := rfl
theorem ft_Node_serveReadOn_1 (n d : Nat) (a1 : Int32) (x : fn_M) : fn_ev 0 (n + 2000) (d + 1) 53 [.ref 29, .int a1, .ref 1] x =
  (if (x 29 9) = 0 then
    (fn_bv (fn_ev 0 (n + 2000) d 47 [.ref 29, .int 9, .int 16, .int 5, .ref 1] (fn_w x 29 9 0)) (fun y1 =>
      some (y1, none)))
    else
    (if a1 = (x 29 11) then
      (fn_bi (fn_ev 0 (n + 2000) d 138 [.ref 37] x) (fun y2 v3 =>
        (fn_bi (fn_ev 0 (n + 2000) d 157 [.int 4, .int (v3 - (y2 29 10))] y2) (fun y4 v5 =>
        fn_run 0 (fn_ev 0 (n + 2000) d) (fn_lk fn_d53) (n + 1980) 54 [(0, .ref 29), (1, .int a1), (2, .ref 1), (3, .int v5), (4, .int 0), (5, .int 0)] [] y4))))
      else
      (fn_bv (fn_ev 0 (n + 2000) d 47 [.ref 29, .int 9, .int 16, .int 5, .ref 1] (fn_w x 29 9 0)) (fun y6 =>
        some (y6, none))))) :=
  fn_ev_t (dd := fn_d53) (lo := [(0, .ref 29), (1, .int a1), (2, .ref 1)]) (sp := [54]) rfl rfl rfl (fc_Node_serveReadOn_1 (fn_ev 0 (n + 2000) d) (fn_run 0 (fn_ev 0 (n + 2000) d) (fn_lk fn_d53)) (n + 1980) a1 x)
set_option maxRecDepth 20000 in
theorem fc_Node_serveReadOn_1_at54 (cf : Nat → List Value → fn_M → Option fn_R) (K : Nat → fn_K) (m : Nat) (l1 l3 l4 l5 : Int32) (x : fn_M) : fn_runc 0 cf (fn_lk fn_d53) [54] K (m + 37) 54 [(0, .ref 29), (1, .int l1), (2, .ref 1), (3, .int l3), (4, .int l4), (5, .int l5)] [] x =
  (if l3 ≤ l5 then
    (fn_bv (cf 47 [.ref 29, .int 4, .int ((x 29 11) + (2 * l3)), .int l4, .ref 1] x) (fun y1 =>
      (fn_bi (cf 138 [.ref 37] (fn_w (fn_w y1 29 10 ((y1 29 10) + l3)) 29 11 (1 - (y1 29 11)))) (fun y2 v3 =>
      (if v3 ≤ ((y1 29 10) + l3) then
      some ((fn_w y2 29 9 0), none)
      else
      some ((fn_w y2 29 9 1), none))))))
    else
    (fn_bi (cf 139 [.ref 37, .int ((x 29 10) + l5)] x) (fun y4 v5 =>
      K (m + 18) 54 [(0, .ref 29), (1, .int l1), (2, .ref 1), (3, .int l3), (4, .int (l4 ||| (v5 <<< ((8 * l5) &&& 31)))), (5, .int (l5 + 1))] [] y4))) := rfl
theorem ft_Node_serveReadOn_1_at54 (n d m : Nat) (l1 l3 l4 l5 : Int32) (x : fn_M) : fn_run 0 (fn_ev 0 (n + 2000) d) (fn_lk fn_d53) (m + 37) 54 [(0, .ref 29), (1, .int l1), (2, .ref 1), (3, .int l3), (4, .int l4), (5, .int l5)] [] x =
  (if l3 ≤ l5 then
    (fn_bv (fn_ev 0 (n + 2000) d 47 [.ref 29, .int 4, .int ((x 29 11) + (2 * l3)), .int l4, .ref 1] x) (fun y1 =>
      (fn_bi (fn_ev 0 (n + 2000) d 138 [.ref 37] (fn_w (fn_w y1 29 10 ((y1 29 10) + l3)) 29 11 (1 - (y1 29 11)))) (fun y2 v3 =>
      (if v3 ≤ ((y1 29 10) + l3) then
      some ((fn_w y2 29 9 0), none)
      else
      some ((fn_w y2 29 9 1), none))))))
    else
    (fn_bi (fn_ev 0 (n + 2000) d 139 [.ref 37, .int ((x 29 10) + l5)] x) (fun y4 v5 =>
      fn_run 0 (fn_ev 0 (n + 2000) d) (fn_lk fn_d53) (m + 18) 54 [(0, .ref 29), (1, .int l1), (2, .ref 1), (3, .int l3), (4, .int (l4 ||| (v5 <<< ((8 * l5) &&& 31)))), (5, .int (l5 + 1))] [] y4))) :=
  (fn_runc_eq 0 (fn_ev 0 (n + 2000) d) (fn_lk fn_d53) [54] (m + 37) 54 [(0, .ref 29), (1, .int l1), (2, .ref 1), (3, .int l3), (4, .int l4), (5, .int l5)] [] x).trans (fc_Node_serveReadOn_1_at54 (fn_ev 0 (n + 2000) d) (fn_run 0 (fn_ev 0 (n + 2000) d) (fn_lk fn_d53)) m l1 l3 l4 l5 x)
set_option maxRecDepth 20000 in
theorem fc_Node_serveReadOn_2 (cf : Nat → List Value → fn_M → Option fn_R) (K : Nat → fn_K) (m : Nat) (a1 : Int32) (x : fn_M) : fn_runc 0 cf (fn_lk fn_d53) [54] K (m + 20) 0 [(0, .ref 30), (1, .int a1), (2, .ref 1)] [] x =
  (if (x 30 9) = 0 then
    (fn_bv (cf 47 [.ref 30, .int 9, .int 16, .int 5, .ref 1] (fn_w x 30 9 0)) (fun y1 =>
      some (y1, none)))
    else
    (if a1 = (x 30 11) then
      (fn_bi (cf 138 [.ref 38] x) (fun y2 v3 =>
        (fn_bi (cf 157 [.int 4, .int (v3 - (y2 30 10))] y2) (fun y4 v5 =>
        K (m + 0) 54 [(0, .ref 30), (1, .int a1), (2, .ref 1), (3, .int v5), (4, .int 0), (5, .int 0)] [] y4))))
      else
      (fn_bv (cf 47 [.ref 30, .int 9, .int 16, .int 5, .ref 1] (fn_w x 30 9 0)) (fun y6 =>
        some (y6, none))))) := rfl
theorem ft_Node_serveReadOn_2 (n d : Nat) (a1 : Int32) (x : fn_M) : fn_ev 0 (n + 2000) (d + 1) 53 [.ref 30, .int a1, .ref 1] x =
  (if (x 30 9) = 0 then
    (fn_bv (fn_ev 0 (n + 2000) d 47 [.ref 30, .int 9, .int 16, .int 5, .ref 1] (fn_w x 30 9 0)) (fun y1 =>
      some (y1, none)))
    else
    (if a1 = (x 30 11) then
      (fn_bi (fn_ev 0 (n + 2000) d 138 [.ref 38] x) (fun y2 v3 =>
        (fn_bi (fn_ev 0 (n + 2000) d 157 [.int 4, .int (v3 - (y2 30 10))] y2) (fun y4 v5 =>
        fn_run 0 (fn_ev 0 (n + 2000) d) (fn_lk fn_d53) (n + 1980) 54 [(0, .ref 30), (1, .int a1), (2, .ref 1), (3, .int v5), (4, .int 0), (5, .int 0)] [] y4))))
      else
      (fn_bv (fn_ev 0 (n + 2000) d 47 [.ref 30, .int 9, .int 16, .int 5, .ref 1] (fn_w x 30 9 0)) (fun y6 =>
        some (y6, none))))) :=
  fn_ev_t (dd := fn_d53) (lo := [(0, .ref 30), (1, .int a1), (2, .ref 1)]) (sp := [54]) rfl rfl rfl (fc_Node_serveReadOn_2 (fn_ev 0 (n + 2000) d) (fn_run 0 (fn_ev 0 (n + 2000) d) (fn_lk fn_d53)) (n + 1980) a1 x)
set_option maxRecDepth 20000 in
theorem fc_Node_serveReadOn_2_at54 (cf : Nat → List Value → fn_M → Option fn_R) (K : Nat → fn_K) (m : Nat) (l1 l3 l4 l5 : Int32) (x : fn_M) : fn_runc 0 cf (fn_lk fn_d53) [54] K (m + 37) 54 [(0, .ref 30), (1, .int l1), (2, .ref 1), (3, .int l3), (4, .int l4), (5, .int l5)] [] x =
  (if l3 ≤ l5 then
    (fn_bv (cf 47 [.ref 30, .int 4, .int ((x 30 11) + (2 * l3)), .int l4, .ref 1] x) (fun y1 =>
      (fn_bi (cf 138 [.ref 38] (fn_w (fn_w y1 30 10 ((y1 30 10) + l3)) 30 11 (1 - (y1 30 11)))) (fun y2 v3 =>
      (if v3 ≤ ((y1 30 10) + l3) then
      some ((fn_w y2 30 9 0), none)
      else
      some ((fn_w y2 30 9 1), none))))))
    else
    (fn_bi (cf 139 [.ref 38, .int ((x 30 10) + l5)] x) (fun y4 v5 =>
      K (m + 18) 54 [(0, .ref 30), (1, .int l1), (2, .ref 1), (3, .int l3), (4, .int (l4 ||| (v5 <<< ((8 * l5) &&& 31)))), (5, .int (l5 + 1))] [] y4))) := rfl
theorem ft_Node_serveReadOn_2_at54 (n d m : Nat) (l1 l3 l4 l5 : Int32) (x : fn_M) : fn_run 0 (fn_ev 0 (n + 2000) d) (fn_lk fn_d53) (m + 37) 54 [(0, .ref 30), (1, .int l1), (2, .ref 1), (3, .int l3), (4, .int l4), (5, .int l5)] [] x =
  (if l3 ≤ l5 then
    (fn_bv (fn_ev 0 (n + 2000) d 47 [.ref 30, .int 4, .int ((x 30 11) + (2 * l3)), .int l4, .ref 1] x) (fun y1 =>
      (fn_bi (fn_ev 0 (n + 2000) d 138 [.ref 38] (fn_w (fn_w y1 30 10 ((y1 30 10) + l3)) 30 11 (1 - (y1 30 11)))) (fun y2 v3 =>
      (if v3 ≤ ((y1 30 10) + l3) then
      some ((fn_w y2 30 9 0), none)
      else
      some ((fn_w y2 30 9 1), none))))))
    else
    (fn_bi (fn_ev 0 (n + 2000) d 139 [.ref 38, .int ((x 30 10) + l5)] x) (fun y4 v5 =>
      fn_run 0 (fn_ev 0 (n + 2000) d) (fn_lk fn_d53) (m + 18) 54 [(0, .ref 30), (1, .int l1), (2, .ref 1), (3, .int l3), (4, .int (l4 ||| (v5 <<< ((8 * l5) &&& 31)))), (5, .int (l5 + 1))] [] y4))) :=
  (fn_runc_eq 0 (fn_ev 0 (n + 2000) d) (fn_lk fn_d53) [54] (m + 37) 54 [(0, .ref 30), (1, .int l1), (2, .ref 1), (3, .int l3), (4, .int l4), (5, .int l5)] [] x).trans (fc_Node_serveReadOn_2_at54 (fn_ev 0 (n + 2000) d) (fn_run 0 (fn_ev 0 (n + 2000) d) (fn_lk fn_d53)) m l1 l3 l4 l5 x)
set_option maxRecDepth 20000 in
theorem fc_Node_serveReadOn_3 (cf : Nat → List Value → fn_M → Option fn_R) (K : Nat → fn_K) (m : Nat) (a1 : Int32) (x : fn_M) : fn_runc 0 cf (fn_lk fn_d53) [54] K (m + 20) 0 [(0, .ref 31), (1, .int a1), (2, .ref 1)] [] x =
  (if (x 31 9) = 0 then
    (fn_bv (cf 47 [.ref 31, .int 9, .int 16, .int 5, .ref 1] (fn_w x 31 9 0)) (fun y1 =>
      some (y1, none)))
    else
    (if a1 = (x 31 11) then
      (fn_bi (cf 138 [.ref 39] x) (fun y2 v3 =>
        (fn_bi (cf 157 [.int 4, .int (v3 - (y2 31 10))] y2) (fun y4 v5 =>
        K (m + 0) 54 [(0, .ref 31), (1, .int a1), (2, .ref 1), (3, .int v5), (4, .int 0), (5, .int 0)] [] y4))))
      else
      (fn_bv (cf 47 [.ref 31, .int 9, .int 16, .int 5, .ref 1] (fn_w x 31 9 0)) (fun y6 =>
        some (y6, none))))) := rfl
theorem ft_Node_serveReadOn_3 (n d : Nat) (a1 : Int32) (x : fn_M) : fn_ev 0 (n + 2000) (d + 1) 53 [.ref 31, .int a1, .ref 1] x =
  (if (x 31 9) = 0 then
    (fn_bv (fn_ev 0 (n + 2000) d 47 [.ref 31, .int 9, .int 16, .int 5, .ref 1] (fn_w x 31 9 0)) (fun y1 =>
      some (y1, none)))
    else
    (if a1 = (x 31 11) then
      (fn_bi (fn_ev 0 (n + 2000) d 138 [.ref 39] x) (fun y2 v3 =>
        (fn_bi (fn_ev 0 (n + 2000) d 157 [.int 4, .int (v3 - (y2 31 10))] y2) (fun y4 v5 =>
        fn_run 0 (fn_ev 0 (n + 2000) d) (fn_lk fn_d53) (n + 1980) 54 [(0, .ref 31), (1, .int a1), (2, .ref 1), (3, .int v5), (4, .int 0), (5, .int 0)] [] y4))))
      else
      (fn_bv (fn_ev 0 (n + 2000) d 47 [.ref 31, .int 9, .int 16, .int 5, .ref 1] (fn_w x 31 9 0)) (fun y6 =>
        some (y6, none))))) :=
  fn_ev_t (dd := fn_d53) (lo := [(0, .ref 31), (1, .int a1), (2, .ref 1)]) (sp := [54]) rfl rfl rfl (fc_Node_serveReadOn_3 (fn_ev 0 (n + 2000) d) (fn_run 0 (fn_ev 0 (n + 2000) d) (fn_lk fn_d53)) (n + 1980) a1 x)
set_option maxRecDepth 20000 in
theorem fc_Node_serveReadOn_3_at54 (cf : Nat → List Value → fn_M → Option fn_R) (K : Nat → fn_K) (m : Nat) (l1 l3 l4 l5 : Int32) (x : fn_M) : fn_runc 0 cf (fn_lk fn_d53) [54] K (m + 37) 54 [(0, .ref 31), (1, .int l1), (2, .ref 1), (3, .int l3), (4, .int l4), (5, .int l5)] [] x =
  (if l3 ≤ l5 then
    (fn_bv (cf 47 [.ref 31, .int 4, .int ((x 31 11) + (2 * l3)), .int l4, .ref 1] x) (fun y1 =>
      (fn_bi (cf 138 [.ref 39] (fn_w (fn_w y1 31 10 ((y1 31 10) + l3)) 31 11 (1 - (y1 31 11)))) (fun y2 v3 =>
      (if v3 ≤ ((y1 31 10) + l3) then
      some ((fn_w y2 31 9 0), none)
      else
      some ((fn_w y2 31 9 1), none))))))
    else
    (fn_bi (cf 139 [.ref 39, .int ((x 31 10) + l5)] x) (fun y4 v5 =>
      K (m + 18) 54 [(0, .ref 31), (1, .int l1), (2, .ref 1), (3, .int l3), (4, .int (l4 ||| (v5 <<< ((8 * l5) &&& 31)))), (5, .int (l5 + 1))] [] y4))) := rfl
theorem ft_Node_serveReadOn_3_at54 (n d m : Nat) (l1 l3 l4 l5 : Int32) (x : fn_M) : fn_run 0 (fn_ev 0 (n + 2000) d) (fn_lk fn_d53) (m + 37) 54 [(0, .ref 31), (1, .int l1), (2, .ref 1), (3, .int l3), (4, .int l4), (5, .int l5)] [] x =
  (if l3 ≤ l5 then
    (fn_bv (fn_ev 0 (n + 2000) d 47 [.ref 31, .int 4, .int ((x 31 11) + (2 * l3)), .int l4, .ref 1] x) (fun y1 =>
      (fn_bi (fn_ev 0 (n + 2000) d 138 [.ref 39] (fn_w (fn_w y1 31 10 ((y1 31 10) + l3)) 31 11 (1 - (y1 31 11)))) (fun y2 v3 =>
      (if v3 ≤ ((y1 31 10) + l3) then
      some ((fn_w y2 31 9 0), none)
      else
      some ((fn_w y2 31 9 1), none))))))
    else
    (fn_bi (fn_ev 0 (n + 2000) d 139 [.ref 39, .int ((x 31 10) + l5)] x) (fun y4 v5 =>
      fn_run 0 (fn_ev 0 (n + 2000) d) (fn_lk fn_d53) (m + 18) 54 [(0, .ref 31), (1, .int l1), (2, .ref 1), (3, .int l3), (4, .int (l4 ||| (v5 <<< ((8 * l5) &&& 31)))), (5, .int (l5 + 1))] [] y4))) :=
  (fn_runc_eq 0 (fn_ev 0 (n + 2000) d) (fn_lk fn_d53) [54] (m + 37) 54 [(0, .ref 31), (1, .int l1), (2, .ref 1), (3, .int l3), (4, .int l4), (5, .int l5)] [] x).trans (fc_Node_serveReadOn_3_at54 (fn_ev 0 (n + 2000) d) (fn_run 0 (fn_ev 0 (n + 2000) d) (fn_lk fn_d53)) m l1 l3 l4 l5 x)
set_option maxRecDepth 20000 in
theorem fc_Node_serveReadOn_4 (cf : Nat → List Value → fn_M → Option fn_R) (K : Nat → fn_K) (m : Nat) (a1 : Int32) (x : fn_M) : fn_runc 0 cf (fn_lk fn_d53) [54] K (m + 20) 0 [(0, .ref 32), (1, .int a1), (2, .ref 1)] [] x =
  (if (x 32 9) = 0 then
    (fn_bv (cf 47 [.ref 32, .int 9, .int 16, .int 5, .ref 1] (fn_w x 32 9 0)) (fun y1 =>
      some (y1, none)))
    else
    (if a1 = (x 32 11) then
      (fn_bi (cf 138 [.ref 40] x) (fun y2 v3 =>
        (fn_bi (cf 157 [.int 4, .int (v3 - (y2 32 10))] y2) (fun y4 v5 =>
        K (m + 0) 54 [(0, .ref 32), (1, .int a1), (2, .ref 1), (3, .int v5), (4, .int 0), (5, .int 0)] [] y4))))
      else
      (fn_bv (cf 47 [.ref 32, .int 9, .int 16, .int 5, .ref 1] (fn_w x 32 9 0)) (fun y6 =>
        some (y6, none))))) := rfl
theorem ft_Node_serveReadOn_4 (n d : Nat) (a1 : Int32) (x : fn_M) : fn_ev 0 (n + 2000) (d + 1) 53 [.ref 32, .int a1, .ref 1] x =
  (if (x 32 9) = 0 then
    (fn_bv (fn_ev 0 (n + 2000) d 47 [.ref 32, .int 9, .int 16, .int 5, .ref 1] (fn_w x 32 9 0)) (fun y1 =>
      some (y1, none)))
    else
    (if a1 = (x 32 11) then
      (fn_bi (fn_ev 0 (n + 2000) d 138 [.ref 40] x) (fun y2 v3 =>
        (fn_bi (fn_ev 0 (n + 2000) d 157 [.int 4, .int (v3 - (y2 32 10))] y2) (fun y4 v5 =>
        fn_run 0 (fn_ev 0 (n + 2000) d) (fn_lk fn_d53) (n + 1980) 54 [(0, .ref 32), (1, .int a1), (2, .ref 1), (3, .int v5), (4, .int 0), (5, .int 0)] [] y4))))
      else
      (fn_bv (fn_ev 0 (n + 2000) d 47 [.ref 32, .int 9, .int 16, .int 5, .ref 1] (fn_w x 32 9 0)) (fun y6 =>
        some (y6, none))))) :=
  fn_ev_t (dd := fn_d53) (lo := [(0, .ref 32), (1, .int a1), (2, .ref 1)]) (sp := [54]) rfl rfl rfl (fc_Node_serveReadOn_4 (fn_ev 0 (n + 2000) d) (fn_run 0 (fn_ev 0 (n + 2000) d) (fn_lk fn_d53)) (n + 1980) a1 x)
set_option maxRecDepth 20000 in
theorem fc_Node_serveReadOn_4_at54 (cf : Nat → List Value → fn_M → Option fn_R) (K : Nat → fn_K) (m : Nat) (l1 l3 l4 l5 : Int32) (x : fn_M) : fn_runc 0 cf (fn_lk fn_d53) [54] K (m + 37) 54 [(0, .ref 32), (1, .int l1), (2, .ref 1), (3, .int l3), (4, .int l4), (5, .int l5)] [] x =
  (if l3 ≤ l5 then
    (fn_bv (cf 47 [.ref 32, .int 4, .int ((x 32 11) + (2 * l3)), .int l4, .ref 1] x) (fun y1 =>
      (fn_bi (cf 138 [.ref 40] (fn_w (fn_w y1 32 10 ((y1 32 10) + l3)) 32 11 (1 - (y1 32 11)))) (fun y2 v3 =>
      (if v3 ≤ ((y1 32 10) + l3) then
      some ((fn_w y2 32 9 0), none)
      else
      some ((fn_w y2 32 9 1), none))))))
    else
    (fn_bi (cf 139 [.ref 40, .int ((x 32 10) + l5)] x) (fun y4 v5 =>
      K (m + 18) 54 [(0, .ref 32), (1, .int l1), (2, .ref 1), (3, .int l3), (4, .int (l4 ||| (v5 <<< ((8 * l5) &&& 31)))), (5, .int (l5 + 1))] [] y4))) := rfl
theorem ft_Node_serveReadOn_4_at54 (n d m : Nat) (l1 l3 l4 l5 : Int32) (x : fn_M) : fn_run 0 (fn_ev 0 (n + 2000) d) (fn_lk fn_d53) (m + 37) 54 [(0, .ref 32), (1, .int l1), (2, .ref 1), (3, .int l3), (4, .int l4), (5, .int l5)] [] x =
  (if l3 ≤ l5 then
    (fn_bv (fn_ev 0 (n + 2000) d 47 [.ref 32, .int 4, .int ((x 32 11) + (2 * l3)), .int l4, .ref 1] x) (fun y1 =>
      (fn_bi (fn_ev 0 (n + 2000) d 138 [.ref 40] (fn_w (fn_w y1 32 10 ((y1 32 10) + l3)) 32 11 (1 - (y1 32 11)))) (fun y2 v3 =>
      (if v3 ≤ ((y1 32 10) + l3) then
      some ((fn_w y2 32 9 0), none)
      else
      some ((fn_w y2 32 9 1), none))))))
    else
    (fn_bi (fn_ev 0 (n + 2000) d 139 [.ref 40, .int ((x 32 10) + l5)] x) (fun y4 v5 =>
      fn_run 0 (fn_ev 0 (n + 2000) d) (fn_lk fn_d53) (m + 18) 54 [(0, .ref 32), (1, .int l1), (2, .ref 1), (3, .int l3), (4, .int (l4 ||| (v5 <<< ((8 * l5) &&& 31)))), (5, .int (l5 + 1))] [] y4))) :=
  (fn_runc_eq 0 (fn_ev 0 (n + 2000) d) (fn_lk fn_d53) [54] (m + 37) 54 [(0, .ref 32), (1, .int l1), (2, .ref 1), (3, .int l3), (4, .int l4), (5, .int l5)] [] x).trans (fc_Node_serveReadOn_4_at54 (fn_ev 0 (n + 2000) d) (fn_run 0 (fn_ev 0 (n + 2000) d) (fn_lk fn_d53)) m l1 l3 l4 l5 x)
