set_option maxRecDepth 20000 in
theorem fc_Client_beginRead (cf : Nat → List Value → fn_M → Option fn_R) (K : Nat → fn_K) (m : Nat) (a1 a2 : Int32) (x : fn_M) : fn_runc 0 cf (fn_lk fn_d0) [] K (m + 16) 0 [(0, .ref 46), (1, .int a1), (2, .int a2), (3, .ref 1)] [] x =
  (fn_bv (cf 2 [.ref 46, .int a1, .int a2, .int 0, .ref 1] x) (fun y1 =>
    (fn_bv (cf 55 [.ref 1, .int 0, .int (1536 + a1), .int 2, .int a2, .int 0] y1) (fun y2 =>
    some (y2, none))))) := rfl
theorem ft_Client_beginRead (n d : Nat) (a1 a2 : Int32) (x : fn_M) : fn_ev 0 (n + 2000) (d + 1) 0 [.ref 46, .int a1, .int a2, .ref 1] x =
  (fn_bv (fn_ev 0 (n + 2000) d 2 [.ref 46, .int a1, .int a2, .int 0, .ref 1] x) (fun y1 =>
    (fn_bv (fn_ev 0 (n + 2000) d 55 [.ref 1, .int 0, .int (1536 + a1), .int 2, .int a2, .int 0] y1) (fun y2 =>
    some (y2, none))))) :=
  fn_ev_t (dd := fn_d0) (lo := [(0, .ref 46), (1, .int a1), (2, .int a2), (3, .ref 1)]) (sp := []) rfl rfl rfl (fc_Client_beginRead (fn_ev 0 (n + 2000) d) (fn_run 0 (fn_ev 0 (n + 2000) d) (fn_lk fn_d0)) (n + 1984) a1 a2 x)
set_option maxRecDepth 20000 in
theorem fc_Client_beginWrite (cf : Nat → List Value → fn_M → Option fn_R) (K : Nat → fn_K) (m : Nat) (a1 a2 a3 : Int32) (x : fn_M) : fn_runc 0 cf (fn_lk fn_d1) [] K (m + 16) 0 [(0, .ref 46), (1, .int a1), (2, .int a2), (3, .int a3), (4, .ref 1)] [] x =
  (fn_bv (cf 2 [.ref 46, .int a1, .int a2, .int 1, .ref 1] x) (fun y1 =>
    (fn_bv (cf 55 [.ref 1, .int 0, .int (1536 + a1), .int 1, .int a2, .int a3] y1) (fun y2 =>
    some (y2, none))))) := rfl
theorem ft_Client_beginWrite (n d : Nat) (a1 a2 a3 : Int32) (x : fn_M) : fn_ev 0 (n + 2000) (d + 1) 1 [.ref 46, .int a1, .int a2, .int a3, .ref 1] x =
  (fn_bv (fn_ev 0 (n + 2000) d 2 [.ref 46, .int a1, .int a2, .int 1, .ref 1] x) (fun y1 =>
    (fn_bv (fn_ev 0 (n + 2000) d 55 [.ref 1, .int 0, .int (1536 + a1), .int 1, .int a2, .int a3] y1) (fun y2 =>
    some (y2, none))))) :=
  fn_ev_t (dd := fn_d1) (lo := [(0, .ref 46), (1, .int a1), (2, .int a2), (3, .int a3), (4, .ref 1)]) (sp := []) rfl rfl rfl (fc_Client_beginWrite (fn_ev 0 (n + 2000) d) (fn_run 0 (fn_ev 0 (n + 2000) d) (fn_lk fn_d1)) (n + 1984) a1 a2 a3 x)
set_option maxRecDepth 20000 in
theorem fc_Client_begin (cf : Nat → List Value → fn_M → Option fn_R) (K : Nat → fn_K) (m : Nat) (a1 a2 a3 : Int32) (x : fn_M) : fn_runc 0 cf (fn_lk fn_d2) [] K (m + 22) 0 [(0, .ref 46), (1, .int a1), (2, .int a2), (3, .int a3), (4, .ref 1)] [] x =
  (if a3 = 0 ∨ a3 = 1 then
    some ((fn_w (fn_w (fn_w (fn_w (fn_w (fn_w x 46 0 1) 46 2 a1) 46 3 a2) 46 4 a3) 46 8 0) 46 5 ((x 1 6) + 5)), none)
    else
    none) := rfl
theorem ft_Client_begin (n d : Nat) (a1 a2 a3 : Int32) (x : fn_M) : fn_ev 0 (n + 2000) (d + 1) 2 [.ref 46, .int a1, .int a2, .int a3, .ref 1] x =
  (if a3 = 0 ∨ a3 = 1 then
    some ((fn_w (fn_w (fn_w (fn_w (fn_w (fn_w x 46 0 1) 46 2 a1) 46 3 a2) 46 4 a3) 46 8 0) 46 5 ((x 1 6) + 5)), none)
    else
    none) :=
  fn_ev_t (dd := fn_d2) (lo := [(0, .ref 46), (1, .int a1), (2, .int a2), (3, .int a3), (4, .ref 1)]) (sp := []) rfl rfl rfl (fc_Client_begin (fn_ev 0 (n + 2000) d) (fn_run 0 (fn_ev 0 (n + 2000) d) (fn_lk fn_d2)) (n + 1978) a1 a2 a3 x)
set_option maxRecDepth 20000 in
theorem fc_Client_isLate (cf : Nat → List Value → fn_M → Option fn_R) (K : Nat → fn_K) (m : Nat) (a1 : Int32) (x : fn_M) : fn_runc 0 cf (fn_lk fn_d3) [] K (m + 10) 0 [(0, .ref 46), (1, .int a1)] [] x =
  (if (x 46 0) = 0 then
    some (x, some (.int 0))
    else
    (if a1 < (x 46 5) then
      some (x, some (.int 0))
      else
      some (x, some (.int 1)))) := rfl
theorem ft_Client_isLate (n d : Nat) (a1 : Int32) (x : fn_M) : fn_ev 0 (n + 2000) (d + 1) 3 [.ref 46, .int a1] x =
  (if (x 46 0) = 0 then
    some (x, some (.int 0))
    else
    (if a1 < (x 46 5) then
      some (x, some (.int 0))
      else
      some (x, some (.int 1)))) :=
  fn_ev_t (dd := fn_d3) (lo := [(0, .ref 46), (1, .int a1)]) (sp := []) rfl rfl rfl (fc_Client_isLate (fn_ev 0 (n + 2000) d) (fn_run 0 (fn_ev 0 (n + 2000) d) (fn_lk fn_d3)) (n + 1990) a1 x)
set_option maxRecDepth 20000 in
theorem fc_Client_end (cf : Nat → List Value → fn_M → Option fn_R) (K : Nat → fn_K) (m : Nat) (a1 a2 : Int32) (x : fn_M) : fn_runc 0 cf (fn_lk fn_d4) [] K (m + 10) 0 [(0, .ref 46), (1, .int a1), (2, .int a2)] [] x =
  some ((fn_w (fn_w (fn_w x 46 0 0) 46 6 a1) 46 7 a2), none) := rfl
theorem ft_Client_end (n d : Nat) (a1 a2 : Int32) (x : fn_M) : fn_ev 0 (n + 2000) (d + 1) 4 [.ref 46, .int a1, .int a2] x =
  some ((fn_w (fn_w (fn_w x 46 0 0) 46 6 a1) 46 7 a2), none) :=
  fn_ev_t (dd := fn_d4) (lo := [(0, .ref 46), (1, .int a1), (2, .int a2)]) (sp := []) rfl rfl rfl (fc_Client_end (fn_ev 0 (n + 2000) d) (fn_run 0 (fn_ev 0 (n + 2000) d) (fn_lk fn_d4)) (n + 1990) a1 a2 x)
set_option maxRecDepth 20000 in
theorem fc_Client_isEndedBy (cf : Nat → List Value → fn_M → Option fn_R) (K : Nat → fn_K) (m : Nat) (p : Nat) (x : fn_M) : fn_runc 0 cf (fn_lk fn_d5) [22, 66, 94, 125, 156, 197] K (m + 76) 0 [(0, .ref 46), (1, .ref p), (2, .ref 1)] [] x =
  (if (x 46 0) = 0 then
    K (m + 73) 22 [(0, .ref 46), (1, .ref p), (2, .ref 1)] [] x
    else
    (if fn_lc 0 p = 2 then
      (if (x p 1) = (1408 + (x 46 2)) then
        (if fn_lc 0 p = 2 then
          (if (x p 3) = (x 46 3) then
            (if fn_lc 0 p = 2 then
              (if (x p 2) = 9 then
                (if fn_lc 0 p = 2 then
                  (fn_bv (cf 4 [.ref 46, .int (x p 4), .int 0] x) (fun y1 =>
                    K (m + 46) 197 [(0, .ref 46), (1, .ref p), (2, .ref 1), (3, .int 1)] [] y1))
                  else
                  none)
                else
                K (m + 54) 66 [(0, .ref 46), (1, .ref p), (2, .ref 1), (3, .int 1)] [] x)
              else
              none)
            else
            (if fn_lc 0 p = 2 then
              (if (x p 2) = 9 then
                K (m + 53) 66 [(0, .ref 46), (1, .ref p), (2, .ref 1), (3, .int 0)] [] x
                else
                K (m + 55) 66 [(0, .ref 46), (1, .ref p), (2, .ref 1), (3, .int 0)] [] x)
              else
              none))
          else
          none)
        else
        K (m + 66) 22 [(0, .ref 46), (1, .ref p), (2, .ref 1)] [] x)
      else
      none)) := rfl
theorem ft_Client_isEndedBy (n d : Nat) (p : Nat) (x : fn_M) : fn_ev 0 (n + 2000) (d + 1) 5 [.ref 46, .ref p, .ref 1] x =
  (if (x 46 0) = 0 then
    fn_run 0 (fn_ev 0 (n + 2000) d) (fn_lk fn_d5) (n + 1997) 22 [(0, .ref 46), (1, .ref p), (2, .ref 1)] [] x
    else
    (if fn_lc 0 p = 2 then
      (if (x p 1) = (1408 + (x 46 2)) then
        (if fn_lc 0 p = 2 then
          (if (x p 3) = (x 46 3) then
            (if fn_lc 0 p = 2 then
              (if (x p 2) = 9 then
                (if fn_lc 0 p = 2 then
                  (fn_bv (fn_ev 0 (n + 2000) d 4 [.ref 46, .int (x p 4), .int 0] x) (fun y1 =>
                    fn_run 0 (fn_ev 0 (n + 2000) d) (fn_lk fn_d5) (n + 1970) 197 [(0, .ref 46), (1, .ref p), (2, .ref 1), (3, .int 1)] [] y1))
                  else
                  none)
                else
                fn_run 0 (fn_ev 0 (n + 2000) d) (fn_lk fn_d5) (n + 1978) 66 [(0, .ref 46), (1, .ref p), (2, .ref 1), (3, .int 1)] [] x)
              else
              none)
            else
            (if fn_lc 0 p = 2 then
              (if (x p 2) = 9 then
                fn_run 0 (fn_ev 0 (n + 2000) d) (fn_lk fn_d5) (n + 1977) 66 [(0, .ref 46), (1, .ref p), (2, .ref 1), (3, .int 0)] [] x
                else
                fn_run 0 (fn_ev 0 (n + 2000) d) (fn_lk fn_d5) (n + 1979) 66 [(0, .ref 46), (1, .ref p), (2, .ref 1), (3, .int 0)] [] x)
              else
              none))
          else
          none)
        else
        fn_run 0 (fn_ev 0 (n + 2000) d) (fn_lk fn_d5) (n + 1990) 22 [(0, .ref 46), (1, .ref p), (2, .ref 1)] [] x)
      else
      none)) :=
  fn_ev_t (dd := fn_d5) (lo := [(0, .ref 46), (1, .ref p), (2, .ref 1)]) (sp := [22, 66, 94, 125, 156, 197]) rfl rfl rfl (fc_Client_isEndedBy (fn_ev 0 (n + 2000) d) (fn_run 0 (fn_ev 0 (n + 2000) d) (fn_lk fn_d5)) (n + 1924) p x)
set_option maxRecDepth 20000 in
theorem fc_Client_isEndedBy_at22 (cf : Nat → List Value → fn_M → Option fn_R) (K : Nat → fn_K) (m : Nat) (r1 : Nat) (x : fn_M) : fn_runc 0 cf (fn_lk fn_d5) [22, 66, 94, 125, 156, 197] K (m + 2) 22 [(0, .ref 46), (1, .ref r1), (2, .ref 1)] [] x =
  some (x, some (.int 0)) := rfl
theorem ft_Client_isEndedBy_at22 (n d m : Nat) (r1 : Nat) (x : fn_M) : fn_run 0 (fn_ev 0 (n + 2000) d) (fn_lk fn_d5) (m + 2) 22 [(0, .ref 46), (1, .ref r1), (2, .ref 1)] [] x =
  some (x, some (.int 0)) :=
  (fn_runc_eq 0 (fn_ev 0 (n + 2000) d) (fn_lk fn_d5) [22, 66, 94, 125, 156, 197] (m + 2) 22 [(0, .ref 46), (1, .ref r1), (2, .ref 1)] [] x).trans (fc_Client_isEndedBy_at22 (fn_ev 0 (n + 2000) d) (fn_run 0 (fn_ev 0 (n + 2000) d) (fn_lk fn_d5)) m r1 x)
set_option maxRecDepth 20000 in
theorem fc_Client_isEndedBy_at66_0 (cf : Nat → List Value → fn_M → Option fn_R) (K : Nat → fn_K) (m : Nat) (r1 : Nat) (x : fn_M) : fn_runc 0 cf (fn_lk fn_d5) [22, 66, 94, 125, 156, 197] K (m + 45) 66 [(0, .ref 46), (1, .ref r1), (2, .ref 1), (3, .int 0)] [] x =
  (if fn_lc 0 r1 = 2 then
    (if (x r1 2) = 1 then
      K (m + 39) 94 [(0, .ref 46), (1, .ref r1), (2, .ref 1), (3, .int 0)] [] x
      else
      K (m + 41) 94 [(0, .ref 46), (1, .ref r1), (2, .ref 1), (3, .int 0)] [] x)
    else
    none) := rfl
theorem ft_Client_isEndedBy_at66_0 (n d m : Nat) (r1 : Nat) (x : fn_M) : fn_run 0 (fn_ev 0 (n + 2000) d) (fn_lk fn_d5) (m + 45) 66 [(0, .ref 46), (1, .ref r1), (2, .ref 1), (3, .int 0)] [] x =
  (if fn_lc 0 r1 = 2 then
    (if (x r1 2) = 1 then
      fn_run 0 (fn_ev 0 (n + 2000) d) (fn_lk fn_d5) (m + 39) 94 [(0, .ref 46), (1, .ref r1), (2, .ref 1), (3, .int 0)] [] x
      else
      fn_run 0 (fn_ev 0 (n + 2000) d) (fn_lk fn_d5) (m + 41) 94 [(0, .ref 46), (1, .ref r1), (2, .ref 1), (3, .int 0)] [] x)
    else
    none) :=
  (fn_runc_eq 0 (fn_ev 0 (n + 2000) d) (fn_lk fn_d5) [22, 66, 94, 125, 156, 197] (m + 45) 66 [(0, .ref 46), (1, .ref r1), (2, .ref 1), (3, .int 0)] [] x).trans (fc_Client_isEndedBy_at66_0 (fn_ev 0 (n + 2000) d) (fn_run 0 (fn_ev 0 (n + 2000) d) (fn_lk fn_d5)) m r1 x)
set_option maxRecDepth 20000 in
theorem fc_Client_isEndedBy_at66_1 (cf : Nat → List Value → fn_M → Option fn_R) (K : Nat → fn_K) (m : Nat) (r1 : Nat) (x : fn_M) : fn_runc 0 cf (fn_lk fn_d5) [22, 66, 94, 125, 156, 197] K (m + 54) 66 [(0, .ref 46), (1, .ref r1), (2, .ref 1), (3, .int 1)] [] x =
  (if fn_lc 0 r1 = 2 then
    (if (x r1 2) = 1 then
      (if (x 46 4) = 0 then
        K (m + 45) 94 [(0, .ref 46), (1, .ref r1), (2, .ref 1), (3, .int 1)] [] x
        else
        (fn_bv (cf 4 [.ref 46, .int 0, .int 0] x) (fun y1 =>
          K (m + 40) 197 [(0, .ref 46), (1, .ref r1), (2, .ref 1), (3, .int 1)] [] y1)))
      else
      K (m + 50) 94 [(0, .ref 46), (1, .ref r1), (2, .ref 1), (3, .int 1)] [] x)
    else
    none) := rfl
theorem ft_Client_isEndedBy_at66_1 (n d m : Nat) (r1 : Nat) (x : fn_M) : fn_run 0 (fn_ev 0 (n + 2000) d) (fn_lk fn_d5) (m + 54) 66 [(0, .ref 46), (1, .ref r1), (2, .ref 1), (3, .int 1)] [] x =
  (if fn_lc 0 r1 = 2 then
    (if (x r1 2) = 1 then
      (if (x 46 4) = 0 then
        fn_run 0 (fn_ev 0 (n + 2000) d) (fn_lk fn_d5) (m + 45) 94 [(0, .ref 46), (1, .ref r1), (2, .ref 1), (3, .int 1)] [] x
        else
        (fn_bv (fn_ev 0 (n + 2000) d 4 [.ref 46, .int 0, .int 0] x) (fun y1 =>
          fn_run 0 (fn_ev 0 (n + 2000) d) (fn_lk fn_d5) (m + 40) 197 [(0, .ref 46), (1, .ref r1), (2, .ref 1), (3, .int 1)] [] y1)))
      else
      fn_run 0 (fn_ev 0 (n + 2000) d) (fn_lk fn_d5) (m + 50) 94 [(0, .ref 46), (1, .ref r1), (2, .ref 1), (3, .int 1)] [] x)
    else
    none) :=
  (fn_runc_eq 0 (fn_ev 0 (n + 2000) d) (fn_lk fn_d5) [22, 66, 94, 125, 156, 197] (m + 54) 66 [(0, .ref 46), (1, .ref r1), (2, .ref 1), (3, .int 1)] [] x).trans (fc_Client_isEndedBy_at66_1 (fn_ev 0 (n + 2000) d) (fn_run 0 (fn_ev 0 (n + 2000) d) (fn_lk fn_d5)) m r1 x)
set_option maxRecDepth 20000 in
theorem fc_Client_isEndedBy_at94_0 (cf : Nat → List Value → fn_M → Option fn_R) (K : Nat → fn_K) (m : Nat) (r1 : Nat) (x : fn_M) : fn_runc 0 cf (fn_lk fn_d5) [22, 66, 94, 125, 156, 197] K (m + 39) 94 [(0, .ref 46), (1, .ref r1), (2, .ref 1), (3, .int 0)] [] x =
  (if fn_lc 0 r1 = 2 then
    (if (x r1 2) = 2 then
      K (m + 33) 125 [(0, .ref 46), (1, .ref r1), (2, .ref 1), (3, .int 0)] [] x
      else
      K (m + 35) 125 [(0, .ref 46), (1, .ref r1), (2, .ref 1), (3, .int 0)] [] x)
    else
    none) := rfl
theorem ft_Client_isEndedBy_at94_0 (n d m : Nat) (r1 : Nat) (x : fn_M) : fn_run 0 (fn_ev 0 (n + 2000) d) (fn_lk fn_d5) (m + 39) 94 [(0, .ref 46), (1, .ref r1), (2, .ref 1), (3, .int 0)] [] x =
  (if fn_lc 0 r1 = 2 then
    (if (x r1 2) = 2 then
      fn_run 0 (fn_ev 0 (n + 2000) d) (fn_lk fn_d5) (m + 33) 125 [(0, .ref 46), (1, .ref r1), (2, .ref 1), (3, .int 0)] [] x
      else
      fn_run 0 (fn_ev 0 (n + 2000) d) (fn_lk fn_d5) (m + 35) 125 [(0, .ref 46), (1, .ref r1), (2, .ref 1), (3, .int 0)] [] x)
    else
    none) :=
  (fn_runc_eq 0 (fn_ev 0 (n + 2000) d) (fn_lk fn_d5) [22, 66, 94, 125, 156, 197] (m + 39) 94 [(0, .ref 46), (1, .ref r1), (2, .ref 1), (3, .int 0)] [] x).trans (fc_Client_isEndedBy_at94_0 (fn_ev 0 (n + 2000) d) (fn_run 0 (fn_ev 0 (n + 2000) d) (fn_lk fn_d5)) m r1 x)
set_option maxRecDepth 20000 in
theorem fc_Client_isEndedBy_at94_1 (cf : Nat → List Value → fn_M → Option fn_R) (K : Nat → fn_K) (m : Nat) (r1 : Nat) (x : fn_M) : fn_runc 0 cf (fn_lk fn_d5) [22, 66, 94, 125, 156, 197] K (m + 45) 94 [(0, .ref 46), (1, .ref r1), (2, .ref 1), (3, .int 1)] [] x =
  (if fn_lc 0 r1 = 2 then
    (if (x r1 2) = 2 then
      (if (x 46 4) = 0 then
        (if fn_lc 0 r1 = 2 then
          (fn_bv (cf 4 [.ref 46, .int 0, .int (x r1 4)] x) (fun y1 =>
            K (m + 30) 197 [(0, .ref 46), (1, .ref r1), (2, .ref 1), (3, .int 1)] [] y1))
          else
          none)
        else
        K (m + 36) 125 [(0, .ref 46), (1, .ref r1), (2, .ref 1), (3, .int 1)] [] x)
      else
      K (m + 41) 125 [(0, .ref 46), (1, .ref r1), (2, .ref 1), (3, .int 1)] [] x)
    else
    none) := rfl
theorem ft_Client_isEndedBy_at94_1 (n d m : Nat) (r1 : Nat) (x : fn_M) : fn_run 0 (fn_ev 0 (n + 2000) d) (fn_lk fn_d5) (m + 45) 94 [(0, .ref 46), (1, .ref r1), (2, .ref 1), (3, .int 1)] [] x =
  (if fn_lc 0 r1 = 2 then
    (if (x r1 2) = 2 then
      (if (x 46 4) = 0 then
        (if fn_lc 0 r1 = 2 then
          (fn_bv (fn_ev 0 (n + 2000) d 4 [.ref 46, .int 0, .int (x r1 4)] x) (fun y1 =>
            fn_run 0 (fn_ev 0 (n + 2000) d) (fn_lk fn_d5) (m + 30) 197 [(0, .ref 46), (1, .ref r1), (2, .ref 1), (3, .int 1)] [] y1))
          else
          none)
        else
        fn_run 0 (fn_ev 0 (n + 2000) d) (fn_lk fn_d5) (m + 36) 125 [(0, .ref 46), (1, .ref r1), (2, .ref 1), (3, .int 1)] [] x)
      else
      fn_run 0 (fn_ev 0 (n + 2000) d) (fn_lk fn_d5) (m + 41) 125 [(0, .ref 46), (1, .ref r1), (2, .ref 1), (3, .int 1)] [] x)
    else
    none) :=
  (fn_runc_eq 0 (fn_ev 0 (n + 2000) d) (fn_lk fn_d5) [22, 66, 94, 125, 156, 197] (m + 45) 94 [(0, .ref 46), (1, .ref r1), (2, .ref 1), (3, .int 1)] [] x).trans (fc_Client_isEndedBy_at94_1 (fn_ev 0 (n + 2000) d) (fn_run 0 (fn_ev 0 (n + 2000) d) (fn_lk fn_d5)) m r1 x)
set_option maxRecDepth 20000 in
theorem fc_Client_isEndedBy_at125_0 (cf : Nat → List Value → fn_M → Option fn_R) (K : Nat → fn_K) (m : Nat) (r1 : Nat) (x : fn_M) : fn_runc 0 cf (fn_lk fn_d5) [22, 66, 94, 125, 156, 197] K (m + 33) 125 [(0, .ref 46), (1, .ref r1), (2, .ref 1), (3, .int 0)] [] x =
  (if fn_lc 0 r1 = 2 then
    (if (x r1 2) = 3 then
      K (m + 27) 156 [(0, .ref 46), (1, .ref r1), (2, .ref 1), (3, .int 0)] [] x
      else
      K (m + 29) 156 [(0, .ref 46), (1, .ref r1), (2, .ref 1), (3, .int 0)] [] x)
    else
    none) := rfl
theorem ft_Client_isEndedBy_at125_0 (n d m : Nat) (r1 : Nat) (x : fn_M) : fn_run 0 (fn_ev 0 (n + 2000) d) (fn_lk fn_d5) (m + 33) 125 [(0, .ref 46), (1, .ref r1), (2, .ref 1), (3, .int 0)] [] x =
  (if fn_lc 0 r1 = 2 then
    (if (x r1 2) = 3 then
      fn_run 0 (fn_ev 0 (n + 2000) d) (fn_lk fn_d5) (m + 27) 156 [(0, .ref 46), (1, .ref r1), (2, .ref 1), (3, .int 0)] [] x
      else
      fn_run 0 (fn_ev 0 (n + 2000) d) (fn_lk fn_d5) (m + 29) 156 [(0, .ref 46), (1, .ref r1), (2, .ref 1), (3, .int 0)] [] x)
    else
    none) :=
  (fn_runc_eq 0 (fn_ev 0 (n + 2000) d) (fn_lk fn_d5) [22, 66, 94, 125, 156, 197] (m + 33) 125 [(0, .ref 46), (1, .ref r1), (2, .ref 1), (3, .int 0)] [] x).trans (fc_Client_isEndedBy_at125_0 (fn_ev 0 (n + 2000) d) (fn_run 0 (fn_ev 0 (n + 2000) d) (fn_lk fn_d5)) m r1 x)
set_option maxRecDepth 20000 in
theorem fc_Client_isEndedBy_at125_1 (cf : Nat → List Value → fn_M → Option fn_R) (K : Nat → fn_K) (m : Nat) (r1 : Nat) (x : fn_M) : fn_runc 0 cf (fn_lk fn_d5) [22, 66, 94, 125, 156, 197] K (m + 36) 125 [(0, .ref 46), (1, .ref r1), (2, .ref 1), (3, .int 1)] [] x =
  (if fn_lc 0 r1 = 2 then
    (if (x r1 2) = 3 then
      (if (x 46 4) = 0 then
        (if fn_lc 0 r1 = 2 then
          (fn_bv (cf 6 [.ref 46, .int (x r1 4), .ref 1] x) (fun y1 =>
            K (m + 21) 197 [(0, .ref 46), (1, .ref r1), (2, .ref 1), (3, .int 1)] [] y1))
          else
          none)
        else
        K (m + 27) 156 [(0, .ref 46), (1, .ref r1), (2, .ref 1), (3, .int 1)] [] x)
      else
      K (m + 32) 156 [(0, .ref 46), (1, .ref r1), (2, .ref 1), (3, .int 1)] [] x)
    else
    none) := rfl
theorem ft_Client_isEndedBy_at125_1 (n d m : Nat) (r1 : Nat) (x : fn_M) : fn_run 0 (fn_ev 0 (n + 2000) d) (fn_lk fn_d5) (m + 36) 125 [(0, .ref 46), (1, .ref r1), (2, .ref 1), (3, .int 1)] [] x =
  (if fn_lc 0 r1 = 2 then
    (if (x r1 2) = 3 then
      (if (x 46 4) = 0 then
        (if fn_lc 0 r1 = 2 then
          (fn_bv (fn_ev 0 (n + 2000) d 6 [.ref 46, .int (x r1 4), .ref 1] x) (fun y1 =>
            fn_run 0 (fn_ev 0 (n + 2000) d) (fn_lk fn_d5) (m + 21) 197 [(0, .ref 46), (1, .ref r1), (2, .ref 1), (3, .int 1)] [] y1))
          else
          none)
        else
        fn_run 0 (fn_ev 0 (n + 2000) d) (fn_lk fn_d5) (m + 27) 156 [(0, .ref 46), (1, .ref r1), (2, .ref 1), (3, .int 1)] [] x)
      else
      fn_run 0 (fn_ev 0 (n + 2000) d) (fn_lk fn_d5) (m + 32) 156 [(0, .ref 46), (1, .ref r1), (2, .ref 1), (3, .int 1)] [] x)
    else
    none) :=
  (fn_runc_eq 0 (fn_ev 0 (n + 2000) d) (fn_lk fn_d5) [22, 66, 94, 125, 156, 197] (m + 36) 125 [(0, .ref 46), (1, .ref r1), (2, .ref 1), (3, .int 1)] [] x).trans (fc_Client_isEndedBy_at125_1 (fn_ev 0 (n + 2000) d) (fn_run 0 (fn_ev 0 (n + 2000) d) (fn_lk fn_d5)) m r1 x)
set_option maxRecDepth 20000 in
theorem fc_Client_isEndedBy_at156_0 (cf : Nat → List Value → fn_M → Option fn_R) (K : Nat → fn_K) (m : Nat) (r1 : Nat) (x : fn_M) : fn_runc 0 cf (fn_lk fn_d5) [22, 66, 94, 125, 156, 197] K (m + 27) 156 [(0, .ref 46), (1, .ref r1), (2, .ref 1), (3, .int 0)] [] x =
  (if fn_lc 0 r1 = 2 then
    (if (x r1 2) = 4 then
      (if (x 46 8) = 0 then
        K (m + 20) 197 [(0, .ref 46), (1, .ref r1), (2, .ref 1), (3, .int 0)] [] x
        else
        (if fn_lc 0 r1 = 2 then
          (if ((x r1 3) &&& 1) = (x 46 10) then
            (if fn_lc 0 r1 = 2 then
              (if fn_lc 0 r1 = 2 then
                (fn_bv (cf 7 [.ref 46, .int (x r1 3), .int (x r1 4), .ref 1] x) (fun y1 =>
                  K (m + 6) 197 [(0, .ref 46), (1, .ref r1), (2, .ref 1), (3, .int 0)] [] y1))
                else
                none)
              else
              none)
            else
            K (m + 13) 197 [(0, .ref 46), (1, .ref r1), (2, .ref 1), (3, .int 0)] [] x)
          else
          none))
      else
      K (m + 23) 197 [(0, .ref 46), (1, .ref r1), (2, .ref 1), (3, .int 0)] [] x)
    else
    none) := rfl
theorem ft_Client_isEndedBy_at156_0 (n d m : Nat) (r1 : Nat) (x : fn_M) : fn_run 0 (fn_ev 0 (n + 2000) d) (fn_lk fn_d5) (m + 27) 156 [(0, .ref 46), (1, .ref r1), (2, .ref 1), (3, .int 0)] [] x =
  (if fn_lc 0 r1 = 2 then
    (if (x r1 2) = 4 then
      (if (x 46 8) = 0 then
        fn_run 0 (fn_ev 0 (n + 2000) d) (fn_lk fn_d5) (m + 20) 197 [(0, .ref 46), (1, .ref r1), (2, .ref 1), (3, .int 0)] [] x
        else
        (if fn_lc 0 r1 = 2 then
          (if ((x r1 3) &&& 1) = (x 46 10) then
            (if fn_lc 0 r1 = 2 then
              (if fn_lc 0 r1 = 2 then
                (fn_bv (fn_ev 0 (n + 2000) d 7 [.ref 46, .int (x r1 3), .int (x r1 4), .ref 1] x) (fun y1 =>
                  fn_run 0 (fn_ev 0 (n + 2000) d) (fn_lk fn_d5) (m + 6) 197 [(0, .ref 46), (1, .ref r1), (2, .ref 1), (3, .int 0)] [] y1))
                else
                none)
              else
              none)
            else
            fn_run 0 (fn_ev 0 (n + 2000) d) (fn_lk fn_d5) (m + 13) 197 [(0, .ref 46), (1, .ref r1), (2, .ref 1), (3, .int 0)] [] x)
          else
          none))
      else
      fn_run 0 (fn_ev 0 (n + 2000) d) (fn_lk fn_d5) (m + 23) 197 [(0, .ref 46), (1, .ref r1), (2, .ref 1), (3, .int 0)] [] x)
    else
    none) :=
  (fn_runc_eq 0 (fn_ev 0 (n + 2000) d) (fn_lk fn_d5) [22, 66, 94, 125, 156, 197] (m + 27) 156 [(0, .ref 46), (1, .ref r1), (2, .ref 1), (3, .int 0)] [] x).trans (fc_Client_isEndedBy_at156_0 (fn_ev 0 (n + 2000) d) (fn_run 0 (fn_ev 0 (n + 2000) d) (fn_lk fn_d5)) m r1 x)
set_option maxRecDepth 20000 in
theorem fc_Client_isEndedBy_at156_1 (cf : Nat → List Value → fn_M → Option fn_R) (K : Nat → fn_K) (m : Nat) (r1 : Nat) (x : fn_M) : fn_runc 0 cf (fn_lk fn_d5) [22, 66, 94, 125, 156, 197] K (m + 27) 156 [(0, .ref 46), (1, .ref r1), (2, .ref 1), (3, .int 1)] [] x =
  (if fn_lc 0 r1 = 2 then
    (if (x r1 2) = 4 then
      (if (x 46 8) = 0 then
        K (m + 20) 197 [(0, .ref 46), (1, .ref r1), (2, .ref 1), (3, .int 1)] [] x
        else
        (if fn_lc 0 r1 = 2 then
          (if ((x r1 3) &&& 1) = (x 46 10) then
            (if fn_lc 0 r1 = 2 then
              (if fn_lc 0 r1 = 2 then
                (fn_bv (cf 7 [.ref 46, .int (x r1 3), .int (x r1 4), .ref 1] x) (fun y1 =>
                  K (m + 6) 197 [(0, .ref 46), (1, .ref r1), (2, .ref 1), (3, .int 1)] [] y1))
                else
                none)
              else
              none)
            else
            K (m + 13) 197 [(0, .ref 46), (1, .ref r1), (2, .ref 1), (3, .int 1)] [] x)
          else
          none))
      else
      K (m + 23) 197 [(0, .ref 46), (1, .ref r1), (2, .ref 1), (3, .int 1)] [] x)
    else
    none) := rfl
theorem ft_Client_isEndedBy_at156_1 (n d m : Nat) (r1 : Nat) (x : fn_M) : fn_run 0 (fn_ev 0 (n + 2000) d) (fn_lk fn_d5) (m + 27) 156 [(0, .ref 46), (1, .ref r1), (2, .ref 1), (3, .int 1)] [] x =
  (if fn_lc 0 r1 = 2 then
    (if (x r1 2) = 4 then
      (if (x 46 8) = 0 then
        fn_run 0 (fn_ev 0 (n + 2000) d) (fn_lk fn_d5) (m + 20) 197 [(0, .ref 46), (1, .ref r1), (2, .ref 1), (3, .int 1)] [] x
        else
        (if fn_lc 0 r1 = 2 then
          (if ((x r1 3) &&& 1) = (x 46 10) then
            (if fn_lc 0 r1 = 2 then
              (if fn_lc 0 r1 = 2 then
                (fn_bv (fn_ev 0 (n + 2000) d 7 [.ref 46, .int (x r1 3), .int (x r1 4), .ref 1] x) (fun y1 =>
                  fn_run 0 (fn_ev 0 (n + 2000) d) (fn_lk fn_d5) (m + 6) 197 [(0, .ref 46), (1, .ref r1), (2, .ref 1), (3, .int 1)] [] y1))
                else
                none)
              else
              none)
            else
            fn_run 0 (fn_ev 0 (n + 2000) d) (fn_lk fn_d5) (m + 13) 197 [(0, .ref 46), (1, .ref r1), (2, .ref 1), (3, .int 1)] [] x)
          else
          none))
      else
      fn_run 0 (fn_ev 0 (n + 2000) d) (fn_lk fn_d5) (m + 23) 197 [(0, .ref 46), (1, .ref r1), (2, .ref 1), (3, .int 1)] [] x)
    else
    none) :=
  (fn_runc_eq 0 (fn_ev 0 (n + 2000) d) (fn_lk fn_d5) [22, 66, 94, 125, 156, 197] (m + 27) 156 [(0, .ref 46), (1, .ref r1), (2, .ref 1), (3, .int 1)] [] x).trans (fc_Client_isEndedBy_at156_1 (fn_ev 0 (n + 2000) d) (fn_run 0 (fn_ev 0 (n + 2000) d) (fn_lk fn_d5)) m r1 x)
set_option maxRecDepth 20000 in
theorem fc_Client_isEndedBy_at197_0 (cf : Nat → List Value → fn_M → Option fn_R) (K : Nat → fn_K) (m : Nat) (r1 : Nat) (x : fn_M) : fn_runc 0 cf (fn_lk fn_d5) [22, 66, 94, 125, 156, 197] K (m + 6) 197 [(0, .ref 46), (1, .ref r1), (2, .ref 1), (3, .int 0)] [] x =
  (if (x 46 0) = 0 then
    some (x, some (.int 1))
    else
    some (x, some (.int 0))) := rfl
theorem ft_Client_isEndedBy_at197_0 (n d m : Nat) (r1 : Nat) (x : fn_M) : fn_run 0 (fn_ev 0 (n + 2000) d) (fn_lk fn_d5) (m + 6) 197 [(0, .ref 46), (1, .ref r1), (2, .ref 1), (3, .int 0)] [] x =
  (if (x 46 0) = 0 then
    some (x, some (.int 1))
    else
    some (x, some (.int 0))) :=
  (fn_runc_eq 0 (fn_ev 0 (n + 2000) d) (fn_lk fn_d5) [22, 66, 94, 125, 156, 197] (m + 6) 197 [(0, .ref 46), (1, .ref r1), (2, .ref 1), (3, .int 0)] [] x).trans (fc_Client_isEndedBy_at197_0 (fn_ev 0 (n + 2000) d) (fn_run 0 (fn_ev 0 (n + 2000) d) (fn_lk fn_d5)) m r1 x)
set_option maxRecDepth 20000 in
theorem fc_Client_isEndedBy_at197_1 (cf : Nat → List Value → fn_M → Option fn_R) (K : Nat → fn_K) (m : Nat) (r1 : Nat) (x : fn_M) : fn_runc 0 cf (fn_lk fn_d5) [22, 66, 94, 125, 156, 197] K (m + 6) 197 [(0, .ref 46), (1, .ref r1), (2, .ref 1), (3, .int 1)] [] x =
  (if (x 46 0) = 0 then
    some (x, some (.int 1))
    else
    some (x, some (.int 0))) := rfl
theorem ft_Client_isEndedBy_at197_1 (n d m : Nat) (r1 : Nat) (x : fn_M) : fn_run 0 (fn_ev 0 (n + 2000) d) (fn_lk fn_d5) (m + 6) 197 [(0, .ref 46), (1, .ref r1), (2, .ref 1), (3, .int 1)] [] x =
  (if (x 46 0) = 0 then
    some (x, some (.int 1))
    else
    some (x, some (.int 0))) :=
  (fn_runc_eq 0 (fn_ev 0 (n + 2000) d) (fn_lk fn_d5) [22, 66, 94, 125, 156, 197] (m + 6) 197 [(0, .ref 46), (1, .ref r1), (2, .ref 1), (3, .int 1)] [] x).trans (fc_Client_isEndedBy_at197_1 (fn_ev 0 (n + 2000) d) (fn_run 0 (fn_ev 0 (n + 2000) d) (fn_lk fn_d5)) m r1 x)
set_option maxRecDepth 20000 in
theorem fc_Client_beginText (cf : Nat → List Value → fn_M → Option fn_R) (K : Nat → fn_K) (m : Nat) (a1 : Int32) (x : fn_M) : fn_runc 0 cf (fn_lk fn_d6) [] K (m + 16) 0 [(0, .ref 46), (1, .int a1), (2, .ref 1)] [] x =
  (fn_bv (cf 8 [.ref 46, .ref 1] (fn_w (fn_w (fn_w (fn_w x 46 12 0) 46 8 1) 46 9 a1) 46 10 0)) (fun y1 =>
    some (y1, none))) := rfl
theorem ft_Client_beginText (n d : Nat) (a1 : Int32) (x : fn_M) : fn_ev 0 (n + 2000) (d + 1) 6 [.ref 46, .int a1, .ref 1] x =
  (fn_bv (fn_ev 0 (n + 2000) d 8 [.ref 46, .ref 1] (fn_w (fn_w (fn_w (fn_w x 46 12 0) 46 8 1) 46 9 a1) 46 10 0)) (fun y1 =>
    some (y1, none))) :=
  fn_ev_t (dd := fn_d6) (lo := [(0, .ref 46), (1, .int a1), (2, .ref 1)]) (sp := []) rfl rfl rfl (fc_Client_beginText (fn_ev 0 (n + 2000) d) (fn_run 0 (fn_ev 0 (n + 2000) d) (fn_lk fn_d6)) (n + 1984) a1 x)
set_option maxRecDepth 20000 in
theorem fc_Client_takePart (cf : Nat → List Value → fn_M → Option fn_R) (K : Nat → fn_K) (m : Nat) (a1 a2 : Int32) (x : fn_M) : fn_runc 0 cf (fn_lk fn_d7) [15] K (m + 10) 0 [(0, .ref 46), (1, .int a1), (2, .int a2), (3, .ref 1)] [] x =
  (fn_bi (cf 157 [.int 4, .int ((a1 >>> (1 &&& 31)) &&& 7)] x) (fun y1 v2 =>
    K (m + 0) 15 [(0, .ref 46), (1, .int a1), (2, .int a2), (3, .ref 1), (4, .int v2), (5, .int 0)] [] y1)) := rfl
theorem ft_Client_takePart (n d : Nat) (a1 a2 : Int32) (x : fn_M) : fn_ev 0 (n + 2000) (d + 1) 7 [.ref 46, .int a1, .int a2, .ref 1] x =
  (fn_bi (fn_ev 0 (n + 2000) d 157 [.int 4, .int ((a1 >>> (1 &&& 31)) &&& 7)] x) (fun y1 v2 =>
    fn_run 0 (fn_ev 0 (n + 2000) d) (fn_lk fn_d7) (n + 1990) 15 [(0, .ref 46), (1, .int a1), (2, .int a2), (3, .ref 1), (4, .int v2), (5, .int 0)] [] y1)) :=
  fn_ev_t (dd := fn_d7) (lo := [(0, .ref 46), (1, .int a1), (2, .int a2), (3, .ref 1)]) (sp := [15]) rfl rfl rfl (fc_Client_takePart (fn_ev 0 (n + 2000) d) (fn_run 0 (fn_ev 0 (n + 2000) d) (fn_lk fn_d7)) (n + 1990) a1 a2 x)
set_option maxRecDepth 20000 in
theorem fc_Client_takePart_at15 (cf : Nat → List Value → fn_M → Option fn_R) (K : Nat → fn_K) (m : Nat) (l1 l2 l4 l5 : Int32) (x : fn_M) : fn_runc 0 cf (fn_lk fn_d7) [15] K (m + 27) 15 [(0, .ref 46), (1, .int l1), (2, .int l2), (3, .ref 1), (4, .int l4), (5, .int l5)] [] x =
  (if l4 ≤ l5 then
    (if (x 46 9) ≤ (x 46 12) then
      (fn_bv (cf 4 [.ref 46, .int 0, .int (x 46 12)] x) (fun y1 =>
        some (y1, none)))
      else
      (if 2 ≤ l1 then
        (fn_bv (cf 8 [.ref 46, .ref 1] (fn_w x 46 10 (1 - (x 46 10)))) (fun y2 =>
          some (y2, none)))
        else
        (fn_bv (cf 4 [.ref 46, .int 0, .int (x 46 12)] x) (fun y3 =>
          some (y3, none)))))
    else
    (if 12 ≤ (x 46 12) then
      (if (x 46 9) ≤ (x 46 12) then
        (fn_bv (cf 4 [.ref 46, .int 0, .int (x 46 12)] x) (fun y4 =>
          some (y4, none)))
        else
        (if 2 ≤ l1 then
          (fn_bv (cf 8 [.ref 46, .ref 1] (fn_w x 46 10 (1 - (x 46 10)))) (fun y5 =>
            some (y5, none)))
          else
          (fn_bv (cf 4 [.ref 46, .int 0, .int (x 46 12)] x) (fun y6 =>
            some (y6, none)))))
      else
      (if (x 46 12) < 0 ∨ 12 ≤ (x 46 12).toNatClampNeg then
        none
        else
        K (m + 0) 15 [(0, .ref 46), (1, .int l1), (2, .int l2), (3, .ref 1), (4, .int l4), (5, .int (l5 + 1))] [] (fn_w (fn_w x 47 (x 46 12).toNatClampNeg ((l2 >>> ((8 * l5) &&& 31)) &&& 255)) 46 12 ((x 46 12) + 1))))) := rfl
theorem ft_Client_takePart_at15 (n d m : Nat) (l1 l2 l4 l5 : Int32) (x : fn_M) : fn_run 0 (fn_ev 0 (n + 2000) d) (fn_lk fn_d7) (m + 27) 15 [(0, .ref 46), (1, .int l1), (2, .int l2), (3, .ref 1), (4, .int l4), (5, .int l5)] [] x =
  (if l4 ≤ l5 then
    (if (x 46 9) ≤ (x 46 12) then
      (fn_bv (fn_ev 0 (n + 2000) d 4 [.ref 46, .int 0, .int (x 46 12)] x) (fun y1 =>
        some (y1, none)))
      else
      (if 2 ≤ l1 then
        (fn_bv (fn_ev 0 (n + 2000) d 8 [.ref 46, .ref 1] (fn_w x 46 10 (1 - (x 46 10)))) (fun y2 =>
          some (y2, none)))
        else
        (fn_bv (fn_ev 0 (n + 2000) d 4 [.ref 46, .int 0, .int (x 46 12)] x) (fun y3 =>
          some (y3, none)))))
    else
    (if 12 ≤ (x 46 12) then
      (if (x 46 9) ≤ (x 46 12) then
        (fn_bv (fn_ev 0 (n + 2000) d 4 [.ref 46, .int 0, .int (x 46 12)] x) (fun y4 =>
          some (y4, none)))
        else
        (if 2 ≤ l1 then
          (fn_bv (fn_ev 0 (n + 2000) d 8 [.ref 46, .ref 1] (fn_w x 46 10 (1 - (x 46 10)))) (fun y5 =>
            some (y5, none)))
          else
          (fn_bv (fn_ev 0 (n + 2000) d 4 [.ref 46, .int 0, .int (x 46 12)] x) (fun y6 =>
            some (y6, none)))))
      else
      (if (x 46 12) < 0 ∨ 12 ≤ (x 46 12).toNatClampNeg then
        none
        else
        fn_run 0 (fn_ev 0 (n + 2000) d) (fn_lk fn_d7) (m + 0) 15 [(0, .ref 46), (1, .int l1), (2, .int l2), (3, .ref 1), (4, .int l4), (5, .int (l5 + 1))] [] (fn_w (fn_w x 47 (x 46 12).toNatClampNeg ((l2 >>> ((8 * l5) &&& 31)) &&& 255)) 46 12 ((x 46 12) + 1))))) :=
  (fn_runc_eq 0 (fn_ev 0 (n + 2000) d) (fn_lk fn_d7) [15] (m + 27) 15 [(0, .ref 46), (1, .int l1), (2, .int l2), (3, .ref 1), (4, .int l4), (5, .int l5)] [] x).trans (fc_Client_takePart_at15 (fn_ev 0 (n + 2000) d) (fn_run 0 (fn_ev 0 (n + 2000) d) (fn_lk fn_d7)) m l1 l2 l4 l5 x)
set_option maxRecDepth 20000 in
theorem fc_Client_askOn (cf : Nat → List Value → fn_M → Option fn_R) (K : Nat → fn_K) (m : Nat) (x : fn_M) : fn_runc 0 cf (fn_lk fn_d8) [] K (m + 18) 0 [(0, .ref 46), (1, .ref 1)] [] x =
  (fn_bv (cf 55 [.ref 1, .int 0, .int (1536 + (x 46 2)), .int 3, .int (x 46 10), .int 0] x) (fun y1 =>
    some ((fn_w y1 46 5 ((y1 1 6) + 5)), none))) := rfl
theorem ft_Client_askOn (n d : Nat) (x : fn_M) : fn_ev 0 (n + 2000) (d + 1) 8 [.ref 46, .ref 1] x =
  (fn_bv (fn_ev 0 (n + 2000) d 55 [.ref 1, .int 0, .int (1536 + (x 46 2)), .int 3, .int (x 46 10), .int 0] x) (fun y1 =>
    some ((fn_w y1 46 5 ((y1 1 6) + 5)), none))) :=
  fn_ev_t (dd := fn_d8) (lo := [(0, .ref 46), (1, .ref 1)]) (sp := []) rfl rfl rfl (fc_Client_askOn (fn_ev 0 (n + 2000) d) (fn_run 0 (fn_ev 0 (n + 2000) d) (fn_lk fn_d8)) (n + 1982) x)
set_option maxRecDepth 20000 in
theorem fc_Client_letter (cf : Nat → List Value → fn_M → Option fn_R) (K : Nat → fn_K) (m : Nat) (a1 : Int32) (x : fn_M) : fn_runc 0 cf (fn_lk fn_d9) [] K (m + 14) 0 [(0, .ref 46), (1, .int a1)] [] x =
  (fn_bi (cf 80 [.int a1, .int 0, .int ((x 46 12) - 1)] x) (fun y1 v2 =>
    (if v2 = 0 then
    some (y1, some (.int (-1)))
    else
    (if a1 < 0 ∨ 12 ≤ a1.toNatClampNeg then
      none
      else
      some (y1, some (.int (y1 47 a1.toNatClampNeg))))))) := rfl
theorem ft_Client_letter (n d : Nat) (a1 : Int32) (x : fn_M) : fn_ev 0 (n + 2000) (d + 1) 9 [.ref 46, .int a1] x =
  (fn_bi (fn_ev 0 (n + 2000) d 80 [.int a1, .int 0, .int ((x 46 12) - 1)] x) (fun y1 v2 =>
    (if v2 = 0 then
    some (y1, some (.int (-1)))
    else
    (if a1 < 0 ∨ 12 ≤ a1.toNatClampNeg then
      none
      else
      some (y1, some (.int (y1 47 a1.toNatClampNeg))))))) :=
  fn_ev_t (dd := fn_d9) (lo := [(0, .ref 46), (1, .int a1)]) (sp := []) rfl rfl rfl (fc_Client_letter (fn_ev 0 (n + 2000) d) (fn_run 0 (fn_ev 0 (n + 2000) d) (fn_lk fn_d9)) (n + 1986) a1 x)
set_option maxRecDepth 20000 in
theorem fc_Client_detail (cf : Nat → List Value → fn_M → Option fn_R) (K : Nat → fn_K) (m : Nat) (a1 : Int32) (x : fn_M) : fn_runc 0 cf (fn_lk fn_d10) [] K (m + 9) 0 [(0, .ref 46), (1, .int a1)] [] x =
  (if a1 = 0 then
    (if (x 46 0) = 0 then
      some (x, some (.int 0))
      else
      some (x, some (.int 1)))
    else
    (if a1 = 1 then
      some (x, some (.int (x 46 6)))
      else
      (if a1 = 2 then
        some (x, some (.int (x 46 7)))
        else
        (if a1 = 3 then
          (if (x 46 0) = 0 then
            some (x, some (.int 0))
            else
            some (x, some (.int (x 46 2))))
          else
          (if a1 = 4 then
            (if (x 46 0) = 0 then
              some (x, some (.int (-1)))
              else
              some (x, some (.int (x 46 3))))
            else
            some (x, some (.int (-1)))))))) := rfl
theorem ft_Client_detail (n d : Nat) (a1 : Int32) (x : fn_M) : fn_ev 0 (n + 2000) (d + 1) 10 [.ref 46, .int a1] x =
  (if a1 = 0 then
    (if (x 46 0) = 0 then
      some (x, some (.int 0))
      else
      some (x, some (.int 1)))
    else
    (if a1 = 1 then
      some (x, some (.int (x 46 6)))
      else
      (if a1 = 2 then
        some (x, some (.int (x 46 7)))
        else
        (if a1 = 3 then
          (if (x 46 0) = 0 then
            some (x, some (.int 0))
            else
            some (x, some (.int (x 46 2))))
          else
          (if a1 = 4 then
            (if (x 46 0) = 0 then
              some (x, some (.int (-1)))
              else
              some (x, some (.int (x 46 3))))
            else
            some (x, some (.int (-1)))))))) :=
  fn_ev_t (dd := fn_d10) (lo := [(0, .ref 46), (1, .int a1)]) (sp := []) rfl rfl rfl (fc_Client_detail (fn_ev 0 (n + 2000) d) (fn_run 0 (fn_ev 0 (n + 2000) d) (fn_lk fn_d10)) (n + 1991) a1 x)
set_option maxRecDepth 20000 in
theorem fc_Frame_numberAt (cf : Nat → List Value → fn_M → Option fn_R) (K : Nat → fn_K) (m : Nat) (k : Nat) (a1 : Int32) (x : fn_M) : fn_runc 0 cf (fn_lk fn_d11) [] K (m + 5) 0 [(0, .ref k), (1, .int a1)] [] x =
  (if a1 = 0 then
    (if fn_lc 0 k = 2 then
      some (x, some (.int (x k 1)))
      else
      none)
    else
    (if a1 = 1 then
      (if fn_lc 0 k = 2 then
        some (x, some (.int (x k 2)))
        else
        none)
      else
      (if a1 = 2 then
        (if fn_lc 0 k = 2 then
          some (x, some (.int (x k 3)))
          else
          none)
        else
        (if a1 = 3 then
          (if fn_lc 0 k = 2 then
            some (x, some (.int (x k 4)))
            else
            none)
          else
          some (x, some (.int (-1))))))) := rfl
theorem ft_Frame_numberAt (n d : Nat) (k : Nat) (a1 : Int32) (x : fn_M) : fn_ev 0 (n + 2000) (d + 1) 11 [.ref k, .int a1] x =
  (if a1 = 0 then
    (if fn_lc 0 k = 2 then
      some (x, some (.int (x k 1)))
      else
      none)
    else
    (if a1 = 1 then
      (if fn_lc 0 k = 2 then
        some (x, some (.int (x k 2)))
        else
        none)
      else
      (if a1 = 2 then
        (if fn_lc 0 k = 2 then
          some (x, some (.int (x k 3)))
          else
          none)
        else
        (if a1 = 3 then
          (if fn_lc 0 k = 2 then
            some (x, some (.int (x k 4)))
            else
            none)
          else
          some (x, some (.int (-1))))))) :=
  fn_ev_t (dd := fn_d11) (lo := [(0, .ref k), (1, .int a1)]) (sp := []) rfl rfl rfl (fc_Frame_numberAt (fn_ev 0 (n + 2000) d) (fn_run 0 (fn_ev 0 (n + 2000) d) (fn_lk fn_d11)) (n + 1995) k a1 x)
set_option maxRecDepth 20000 in
theorem fc_Master_beginForCaller (cf : Nat → List Value → fn_M → Option fn_R) (K : Nat → fn_K) (m : Nat) (a1 a2 a3 a4 : Int32) (x : fn_M) : fn_runc 0 cf (fn_lk fn_d12) [] K (m + 15) 0 [(0, .ref 45), (1, .int a1), (2, .int a2), (3, .int a3), (4, .int a4), (5, .ref 1)] [] x =
  (if a3 = 0 then
    (fn_bv (cf 0 [.ref 46, .int a1, .int a2, .ref 1] (fn_w x 46 1 0)) (fun y1 =>
      some (y1, none)))
    else
    (fn_bv (cf 1 [.ref 46, .int a1, .int a2, .int a4, .ref 1] (fn_w x 46 1 0)) (fun y2 =>
      some (y2, none)))) := rfl
theorem ft_Master_beginForCaller (n d : Nat) (a1 a2 a3 a4 : Int32) (x : fn_M) : fn_ev 0 (n + 2000) (d + 1) 12 [.ref 45, .int a1, .int a2, .int a3, .int a4, .ref 1] x =
  (if a3 = 0 then
    (fn_bv (fn_ev 0 (n + 2000) d 0 [.ref 46, .int a1, .int a2, .ref 1] (fn_w x 46 1 0)) (fun y1 =>
      some (y1, none)))
    else
    (fn_bv (fn_ev 0 (n + 2000) d 1 [.ref 46, .int a1, .int a2, .int a4, .ref 1] (fn_w x 46 1 0)) (fun y2 =>
      some (y2, none)))) :=
  fn_ev_t (dd := fn_d12) (lo := [(0, .ref 45), (1, .int a1), (2, .int a2), (3, .int a3), (4, .int a4), (5, .ref 1)]) (sp := []) rfl rfl rfl (fc_Master_beginForCaller (fn_ev 0 (n + 2000) d) (fn_run 0 (fn_ev 0 (n + 2000) d) (fn_lk fn_d12)) (n + 1985) a1 a2 a3 a4 x)
set_option maxRecDepth 20000 in
theorem fc_Master_reportAt (cf : Nat → List Value → fn_M → Option fn_R) (K : Nat → fn_K) (m : Nat) (a1 : Int32) (x : fn_M) : fn_runc 0 cf (fn_lk fn_d13) [] K (m + 17) 0 [(0, .ref 45), (1, .int a1)] [] x =
  (if a1 = (-1) then
    some (x, some (.int (x 45 3)))
    else
    (fn_bi (cf 80 [.int a1, .int 0, .int ((x 45 3) - 1)] x) (fun y1 v2 =>
      (if v2 = 0 then
      some (y1, some (.int (-2)))
      else
      (if a1 < 0 ∨ 80 ≤ a1.toNatClampNeg then
        none
        else
        some (y1, some (.int (y1 61 a1.toNatClampNeg)))))))) := rfl
theorem ft_Master_reportAt (n d : Nat) (a1 : Int32) (x : fn_M) : fn_ev 0 (n + 2000) (d + 1) 13 [.ref 45, .int a1] x =
  (if a1 = (-1) then
    some (x, some (.int (x 45 3)))
    else
    (fn_bi (fn_ev 0 (n + 2000) d 80 [.int a1, .int 0, .int ((x 45 3) - 1)] x) (fun y1 v2 =>
      (if v2 = 0 then
      some (y1, some (.int (-2)))
      else
      (if a1 < 0 ∨ 80 ≤ a1.toNatClampNeg then
        none
        else
        some (y1, some (.int (y1 61 a1.toNatClampNeg)))))))) :=
  fn_ev_t (dd := fn_d13) (lo := [(0, .ref 45), (1, .int a1)]) (sp := []) rfl rfl rfl (fc_Master_reportAt (fn_ev 0 (n + 2000) d) (fn_run 0 (fn_ev 0 (n + 2000) d) (fn_lk fn_d13)) (n + 1983) a1 x)
set_option maxRecDepth 20000 in
theorem fc_Master_addReport (cf : Nat → List Value → fn_M → Option fn_R) (K : Nat → fn_K) (m : Nat) (a1 a2 a3 : Int32) (x : fn_M) : fn_runc 0 cf (fn_lk fn_d14) [] K (m + 25) 0 [(0, .ref 45), (1, .int a1), (2, .int a2), (3, .int a3)] [] x =
  (if 80 ≤ (x 45 3) then
    some (x, none)
    else
    (if (x 45 3) < 0 ∨ 80 ≤ (x 45 3).toNatClampNeg then
      none
      else
      some ((fn_w (fn_w x 61 (x 45 3).toNatClampNeg (((1000 * a1) + (100 * a2)) + a3)) 45 3 ((x 45 3) + 1)), none))) := rfl
theorem ft_Master_addReport (n d : Nat) (a1 a2 a3 : Int32) (x : fn_M) : fn_ev 0 (n + 2000) (d + 1) 14 [.ref 45, .int a1, .int a2, .int a3] x =
  (if 80 ≤ (x 45 3) then
    some (x, none)
    else
    (if (x 45 3) < 0 ∨ 80 ≤ (x 45 3).toNatClampNeg then
      none
      else
      some ((fn_w (fn_w x 61 (x 45 3).toNatClampNeg (((1000 * a1) + (100 * a2)) + a3)) 45 3 ((x 45 3) + 1)), none))) :=
  fn_ev_t (dd := fn_d14) (lo := [(0, .ref 45), (1, .int a1), (2, .int a2), (3, .int a3)]) (sp := []) rfl rfl rfl (fc_Master_addReport (fn_ev 0 (n + 2000) d) (fn_run 0 (fn_ev 0 (n + 2000) d) (fn_lk fn_d14)) (n + 1975) a1 a2 a3 x)
set_option maxRecDepth 20000 in
theorem fc_Master_live (cf : Nat → List Value → fn_M → Option fn_R) (K : Nat → fn_K) (m : Nat) (x : fn_M) : fn_runc 0 cf (fn_lk fn_d15) [30, 70, 105, 120] K (m + 139) 0 [(0, .ref 45), (1, .ref 1)] [] x =
  (if (x 45 4) ≤ 0 then
    K (m + 136) 30 [(0, .ref 45), (1, .ref 1)] [] x
    else
    (if (x 45 4) = 0 then
      none
      else
      (if ((x 1 6) - (x 1 6) / (x 45 4) * (x 45 4)) = 0 then
        (fn_bv (cf 55 [.ref 1, .int 0, .int 128, .int 0, .int 0, .int 0] x) (fun y1 =>
          K (m + 123) 30 [(0, .ref 45), (1, .ref 1)] [] y1))
        else
        K (m + 130) 30 [(0, .ref 45), (1, .ref 1)] [] x))) := rfl
theorem ft_Master_live (n d : Nat) (x : fn_M) : fn_ev 0 (n + 2000) (d + 1) 15 [.ref 45, .ref 1] x =
  (if (x 45 4) ≤ 0 then
    fn_run 0 (fn_ev 0 (n + 2000) d) (fn_lk fn_d15) (n + 1997) 30 [(0, .ref 45), (1, .ref 1)] [] x
    else
    (if (x 45 4) = 0 then
      none
      else
      (if ((x 1 6) - (x 1 6) / (x 45 4) * (x 45 4)) = 0 then
        (fn_bv (fn_ev 0 (n + 2000) d 55 [.ref 1, .int 0, .int 128, .int 0, .int 0, .int 0] x) (fun y1 =>
          fn_run 0 (fn_ev 0 (n + 2000) d) (fn_lk fn_d15) (n + 1984) 30 [(0, .ref 45), (1, .ref 1)] [] y1))
        else
        fn_run 0 (fn_ev 0 (n + 2000) d) (fn_lk fn_d15) (n + 1991) 30 [(0, .ref 45), (1, .ref 1)] [] x))) :=
  fn_ev_t (dd := fn_d15) (lo := [(0, .ref 45), (1, .ref 1)]) (sp := [30, 70, 105, 120]) rfl rfl rfl (fc_Master_live (fn_ev 0 (n + 2000) d) (fn_run 0 (fn_ev 0 (n + 2000) d) (fn_lk fn_d15)) (n + 1861) x)
set_option maxRecDepth 20000 in
theorem fc_Master_live_at30 (cf : Nat → List Value → fn_M → Option fn_R) (K : Nat → fn_K) (m : Nat) (x : fn_M) : fn_runc 0 cf (fn_lk fn_d15) [30, 70, 105, 120] K (m + 123) 30 [(0, .ref 45), (1, .ref 1)] [] x =
  (fn_bi (cf 25 [.ref 49, .int (x 1 6)] x) (fun y1 v2 =>
    (if v2 = 0 then
    K (m + 110) 70 [(0, .ref 45), (1, .ref 1), (2, .int 1)] [] y1
    else
    (fn_bv (cf 14 [.ref 45, .int 4, .int 1, .int 0] (fn_w y1 49 3 (-1))) (fun y3 =>
      K (m + 99) 70 [(0, .ref 45), (1, .ref 1), (2, .int 1)] [] y3))))) := rfl
theorem ft_Master_live_at30 (n d m : Nat) (x : fn_M) : fn_run 0 (fn_ev 0 (n + 2000) d) (fn_lk fn_d15) (m + 123) 30 [(0, .ref 45), (1, .ref 1)] [] x =
  (fn_bi (fn_ev 0 (n + 2000) d 25 [.ref 49, .int (x 1 6)] x) (fun y1 v2 =>
    (if v2 = 0 then
    fn_run 0 (fn_ev 0 (n + 2000) d) (fn_lk fn_d15) (m + 110) 70 [(0, .ref 45), (1, .ref 1), (2, .int 1)] [] y1
    else
    (fn_bv (fn_ev 0 (n + 2000) d 14 [.ref 45, .int 4, .int 1, .int 0] (fn_w y1 49 3 (-1))) (fun y3 =>
      fn_run 0 (fn_ev 0 (n + 2000) d) (fn_lk fn_d15) (m + 99) 70 [(0, .ref 45), (1, .ref 1), (2, .int 1)] [] y3))))) :=
  (fn_runc_eq 0 (fn_ev 0 (n + 2000) d) (fn_lk fn_d15) [30, 70, 105, 120] (m + 123) 30 [(0, .ref 45), (1, .ref 1)] [] x).trans (fc_Master_live_at30 (fn_ev 0 (n + 2000) d) (fn_run 0 (fn_ev 0 (n + 2000) d) (fn_lk fn_d15)) m x)
set_option maxRecDepth 20000 in
theorem fc_Master_live_at70_1 (cf : Nat → List Value → fn_M → Option fn_R) (K : Nat → fn_K) (m : Nat) (x : fn_M) : fn_runc 0 cf (fn_lk fn_d15) [30, 70, 105, 120] K (m + 99) 70 [(0, .ref 45), (1, .ref 1), (2, .int 1)] [] x =
  (fn_bi (cf 25 [.ref 50, .int (x 1 6)] x) (fun y1 v2 =>
    (if v2 = 0 then
    K (m + 86) 70 [(0, .ref 45), (1, .ref 1), (2, .int 2)] [] y1
    else
    (fn_bv (cf 14 [.ref 45, .int 4, .int 2, .int 0] (fn_w y1 50 3 (-1))) (fun y3 =>
      K (m + 75) 70 [(0, .ref 45), (1, .ref 1), (2, .int 2)] [] y3))))) := rfl
theorem ft_Master_live_at70_1 (n d m : Nat) (x : fn_M) : fn_run 0 (fn_ev 0 (n + 2000) d) (fn_lk fn_d15) (m + 99) 70 [(0, .ref 45), (1, .ref 1), (2, .int 1)] [] x =
  (fn_bi (fn_ev 0 (n + 2000) d 25 [.ref 50, .int (x 1 6)] x) (fun y1 v2 =>
    (if v2 = 0 then
    fn_run 0 (fn_ev 0 (n + 2000) d) (fn_lk fn_d15) (m + 86) 70 [(0, .ref 45), (1, .ref 1), (2, .int 2)] [] y1
    else
    (fn_bv (fn_ev 0 (n + 2000) d 14 [.ref 45, .int 4, .int 2, .int 0] (fn_w y1 50 3 (-1))) (fun y3 =>
      fn_run 0 (fn_ev 0 (n + 2000) d) (fn_lk fn_d15) (m + 75) 70 [(0, .ref 45), (1, .ref 1), (2, .int 2)] [] y3))))) :=
  (fn_runc_eq 0 (fn_ev 0 (n + 2000) d) (fn_lk fn_d15) [30, 70, 105, 120] (m + 99) 70 [(0, .ref 45), (1, .ref 1), (2, .int 1)] [] x).trans (fc_Master_live_at70_1 (fn_ev 0 (n + 2000) d) (fn_run 0 (fn_ev 0 (n + 2000) d) (fn_lk fn_d15)) m x)
set_option maxRecDepth 20000 in
theorem fc_Master_live_at70_2 (cf : Nat → List Value → fn_M → Option fn_R) (K : Nat → fn_K) (m : Nat) (x : fn_M) : fn_runc 0 cf (fn_lk fn_d15) [30, 70, 105, 120] K (m + 75) 70 [(0, .ref 45), (1, .ref 1), (2, .int 2)] [] x =
  (fn_bi (cf 25 [.ref 51, .int (x 1 6)] x) (fun y1 v2 =>
    (if v2 = 0 then
    K (m + 62) 70 [(0, .ref 45), (1, .ref 1), (2, .int 3)] [] y1
    else
    (fn_bv (cf 14 [.ref 45, .int 4, .int 3, .int 0] (fn_w y1 51 3 (-1))) (fun y3 =>
      K (m + 51) 70 [(0, .ref 45), (1, .ref 1), (2, .int 3)] [] y3))))) := rfl
theorem ft_Master_live_at70_2 (n d m : Nat) (x : fn_M) : fn_run 0 (fn_ev 0 (n + 2000) d) (fn_lk fn_d15) (m + 75) 70 [(0, .ref 45), (1, .ref 1), (2, .int 2)] [] x =
  (fn_bi (fn_ev 0 (n + 2000) d 25 [.ref 51, .int (x 1 6)] x) (fun y1 v2 =>
    (if v2 = 0 then
    fn_run 0 (fn_ev 0 (n + 2000) d) (fn_lk fn_d15) (m + 62) 70 [(0, .ref 45), (1, .ref 1), (2, .int 3)] [] y1
    else
    (fn_bv (fn_ev 0 (n + 2000) d 14 [.ref 45, .int 4, .int 3, .int 0] (fn_w y1 51 3 (-1))) (fun y3 =>
      fn_run 0 (fn_ev 0 (n + 2000) d) (fn_lk fn_d15) (m + 51) 70 [(0, .ref 45), (1, .ref 1), (2, .int 3)] [] y3))))) :=
  (fn_runc_eq 0 (fn_ev 0 (n + 2000) d) (fn_lk fn_d15) [30, 70, 105, 120] (m + 75) 70 [(0, .ref 45), (1, .ref 1), (2, .int 2)] [] x).trans (fc_Master_live_at70_2 (fn_ev 0 (n + 2000) d) (fn_run 0 (fn_ev 0 (n + 2000) d) (fn_lk fn_d15)) m x)
set_option maxRecDepth 20000 in
theorem fc_Master_live_at70_3 (cf : Nat → List Value → fn_M → Option fn_R) (K : Nat → fn_K) (m : Nat) (x : fn_M) : fn_runc 0 cf (fn_lk fn_d15) [30, 70, 105, 120] K (m + 51) 70 [(0, .ref 45), (1, .ref 1), (2, .int 3)] [] x =
  (fn_bi (cf 25 [.ref 52, .int (x 1 6)] x) (fun y1 v2 =>
    (if v2 = 0 then
    K (m + 38) 70 [(0, .ref 45), (1, .ref 1), (2, .int 4)] [] y1
    else
    (fn_bv (cf 14 [.ref 45, .int 4, .int 4, .int 0] (fn_w y1 52 3 (-1))) (fun y3 =>
      K (m + 27) 70 [(0, .ref 45), (1, .ref 1), (2, .int 4)] [] y3))))) := rfl
theorem ft_Master_live_at70_3 (n d m : Nat) (x : fn_M) : fn_run 0 (fn_ev 0 (n + 2000) d) (fn_lk fn_d15) (m + 51) 70 [(0, .ref 45), (1, .ref 1), (2, .int 3)] [] x =
  (fn_bi (fn_ev 0 (n + 2000) d 25 [.ref 52, .int (x 1 6)] x) (fun y1 v2 =>
    (if v2 = 0 then
    fn_run 0 (fn_ev 0 (n + 2000) d) (fn_lk fn_d15) (m + 38) 70 [(0, .ref 45), (1, .ref 1), (2, .int 4)] [] y1
    else
    (fn_bv (fn_ev 0 (n + 2000) d 14 [.ref 45, .int 4, .int 4, .int 0] (fn_w y1 52 3 (-1))) (fun y3 =>
      fn_run 0 (fn_ev 0 (n + 2000) d) (fn_lk fn_d15) (m + 27) 70 [(0, .ref 45), (1, .ref 1), (2, .int 4)] [] y3))))) :=
  (fn_runc_eq 0 (fn_ev 0 (n + 2000) d) (fn_lk fn_d15) [30, 70, 105, 120] (m + 51) 70 [(0, .ref 45), (1, .ref 1), (2, .int 3)] [] x).trans (fc_Master_live_at70_3 (fn_ev 0 (n + 2000) d) (fn_run 0 (fn_ev 0 (n + 2000) d) (fn_lk fn_d15)) m x)
set_option maxRecDepth 20000 in
theorem fc_Master_live_at70_4 (cf : Nat → List Value → fn_M → Option fn_R) (K : Nat → fn_K) (m : Nat) (x : fn_M) : fn_runc 0 cf (fn_lk fn_d15) [30, 70, 105, 120] K (m + 27) 70 [(0, .ref 45), (1, .ref 1), (2, .int 4)] [] x =
  (fn_bi (cf 3 [.ref 46, .int (x 1 6)] x) (fun y1 v2 =>
    (if v2 = 0 then
    K (m + 16) 105 [(0, .ref 45), (1, .ref 1), (2, .int 5)] [] y1
    else
    (fn_bv (cf 4 [.ref 46, .int 7, .int 0] y1) (fun y3 =>
      (fn_bv (cf 19 [.ref 45, .ref 1] y3) (fun y4 =>
      K (m + 8) 105 [(0, .ref 45), (1, .ref 1), (2, .int 5)] [] y4))))))) := rfl
theorem ft_Master_live_at70_4 (n d m : Nat) (x : fn_M) : fn_run 0 (fn_ev 0 (n + 2000) d) (fn_lk fn_d15) (m + 27) 70 [(0, .ref 45), (1, .ref 1), (2, .int 4)] [] x =
  (fn_bi (fn_ev 0 (n + 2000) d 3 [.ref 46, .int (x 1 6)] x) (fun y1 v2 =>
    (if v2 = 0 then
    fn_run 0 (fn_ev 0 (n + 2000) d) (fn_lk fn_d15) (m + 16) 105 [(0, .ref 45), (1, .ref 1), (2, .int 5)] [] y1
    else
    (fn_bv (fn_ev 0 (n + 2000) d 4 [.ref 46, .int 7, .int 0] y1) (fun y3 =>
      (fn_bv (fn_ev 0 (n + 2000) d 19 [.ref 45, .ref 1] y3) (fun y4 =>
      fn_run 0 (fn_ev 0 (n + 2000) d) (fn_lk fn_d15) (m + 8) 105 [(0, .ref 45), (1, .ref 1), (2, .int 5)] [] y4))))))) :=
  (fn_runc_eq 0 (fn_ev 0 (n + 2000) d) (fn_lk fn_d15) [30, 70, 105, 120] (m + 27) 70 [(0, .ref 45), (1, .ref 1), (2, .int 4)] [] x).trans (fc_Master_live_at70_4 (fn_ev 0 (n + 2000) d) (fn_run 0 (fn_ev 0 (n + 2000) d) (fn_lk fn_d15)) m x)
set_option maxRecDepth 20000 in
theorem fc_Master_live_at105_5 (cf : Nat → List Value → fn_M → Option fn_R) (K : Nat → fn_K) (m : Nat) (x : fn_M) : fn_runc 0 cf (fn_lk fn_d15) [30, 70, 105, 120] K (m + 8) 105 [(0, .ref 45), (1, .ref 1), (2, .int 5)] [] x =
  (if (x 46 0) = 0 then
    (fn_bv (cf 16 [.ref 45, .ref 1] x) (fun y1 =>
      K (m + 1) 120 [(0, .ref 45), (1, .ref 1), (2, .int 5)] [] y1))
    else
    K (m + 4) 120 [(0, .ref 45), (1, .ref 1), (2, .int 5)] [] x) := rfl
theorem ft_Master_live_at105_5 (n d m : Nat) (x : fn_M) : fn_run 0 (fn_ev 0 (n + 2000) d) (fn_lk fn_d15) (m + 8) 105 [(0, .ref 45), (1, .ref 1), (2, .int 5)] [] x =
  (if (x 46 0) = 0 then
    (fn_bv (fn_ev 0 (n + 2000) d 16 [.ref 45, .ref 1] x) (fun y1 =>
      fn_run 0 (fn_ev 0 (n + 2000) d) (fn_lk fn_d15) (m + 1) 120 [(0, .ref 45), (1, .ref 1), (2, .int 5)] [] y1))
    else
    fn_run 0 (fn_ev 0 (n + 2000) d) (fn_lk fn_d15) (m + 4) 120 [(0, .ref 45), (1, .ref 1), (2, .int 5)] [] x) :=
  (fn_runc_eq 0 (fn_ev 0 (n + 2000) d) (fn_lk fn_d15) [30, 70, 105, 120] (m + 8) 105 [(0, .ref 45), (1, .ref 1), (2, .int 5)] [] x).trans (fc_Master_live_at105_5 (fn_ev 0 (n + 2000) d) (fn_run 0 (fn_ev 0 (n + 2000) d) (fn_lk fn_d15)) m x)
set_option maxRecDepth 20000 in
theorem fc_Master_live_at120_5 (cf : Nat → List Value → fn_M → Option fn_R) (K : Nat → fn_K) (m : Nat) (x : fn_M) : fn_runc 0 cf (fn_lk fn_d15) [30, 70, 105, 120] K (m + 1) 120 [(0, .ref 45), (1, .ref 1), (2, .int 5)] [] x =
  some (x, none) := rfl
theorem ft_Master_live_at120_5 (n d m : Nat) (x : fn_M) : fn_run 0 (fn_ev 0 (n + 2000) d) (fn_lk fn_d15) (m + 1) 120 [(0, .ref 45), (1, .ref 1), (2, .int 5)] [] x =
  some (x, none) :=
  (fn_runc_eq 0 (fn_ev 0 (n + 2000) d) (fn_lk fn_d15) [30, 70, 105, 120] (m + 1) 120 [(0, .ref 45), (1, .ref 1), (2, .int 5)] [] x).trans (fc_Master_live_at120_5 (fn_ev 0 (n + 2000) d) (fn_run 0 (fn_ev 0 (n + 2000) d) (fn_lk fn_d15)) m x)
set_option maxRecDepth 20000 in
theorem fc_Master_beginBoot (cf : Nat → List Value → fn_M → Option fn_R) (K : Nat → fn_K) (m : Nat) (x : fn_M) : fn_runc 0 cf (fn_lk fn_d16) [] K (m + 65) 0 [(0, .ref 45), (1, .ref 1)] [] x =
  (if (x 49 2) = 1 then
    (fn_bv (cf 0 [.ref 46, .int 1, .int 0, .ref 1] (fn_w (fn_w x 49 2 2) 46 1 1)) (fun y4 =>
      some (y4, none)))
    else
    (if (x 50 2) = 1 then
      (fn_bv (cf 0 [.ref 46, .int 2, .int 0, .ref 1] (fn_w (fn_w x 50 2 2) 46 1 1)) (fun y3 =>
        some (y3, none)))
      else
      (if (x 51 2) = 1 then
        (fn_bv (cf 0 [.ref 46, .int 3, .int 0, .ref 1] (fn_w (fn_w x 51 2 2) 46 1 1)) (fun y2 =>
          some (y2, none)))
        else
        (if (x 52 2) = 1 then
          (fn_bv (cf 0 [.ref 46, .int 4, .int 0, .ref 1] (fn_w (fn_w x 52 2 2) 46 1 1)) (fun y1 =>
            some (y1, none)))
          else
          some (x, none))))) := rfl
theorem ft_Master_beginBoot (n d : Nat) (x : fn_M) : fn_ev 0 (n + 2000) (d + 1) 16 [.ref 45, .ref 1] x =
  (if (x 49 2) = 1 then
    (fn_bv (fn_ev 0 (n + 2000) d 0 [.ref 46, .int 1, .int 0, .ref 1] (fn_w (fn_w x 49 2 2) 46 1 1)) (fun y4 =>
      some (y4, none)))
    else
    (if (x 50 2) = 1 then
      (fn_bv (fn_ev 0 (n + 2000) d 0 [.ref 46, .int 2, .int 0, .ref 1] (fn_w (fn_w x 50 2 2) 46 1 1)) (fun y3 =>
        some (y3, none)))
      else
      (if (x 51 2) = 1 then
        (fn_bv (fn_ev 0 (n + 2000) d 0 [.ref 46, .int 3, .int 0, .ref 1] (fn_w (fn_w x 51 2 2) 46 1 1)) (fun y2 =>
          some (y2, none)))
        else
        (if (x 52 2) = 1 then
          (fn_bv (fn_ev 0 (n + 2000) d 0 [.ref 46, .int 4, .int 0, .ref 1] (fn_w (fn_w x 52 2 2) 46 1 1)) (fun y1 =>
            some (y1, none)))
          else
          some (x, none))))) :=
  fn_ev_t (dd := fn_d16) (lo := [(0, .ref 45), (1, .ref 1)]) (sp := []) rfl rfl rfl (fc_Master_beginBoot (fn_ev 0 (n + 2000) d) (fn_run 0 (fn_ev 0 (n + 2000) d) (fn_lk fn_d16)) (n + 1935) x)
set_option maxRecDepth 20000 in
theorem fc_Master_hear (cf : Nat → List Value → fn_M → Option fn_R) (K : Nat → fn_K) (m : Nat) (p : Nat) (x : fn_M) : fn_runc 0 cf (fn_lk fn_d17) [] K (m + 24) 0 [(0, .ref 45), (1, .ref p), (2, .ref 1)] [] x =
  (if fn_lc 0 p = 2 then
    (fn_bi (cf 81 [.int ((x p 1) - 128)] x) (fun y1 v2 =>
      (if v2 = 0 then
      (if fn_lc 0 p = 2 then
        (fn_bi (cf 81 [.int ((y1 p 1) - 1792)] y1) (fun y3 v4 =>
          (if v4 = 0 then
          (fn_bi (cf 5 [.ref 46, .ref p, .ref 1] y3) (fun y5 v6 =>
            (if v6 = 0 then
            some (y5, none)
            else
            (fn_bv (cf 19 [.ref 45, .ref 1] y5) (fun y7 =>
              some (y7, none))))))
          else
          (if fn_lc 0 p = 2 then
            (if fn_lc 0 p = 2 then
              (fn_bv (cf 18 [.ref 45, .int ((y3 p 1) - 1792), .int (y3 p 2), .int (y3 1 6)] y3) (fun y8 =>
                some (y8, none)))
              else
              none)
            else
            none))))
        else
        none)
      else
      (if fn_lc 0 p = 2 then
        (if fn_lc 0 p = 2 then
          (fn_bv (cf 14 [.ref 45, .int 5, .int ((y1 p 1) - 128), .int ((y1 p 2) &&& 63)] y1) (fun y9 =>
            some (y9, none)))
          else
          none)
        else
        none))))
    else
    none) := rfl
theorem ft_Master_hear (n d : Nat) (p : Nat) (x : fn_M) : fn_ev 0 (n + 2000) (d + 1) 17 [.ref 45, .ref p, .ref 1] x =
  (if fn_lc 0 p = 2 then
    (fn_bi (fn_ev 0 (n + 2000) d 81 [.int ((x p 1) - 128)] x) (fun y1 v2 =>
      (if v2 = 0 then
      (if fn_lc 0 p = 2 then
        (fn_bi (fn_ev 0 (n + 2000) d 81 [.int ((y1 p 1) - 1792)] y1) (fun y3 v4 =>
          (if v4 = 0 then
          (fn_bi (fn_ev 0 (n + 2000) d 5 [.ref 46, .ref p, .ref 1] y3) (fun y5 v6 =>
            (if v6 = 0 then
            some (y5, none)
            else
            (fn_bv (fn_ev 0 (n + 2000) d 19 [.ref 45, .ref 1] y5) (fun y7 =>
              some (y7, none))))))
          else
          (if fn_lc 0 p = 2 then
            (if fn_lc 0 p = 2 then
              (fn_bv (fn_ev 0 (n + 2000) d 18 [.ref 45, .int ((y3 p 1) - 1792), .int (y3 p 2), .int (y3 1 6)] y3) (fun y8 =>
                some (y8, none)))
              else
              none)
            else
            none))))
        else
        none)
      else
      (if fn_lc 0 p = 2 then
        (if fn_lc 0 p = 2 then
          (fn_bv (fn_ev 0 (n + 2000) d 14 [.ref 45, .int 5, .int ((y1 p 1) - 128), .int ((y1 p 2) &&& 63)] y1) (fun y9 =>
            some (y9, none)))
          else
          none)
        else
        none))))
    else
    none) :=
  fn_ev_t (dd := fn_d17) (lo := [(0, .ref 45), (1, .ref p), (2, .ref 1)]) (sp := []) rfl rfl rfl (fc_Master_hear (fn_ev 0 (n + 2000) d) (fn_run 0 (fn_ev 0 (n + 2000) d) (fn_lk fn_d17)) (n + 1976) p x)
set_option maxRecDepth 20000 in
theorem fc_Master_hearBeat (cf : Nat → List Value → fn_M → Option fn_R) (K : Nat → fn_K) (m : Nat) (a1 a2 a3 : Int32) (x : fn_M) : fn_runc 0 cf (fn_lk fn_d18) [] K (m + 39) 0 [(0, .ref 45), (1, .int a1), (2, .int a2), (3, .int a3)] [] x =
  (if a2 = 0 then
    (fn_bv (cf 14 [.ref 45, .int 1, .int a1, .int 0] x) (fun y1 =>
      (if a1 < 0 ∨ 5 ≤ a1.toNatClampNeg then
      none
      else
      (if 1 ≤ a1.toNatClampNeg ∧ a1.toNatClampNeg ≤ 4 then
        (if fn_lc 0 (48 + a1.toNatClampNeg) = 4 then
          (if a1 < 0 ∨ 5 ≤ a1.toNatClampNeg then
            none
            else
            (if 1 ≤ a1.toNatClampNeg ∧ a1.toNatClampNeg ≤ 4 then
              (if (fn_lc 0 (48 + a1.toNatClampNeg) == 4) = true then
                (fn_bi (cf 22 [.ref (48 + a1.toNatClampNeg)] (fn_w y1 (48 + a1.toNatClampNeg) 3 (-1))) (fun y2 v3 =>
                  (if v3 = 0 then
                  some (y2, none)
                  else
                  (if (y2 46 1) = 0 then
                    (if a1 < 0 ∨ 5 ≤ a1.toNatClampNeg then
                      none
                      else
                      (if 1 ≤ a1.toNatClampNeg ∧ a1.toNatClampNeg ≤ 4 then
                        (if fn_lc 0 (48 + a1.toNatClampNeg) = 4 then
                          some ((fn_w y2 (48 + a1.toNatClampNeg) 2 1), none)
                          else
                          none)
                        else
                        none))
                    else
                    (if (y2 46 2) = a1 then
                      (if a1 < 0 ∨ 5 ≤ a1.toNatClampNeg then
                        none
                        else
                        (if 1 ≤ a1.toNatClampNeg ∧ a1.toNatClampNeg ≤ 4 then
                          (if fn_lc 0 (48 + a1.toNatClampNeg) = 4 then
                            some ((fn_w (fn_w y2 46 0 0) (48 + a1.toNatClampNeg) 2 1), none)
                            else
                            none)
                          else
                          none))
                      else
                      (if a1 < 0 ∨ 5 ≤ a1.toNatClampNeg then
                        none
                        else
                        (if 1 ≤ a1.toNatClampNeg ∧ a1.toNatClampNeg ≤ 4 then
                          (if fn_lc 0 (48 + a1.toNatClampNeg) = 4 then
                            some ((fn_w y2 (48 + a1.toNatClampNeg) 2 1), none)
                            else
                            none)
                          else
                          none)))))))
                else
                none)
              else
              none))
          else
          none)
        else
        none))))
    else
    (if a1 < 0 ∨ 5 ≤ a1.toNatClampNeg then
      none
      else
      (if 1 ≤ a1.toNatClampNeg ∧ a1.toNatClampNeg ≤ 4 then
        (if fn_lc 0 (48 + a1.toNatClampNeg) = 4 then
          some ((fn_w x (48 + a1.toNatClampNeg) 3 a3), none)
          else
          none)
        else
        none))) := rfl
theorem ft_Master_hearBeat (n d : Nat) (a1 a2 a3 : Int32) (x : fn_M) : fn_ev 0 (n + 2000) (d + 1) 18 [.ref 45, .int a1, .int a2, .int a3] x =
  (if a2 = 0 then
    (fn_bv (fn_ev 0 (n + 2000) d 14 [.ref 45, .int 1, .int a1, .int 0] x) (fun y1 =>
      (if a1 < 0 ∨ 5 ≤ a1.toNatClampNeg then
      none
      else
      (if 1 ≤ a1.toNatClampNeg ∧ a1.toNatClampNeg ≤ 4 then
        (if fn_lc 0 (48 + a1.toNatClampNeg) = 4 then
          (if a1 < 0 ∨ 5 ≤ a1.toNatClampNeg then
            none
            else
            (if 1 ≤ a1.toNatClampNeg ∧ a1.toNatClampNeg ≤ 4 then
              (if (fn_lc 0 (48 + a1.toNatClampNeg) == 4) = true then
                (fn_bi (fn_ev 0 (n + 2000) d 22 [.ref (48 + a1.toNatClampNeg)] (fn_w y1 (48 + a1.toNatClampNeg) 3 (-1))) (fun y2 v3 =>
                  (if v3 = 0 then
                  some (y2, none)
                  else
                  (if (y2 46 1) = 0 then
                    (if a1 < 0 ∨ 5 ≤ a1.toNatClampNeg then
                      none
                      else
                      (if 1 ≤ a1.toNatClampNeg ∧ a1.toNatClampNeg ≤ 4 then
                        (if fn_lc 0 (48 + a1.toNatClampNeg) = 4 then
                          some ((fn_w y2 (48 + a1.toNatClampNeg) 2 1), none)
                          else
                          none)
                        else
                        none))
                    else
                    (if (y2 46 2) = a1 then
                      (if a1 < 0 ∨ 5 ≤ a1.toNatClampNeg then
                        none
                        else
                        (if 1 ≤ a1.toNatClampNeg ∧ a1.toNatClampNeg ≤ 4 then
                          (if fn_lc 0 (48 + a1.toNatClampNeg) = 4 then
                            some ((fn_w (fn_w y2 46 0 0) (48 + a1.toNatClampNeg) 2 1), none)
                            else
                            none)
                          else
                          none))
                      else
                      (if a1 < 0 ∨ 5 ≤ a1.toNatClampNeg then
                        none
                        else
                        (if 1 ≤ a1.toNatClampNeg ∧ a1.toNatClampNeg ≤ 4 then
                          (if fn_lc 0 (48 + a1.toNatClampNeg) = 4 then
                            some ((fn_w y2 (48 + a1.toNatClampNeg) 2 1), none)
                            else
                            none)
                          else
                          none)))))))
                else
                none)
              else
              none))
          else
          none)
        else
        none))))
    else
    (if a1 < 0 ∨ 5 ≤ a1.toNatClampNeg then
      none
      else
      (if 1 ≤ a1.toNatClampNeg ∧ a1.toNatClampNeg ≤ 4 then
        (if fn_lc 0 (48 + a1.toNatClampNeg) = 4 then
          some ((fn_w x (48 + a1.toNatClampNeg) 3 a3), none)
          else
          none)
        else
        none))) :=
  fn_ev_t (dd := fn_d18) (lo := [(0, .ref 45), (1, .int a1), (2, .int a2), (3, .int a3)]) (sp := []) rfl rfl rfl (fc_Master_hearBeat (fn_ev 0 (n + 2000) d) (fn_run 0 (fn_ev 0 (n + 2000) d) (fn_lk fn_d18)) (n + 1961) a1 a2 a3 x)
set_option maxRecDepth 20000 in
theorem fc_Master_goOnWithBoot (cf : Nat → List Value → fn_M → Option fn_R) (K : Nat → fn_K) (m : Nat) (x : fn_M) : fn_runc 0 cf (fn_lk fn_d19) [] K (m + 41) 0 [(0, .ref 45), (1, .ref 1)] [] x =
  (if (x 46 1) = 0 then
    some (x, none)
    else
    (if (x 46 2) < 0 ∨ 5 ≤ (x 46 2).toNatClampNeg then
      none
      else
      (if 1 ≤ (x 46 2).toNatClampNeg ∧ (x 46 2).toNatClampNeg ≤ 4 then
        (if (x 46 6) = 7 then
          (fn_bv (cf 20 [.ref 45, .int 7] x) (fun y5 =>
            some (y5, none)))
          else
          (if (x 46 6) = 0 then
            (if fn_lc 0 (48 + (x 46 2).toNatClampNeg) = 4 then
              (if (x (48 + (x 46 2).toNatClampNeg) 2) = 3 then
                (if fn_lc 0 (48 + (x 46 2).toNatClampNeg) = 4 then
                  (if fn_lc 0 (48 + (x 46 2).toNatClampNeg) = 4 then
                    (fn_bv (cf 21 [.ref 45, .ref (48 + (x 46 2).toNatClampNeg), .ref 1] (fn_w x (48 + (x 46 2).toNatClampNeg) 7 ((x (48 + (x 46 2).toNatClampNeg) 7) + 1))) (fun y3 =>
                      some (y3, none)))
                    else
                    none)
                  else
                  none)
                else
                (if fn_lc 0 (48 + (x 46 2).toNatClampNeg) = 4 then
                  (if (x 46 7) = (x (48 + (x 46 2).toNatClampNeg) 0) then
                    (if fn_lc 0 (48 + (x 46 2).toNatClampNeg) = 4 then
                      (if fn_lc 0 (48 + (x 46 2).toNatClampNeg) = 4 then
                        (fn_bv (cf 21 [.ref 45, .ref (48 + (x 46 2).toNatClampNeg), .ref 1] (fn_w (fn_w x (48 + (x 46 2).toNatClampNeg) 2 3) (48 + (x 46 2).toNatClampNeg) 7 0)) (fun y1 =>
                          some (y1, none)))
                        else
                        none)
                      else
                      none)
                    else
                    (fn_bv (cf 20 [.ref 45, .int 5] x) (fun y2 =>
                      some (y2, none))))
                  else
                  none))
              else
              none)
            else
            (fn_bv (cf 20 [.ref 45, .int 6] x) (fun y4 =>
              some (y4, none)))))
        else
        (if (x 46 6) = 7 then
          (fn_bv (cf 20 [.ref 45, .int 7] x) (fun y7 =>
            some (y7, none)))
          else
          (if (x 46 6) = 0 then
            none
            else
            (fn_bv (cf 20 [.ref 45, .int 6] x) (fun y6 =>
              some (y6, none)))))))) := rfl
theorem ft_Master_goOnWithBoot (n d : Nat) (x : fn_M) : fn_ev 0 (n + 2000) (d + 1) 19 [.ref 45, .ref 1] x =
  (if (x 46 1) = 0 then
    some (x, none)
    else
    (if (x 46 2) < 0 ∨ 5 ≤ (x 46 2).toNatClampNeg then
      none
      else
      (if 1 ≤ (x 46 2).toNatClampNeg ∧ (x 46 2).toNatClampNeg ≤ 4 then
        (if (x 46 6) = 7 then
          (fn_bv (fn_ev 0 (n + 2000) d 20 [.ref 45, .int 7] x) (fun y5 =>
            some (y5, none)))
          else
          (if (x 46 6) = 0 then
            (if fn_lc 0 (48 + (x 46 2).toNatClampNeg) = 4 then
              (if (x (48 + (x 46 2).toNatClampNeg) 2) = 3 then
                (if fn_lc 0 (48 + (x 46 2).toNatClampNeg) = 4 then
                  (if fn_lc 0 (48 + (x 46 2).toNatClampNeg) = 4 then
                    (fn_bv (fn_ev 0 (n + 2000) d 21 [.ref 45, .ref (48 + (x 46 2).toNatClampNeg), .ref 1] (fn_w x (48 + (x 46 2).toNatClampNeg) 7 ((x (48 + (x 46 2).toNatClampNeg) 7) + 1))) (fun y3 =>
                      some (y3, none)))
                    else
                    none)
                  else
                  none)
                else
                (if fn_lc 0 (48 + (x 46 2).toNatClampNeg) = 4 then
                  (if (x 46 7) = (x (48 + (x 46 2).toNatClampNeg) 0) then
                    (if fn_lc 0 (48 + (x 46 2).toNatClampNeg) = 4 then
                      (if fn_lc 0 (48 + (x 46 2).toNatClampNeg) = 4 then
                        (fn_bv (fn_ev 0 (n + 2000) d 21 [.ref 45, .ref (48 + (x 46 2).toNatClampNeg), .ref 1] (fn_w (fn_w x (48 + (x 46 2).toNatClampNeg) 2 3) (48 + (x 46 2).toNatClampNeg) 7 0)) (fun y1 =>
                          some (y1, none)))
                        else
                        none)
                      else
                      none)
                    else
                    (fn_bv (fn_ev 0 (n + 2000) d 20 [.ref 45, .int 5] x) (fun y2 =>
                      some (y2, none))))
                  else
                  none))
              else
              none)
            else
            (fn_bv (fn_ev 0 (n + 2000) d 20 [.ref 45, .int 6] x) (fun y4 =>
              some (y4, none)))))
        else
        (if (x 46 6) = 7 then
          (fn_bv (fn_ev 0 (n + 2000) d 20 [.ref 45, .int 7] x) (fun y7 =>
            some (y7, none)))
          else
          (if (x 46 6) = 0 then
            none
            else
            (fn_bv (fn_ev 0 (n + 2000) d 20 [.ref 45, .int 6] x) (fun y6 =>
              some (y6, none)))))))) :=
  fn_ev_t (dd := fn_d19) (lo := [(0, .ref 45), (1, .ref 1)]) (sp := []) rfl rfl rfl (fc_Master_goOnWithBoot (fn_ev 0 (n + 2000) d) (fn_run 0 (fn_ev 0 (n + 2000) d) (fn_lk fn_d19)) (n + 1959) x)
set_option maxRecDepth 20000 in
theorem fc_Master_giveUp (cf : Nat → List Value → fn_M → Option fn_R) (K : Nat → fn_K) (m : Nat) (a1 : Int32) (x : fn_M) : fn_runc 0 cf (fn_lk fn_d20) [] K (m + 16) 0 [(0, .ref 45), (1, .int a1)] [] x =
  (if (x 46 2) < 0 ∨ 5 ≤ (x 46 2).toNatClampNeg then
    none
    else
    (if 1 ≤ (x 46 2).toNatClampNeg ∧ (x 46 2).toNatClampNeg ≤ 4 then
      (if fn_lc 0 (48 + (x 46 2).toNatClampNeg) = 4 then
        (fn_bv (cf 14 [.ref 45, .int 3, .int ((fn_w x (48 + (x 46 2).toNatClampNeg) 2 a1) 46 2), .int a1] (fn_w x (48 + (x 46 2).toNatClampNeg) 2 a1)) (fun y1 =>
          some (y1, none)))
        else
        none)
      else
      none)) := rfl
theorem ft_Master_giveUp (n d : Nat) (a1 : Int32) (x : fn_M) : fn_ev 0 (n + 2000) (d + 1) 20 [.ref 45, .int a1] x =
  (if (x 46 2) < 0 ∨ 5 ≤ (x 46 2).toNatClampNeg then
    none
    else
    (if 1 ≤ (x 46 2).toNatClampNeg ∧ (x 46 2).toNatClampNeg ≤ 4 then
      (if fn_lc 0 (48 + (x 46 2).toNatClampNeg) = 4 then
        (fn_bv (fn_ev 0 (n + 2000) d 14 [.ref 45, .int 3, .int ((fn_w x (48 + (x 46 2).toNatClampNeg) 2 a1) 46 2), .int a1] (fn_w x (48 + (x 46 2).toNatClampNeg) 2 a1)) (fun y1 =>
          some (y1, none)))
        else
        none)
      else
      none)) :=
  fn_ev_t (dd := fn_d20) (lo := [(0, .ref 45), (1, .int a1)]) (sp := []) rfl rfl rfl (fc_Master_giveUp (fn_ev 0 (n + 2000) d) (fn_run 0 (fn_ev 0 (n + 2000) d) (fn_lk fn_d20)) (n + 1984) a1 x)
set_option maxRecDepth 20000 in
theorem fc_Master_writeNext_1 (cf : Nat → List Value → fn_M → Option fn_R) (K : Nat → fn_K) (m : Nat) (x : fn_M) : fn_runc 0 cf (fn_lk fn_d21) [] K (m + 27) 0 [(0, .ref 45), (1, .ref 49), (2, .ref 1)] [] x =
  (if (x 49 6) ≤ (x 49 7) then
    (fn_bv (cf 55 [.ref 1, .int 0, .int 0, .int 1, .int (x 46 2), .int 0] (fn_w x 49 2 4)) (fun y1 =>
      (fn_bv (cf 14 [.ref 45, .int 2, .int (y1 46 2), .int 0] y1) (fun y2 =>
      some (y2, none)))))
    else
    (if (x 49 7) < 0 ∨ 3 ≤ (x 49 7).toNatClampNeg then
      none
      else
      (if (x 49 7) < 0 ∨ 3 ≤ (x 49 7).toNatClampNeg then
        none
        else
        (fn_bv (cf 1 [.ref 46, .int (x 46 2), .int (x 53 (x 49 7).toNatClampNeg), .int (x 57 (x 49 7).toNatClampNeg), .ref 1] x) (fun y3 =>
          some (y3, none)))))) := rfl
theorem ft_Master_writeNext_1 (n d : Nat) (x : fn_M) : fn_ev 0 (n + 2000) (d + 1) 21 [.ref 45, .ref 49, .ref 1] x =
  (if (x 49 6) ≤ (x 49 7) then
    (fn_bv (fn_ev 0 (n + 2000) d 55 [.ref 1, .int 0, .int 0, .int 1, .int (x 46 2), .int 0] (fn_w x 49 2 4)) (fun y1 =>
      (fn_bv (fn_ev 0 (n + 2000) d 14 [.ref 45, .int 2, .int (y1 46 2), .int 0] y1) (fun y2 =>
      some (y2, none)))))
    else
    (if (x 49 7) < 0 ∨ 3 ≤ (x 49 7).toNatClampNeg then
      none
      else
      (if (x 49 7) < 0 ∨ 3 ≤ (x 49 7).toNatClampNeg then
        none
        else
        (fn_bv (fn_ev 0 (n + 2000) d 1 [.ref 46, .int (x 46 2), .int (x 53 (x 49 7).toNatClampNeg), .int (x 57 (x 49 7).toNatClampNeg), .ref 1] x) (fun y3 =>
          some (y3, none)))))) :=
  fn_ev_t (dd := fn_d21) (lo := [(0, .ref 45), (1, .ref 49), (2, .ref 1)]) (sp := []) rfl rfl rfl (fc_Master_writeNext_1 (fn_ev 0 (n + 2000) d) (fn_run 0 (fn_ev 0 (n + 2000) d) (fn_lk fn_d21)) (n + 1973) x)
set_option maxRecDepth 20000 in
theorem fc_Master_writeNext_2 (cf : Nat → List Value → fn_M → Option fn_R) (K : Nat → fn_K) (m : Nat) (x : fn_M) : fn_runc 0 cf (fn_lk fn_d21) [] K (m + 27) 0 [(0, .ref 45), (1, .ref 50), (2, .ref 1)] [] x =
  (if (x 50 6) ≤ (x 50 7) then
    (fn_bv (cf 55 [.ref 1, .int 0, .int 0, .int 1, .int (x 46 2), .int 0] (fn_w x 50 2 4)) (fun y1 =>
      (fn_bv (cf 14 [.ref 45, .int 2, .int (y1 46 2), .int 0] y1) (fun y2 =>
      some (y2, none)))))
    else
    (if (x 50 7) < 0 ∨ 3 ≤ (x 50 7).toNatClampNeg then
      none
      else
      (if (x 50 7) < 0 ∨ 3 ≤ (x 50 7).toNatClampNeg then
        none
        else
        (fn_bv (cf 1 [.ref 46, .int (x 46 2), .int (x 54 (x 50 7).toNatClampNeg), .int (x 58 (x 50 7).toNatClampNeg), .ref 1] x) (fun y3 =>
          some (y3, none)))))) := rfl
theorem ft_Master_writeNext_2 (n d : Nat) (x : fn_M) : fn_ev 0 (n + 2000) (d + 1) 21 [.ref 45, .ref 50, .ref 1] x =
  (if (x 50 6) ≤ (x 50 7) then
    (fn_bv (fn_ev 0 (n + 2000) d 55 [.ref 1, .int 0, .int 0, .int 1, .int (x 46 2), .int 0] (fn_w x 50 2 4)) (fun y1 =>
      (fn_bv (fn_ev 0 (n + 2000) d 14 [.ref 45, .int 2, .int (y1 46 2), .int 0] y1) (fun y2 =>
      some (y2, none)))))
    else
    (if (x 50 7) < 0 ∨ 3 ≤ (x 50 7).toNatClampNeg then
      none
      else
      (if (x 50 7) < 0 ∨ 3 ≤ (x 50 7).toNatClampNeg then
        none
        else
        (fn_bv (fn_ev 0 (n + 2000) d 1 [.ref 46, .int (x 46 2), .int (x 54 (x 50 7).toNatClampNeg), .int (x 58 (x 50 7).toNatClampNeg), .ref 1] x) (fun y3 =>
          some (y3, none)))))) :=
  fn_ev_t (dd := fn_d21) (lo := [(0, .ref 45), (1, .ref 50), (2, .ref 1)]) (sp := []) rfl rfl rfl (fc_Master_writeNext_2 (fn_ev 0 (n + 2000) d) (fn_run 0 (fn_ev 0 (n + 2000) d) (fn_lk fn_d21)) (n + 1973) x)
set_option maxRecDepth 20000 in
theorem fc_Master_writeNext_3 (cf : Nat → List Value → fn_M → Option fn_R) (K : Nat → fn_K) (m : Nat) (x : fn_M) : fn_runc 0 cf (fn_lk fn_d21) [] K (m + 27) 0 [(0, .ref 45), (1, .ref 51), (2, .ref 1)] [] x =
  (if (x 51 6) ≤ (x 51 7) then
    (fn_bv (cf 55 [.ref 1, .int 0, .int 0, .int 1, .int (x 46 2), .int 0] (fn_w x 51 2 4)) (fun y1 =>
      (fn_bv (cf 14 [.ref 45, .int 2, .int (y1 46 2), .int 0] y1) (fun y2 =>
      some (y2, none)))))
    else
    (if (x 51 7) < 0 ∨ 3 ≤ (x 51 7).toNatClampNeg then
      none
      else
      (if (x 51 7) < 0 ∨ 3 ≤ (x 51 7).toNatClampNeg then
        none
        else
        (fn_bv (cf 1 [.ref 46, .int (x 46 2), .int (x 55 (x 51 7).toNatClampNeg), .int (x 59 (x 51 7).toNatClampNeg), .ref 1] x) (fun y3 =>
          some (y3, none)))))) := rfl
theorem ft_Master_writeNext_3 (n d : Nat) (x : fn_M) : fn_ev 0 (n + 2000) (d + 1) 21 [.ref 45, .ref 51, .ref 1] x =
  (if (x 51 6) ≤ (x 51 7) then
    (fn_bv (fn_ev 0 (n + 2000) d 55 [.ref 1, .int 0, .int 0, .int 1, .int (x 46 2), .int 0] (fn_w x 51 2 4)) (fun y1 =>
      (fn_bv (fn_ev 0 (n + 2000) d 14 [.ref 45, .int 2, .int (y1 46 2), .int 0] y1) (fun y2 =>
      some (y2, none)))))
    else
    (if (x 51 7) < 0 ∨ 3 ≤ (x 51 7).toNatClampNeg then
      none
      else
      (if (x 51 7) < 0 ∨ 3 ≤ (x 51 7).toNatClampNeg then
        none
        else
        (fn_bv (fn_ev 0 (n + 2000) d 1 [.ref 46, .int (x 46 2), .int (x 55 (x 51 7).toNatClampNeg), .int (x 59 (x 51 7).toNatClampNeg), .ref 1] x) (fun y3 =>
          some (y3, none)))))) :=
  fn_ev_t (dd := fn_d21) (lo := [(0, .ref 45), (1, .ref 51), (2, .ref 1)]) (sp := []) rfl rfl rfl (fc_Master_writeNext_3 (fn_ev 0 (n + 2000) d) (fn_run 0 (fn_ev 0 (n + 2000) d) (fn_lk fn_d21)) (n + 1973) x)
set_option maxRecDepth 20000 in
theorem fc_Master_writeNext_4 (cf : Nat → List Value → fn_M → Option fn_R) (K : Nat → fn_K) (m : Nat) (x : fn_M) : fn_runc 0 cf (fn_lk fn_d21) [] K (m + 27) 0 [(0, .ref 45), (1, .ref 52), (2, .ref 1)] [] x =
  (if (x 52 6) ≤ (x 52 7) then
    (fn_bv (cf 55 [.ref 1, .int 0, .int 0, .int 1, .int (x 46 2), .int 0] (fn_w x 52 2 4)) (fun y1 =>
      (fn_bv (cf 14 [.ref 45, .int 2, .int (y1 46 2), .int 0] y1) (fun y2 =>
      some (y2, none)))))
    else
    (if (x 52 7) < 0 ∨ 3 ≤ (x 52 7).toNatClampNeg then
      none
      else
      (if (x 52 7) < 0 ∨ 3 ≤ (x 52 7).toNatClampNeg then
        none
        else
        (fn_bv (cf 1 [.ref 46, .int (x 46 2), .int (x 56 (x 52 7).toNatClampNeg), .int (x 60 (x 52 7).toNatClampNeg), .ref 1] x) (fun y3 =>
          some (y3, none)))))) := rfl
theorem ft_Master_writeNext_4 (n d : Nat) (x : fn_M) : fn_ev 0 (n + 2000) (d + 1) 21 [.ref 45, .ref 52, .ref 1] x =
  (if (x 52 6) ≤ (x 52 7) then
    (fn_bv (fn_ev 0 (n + 2000) d 55 [.ref 1, .int 0, .int 0, .int 1, .int (x 46 2), .int 0] (fn_w x 52 2 4)) (fun y1 =>
      (fn_bv (fn_ev 0 (n + 2000) d 14 [.ref 45, .int 2, .int (y1 46 2), .int 0] y1) (fun y2 =>
      some (y2, none)))))
    else
    (if (x 52 7) < 0 ∨ 3 ≤ (x 52 7).toNatClampNeg then
      none
      else
      (if (x 52 7) < 0 ∨ 3 ≤ (x 52 7).toNatClampNeg then
        none
        else
        (fn_bv (fn_ev 0 (n + 2000) d 1 [.ref 46, .int (x 46 2), .int (x 56 (x 52 7).toNatClampNeg), .int (x 60 (x 52 7).toNatClampNeg), .ref 1] x) (fun y3 =>
          some (y3, none)))))) :=
  fn_ev_t (dd := fn_d21) (lo := [(0, .ref 45), (1, .ref 52), (2, .ref 1)]) (sp := []) rfl rfl rfl (fc_Master_writeNext_4 (fn_ev 0 (n + 2000) d) (fn_run 0 (fn_ev 0 (n + 2000) d) (fn_lk fn_d21)) (n + 1973) x)
set_option maxRecDepth 20000 in
theorem fc_Member_isExpected_1 (cf : Nat → List Value → fn_M → Option fn_R) (K : Nat → fn_K) (m : Nat) (x : fn_M) : fn_runc 0 cf (fn_lk fn_d22) [] K (m + 7) 0 [(0, .ref 49)] [] x =
  (if (x 49 0) = (-1) then
    some (x, some (.int 0))
    else
    some (x, some (.int 1))) := rfl
theorem ft_Member_isExpected_1 (n d : Nat) (x : fn_M) : fn_ev 0 (n + 2000) (d + 1) 22 [.ref 49] x =
  (if (x 49 0) = (-1) then
    some (x, some (.int 0))
    else
    some (x, some (.int 1))) :=
  fn_ev_t (dd := fn_d22) (lo := [(0, .ref 49)]) (sp := []) rfl rfl rfl (fc_Member_isExpected_1 (fn_ev 0 (n + 2000) d) (fn_run 0 (fn_ev 0 (n + 2000) d) (fn_lk fn_d22)) (n + 1993) x)
set_option maxRecDepth 20000 in
theorem fc_Member_isExpected_2 (cf : Nat → List Value → fn_M → Option fn_R) (K : Nat → fn_K) (m : Nat) (x : fn_M) : fn_runc 0 cf (fn_lk fn_d22) [] K (m + 7) 0 [(0, .ref 50)] [] x =
  (if (x 50 0) = (-1) then
    some (x, some (.int 0))
    else
    some (x, some (.int 1))) := rfl
theorem ft_Member_isExpected_2 (n d : Nat) (x : fn_M) : fn_ev 0 (n + 2000) (d + 1) 22 [.ref 50] x =
  (if (x 50 0) = (-1) then
    some (x, some (.int 0))
    else
    some (x, some (.int 1))) :=
  fn_ev_t (dd := fn_d22) (lo := [(0, .ref 50)]) (sp := []) rfl rfl rfl (fc_Member_isExpected_2 (fn_ev 0 (n + 2000) d) (fn_run 0 (fn_ev 0 (n + 2000) d) (fn_lk fn_d22)) (n + 1993) x)
set_option maxRecDepth 20000 in
theorem fc_Member_isExpected_3 (cf : Nat → List Value → fn_M → Option fn_R) (K : Nat → fn_K) (m : Nat) (x : fn_M) : fn_runc 0 cf (fn_lk fn_d22) [] K (m + 7) 0 [(0, .ref 51)] [] x =
  (if (x 51 0) = (-1) then
    some (x, some (.int 0))
    else
    some (x, some (.int 1))) := rfl
theorem ft_Member_isExpected_3 (n d : Nat) (x : fn_M) : fn_ev 0 (n + 2000) (d + 1) 22 [.ref 51] x =
  (if (x 51 0) = (-1) then
    some (x, some (.int 0))
    else
    some (x, some (.int 1))) :=
  fn_ev_t (dd := fn_d22) (lo := [(0, .ref 51)]) (sp := []) rfl rfl rfl (fc_Member_isExpected_3 (fn_ev 0 (n + 2000) d) (fn_run 0 (fn_ev 0 (n + 2000) d) (fn_lk fn_d22)) (n + 1993) x)
set_option maxRecDepth 20000 in
theorem fc_Member_isExpected_4 (cf : Nat → List Value → fn_M → Option fn_R) (K : Nat → fn_K) (m : Nat) (x : fn_M) : fn_runc 0 cf (fn_lk fn_d22) [] K (m + 7) 0 [(0, .ref 52)] [] x =
  (if (x 52 0) = (-1) then
    some (x, some (.int 0))
    else
    some (x, some (.int 1))) := rfl
theorem ft_Member_isExpected_4 (n d : Nat) (x : fn_M) : fn_ev 0 (n + 2000) (d + 1) 22 [.ref 52] x =
  (if (x 52 0) = (-1) then
    some (x, some (.int 0))
    else
    some (x, some (.int 1))) :=
  fn_ev_t (dd := fn_d22) (lo := [(0, .ref 52)]) (sp := []) rfl rfl rfl (fc_Member_isExpected_4 (fn_ev 0 (n + 2000) d) (fn_run 0 (fn_ev 0 (n + 2000) d) (fn_lk fn_d22)) (n + 1993) x)
set_option maxRecDepth 20000 in
theorem fc_Member_expectAnew_1 (cf : Nat → List Value → fn_M → Option fn_R) (K : Nat → fn_K) (m : Nat) (a1 a2 : Int32) (x : fn_M) : fn_runc 0 cf (fn_lk fn_d23) [] K (m + 10) 0 [(0, .ref 49), (1, .int a1), (2, .int a2)] [] x =
  some ((fn_w (fn_w (fn_w x 49 0 a1) 49 1 a2) 49 6 0), none) := rfl
theorem ft_Member_expectAnew_1 (n d : Nat) (a1 a2 : Int32) (x : fn_M) : fn_ev 0 (n + 2000) (d + 1) 23 [.ref 49, .int a1, .int a2] x =
  some ((fn_w (fn_w (fn_w x 49 0 a1) 49 1 a2) 49 6 0), none) :=
  fn_ev_t (dd := fn_d23) (lo := [(0, .ref 49), (1, .int a1), (2, .int a2)]) (sp := []) rfl rfl rfl (fc_Member_expectAnew_1 (fn_ev 0 (n + 2000) d) (fn_run 0 (fn_ev 0 (n + 2000) d) (fn_lk fn_d23)) (n + 1990) a1 a2 x)
set_option maxRecDepth 20000 in
theorem fc_Member_expectAnew_2 (cf : Nat → List Value → fn_M → Option fn_R) (K : Nat → fn_K) (m : Nat) (a1 a2 : Int32) (x : fn_M) : fn_runc 0 cf (fn_lk fn_d23) [] K (m + 10) 0 [(0, .ref 50), (1, .int a1), (2, .int a2)] [] x =
  some ((fn_w (fn_w (fn_w x 50 0 a1) 50 1 a2) 50 6 0), none) := rfl
theorem ft_Member_expectAnew_2 (n d : Nat) (a1 a2 : Int32) (x : fn_M) : fn_ev 0 (n + 2000) (d + 1) 23 [.ref 50, .int a1, .int a2] x =
  some ((fn_w (fn_w (fn_w x 50 0 a1) 50 1 a2) 50 6 0), none) :=
  fn_ev_t (dd := fn_d23) (lo := [(0, .ref 50), (1, .int a1), (2, .int a2)]) (sp := []) rfl rfl rfl (fc_Member_expectAnew_2 (fn_ev 0 (n + 2000) d) (fn_run 0 (fn_ev 0 (n + 2000) d) (fn_lk fn_d23)) (n + 1990) a1 a2 x)
set_option maxRecDepth 20000 in
theorem fc_Member_expectAnew_3 (cf : Nat → List Value → fn_M → Option fn_R) (K : Nat → fn_K) (m : Nat) (a1 a2 : Int32) (x : fn_M) : fn_runc 0 cf (fn_lk fn_d23) [] K (m + 10) 0 [(0, .ref 51), (1, .int a1), (2, .int a2)] [] x =
  some ((fn_w (fn_w (fn_w x 51 0 a1) 51 1 a2) 51 6 0), none) := rfl
theorem ft_Member_expectAnew_3 (n d : Nat) (a1 a2 : Int32) (x : fn_M) : fn_ev 0 (n + 2000) (d + 1) 23 [.ref 51, .int a1, .int a2] x =
  some ((fn_w (fn_w (fn_w x 51 0 a1) 51 1 a2) 51 6 0), none) :=
  fn_ev_t (dd := fn_d23) (lo := [(0, .ref 51), (1, .int a1), (2, .int a2)]) (sp := []) rfl rfl rfl (fc_Member_expectAnew_3 (fn_ev 0 (n + 2000) d) (fn_run 0 (fn_ev 0 (n + 2000) d) (fn_lk fn_d23)) (n + 1990) a1 a2 x)
set_option maxRecDepth 20000 in
theorem fc_Member_expectAnew_4 (cf : Nat → List Value → fn_M → Option fn_R) (K : Nat → fn_K) (m : Nat) (a1 a2 : Int32) (x : fn_M) : fn_runc 0 cf (fn_lk fn_d23) [] K (m + 10) 0 [(0, .ref 52), (1, .int a1), (2, .int a2)] [] x =
  some ((fn_w (fn_w (fn_w x 52 0 a1) 52 1 a2) 52 6 0), none) := rfl
theorem ft_Member_expectAnew_4 (n d : Nat) (a1 a2 : Int32) (x : fn_M) : fn_ev 0 (n + 2000) (d + 1) 23 [.ref 52, .int a1, .int a2] x =
  some ((fn_w (fn_w (fn_w x 52 0 a1) 52 1 a2) 52 6 0), none) :=
  fn_ev_t (dd := fn_d23) (lo := [(0, .ref 52), (1, .int a1), (2, .int a2)]) (sp := []) rfl rfl rfl (fc_Member_expectAnew_4 (fn_ev 0 (n + 2000) d) (fn_run 0 (fn_ev 0 (n + 2000) d) (fn_lk fn_d23)) (n + 1990) a1 a2 x)
set_option maxRecDepth 20000 in
theorem fc_Member_addWrite_1 (cf : Nat → List Value → fn_M → Option fn_R) (K : Nat → fn_K) (m : Nat) (a1 a2 : Int32) (x : fn_M) : fn_runc 0 cf (fn_lk fn_d24) [] K (m + 27) 0 [(0, .ref 49), (1, .int a1), (2, .int a2)] [] x =
  (fn_bi (cf 22 [.ref 49] x) (fun y1 v2 =>
    (if v2 = 0 then
    some (y1, some (.int 0))
    else
    (if (y1 49 6) < 3 then
      (if (y1 49 6) < 0 ∨ 3 ≤ (y1 49 6).toNatClampNeg then
        none
        else
        (if (y1 49 6) < 0 ∨ 3 ≤ (y1 49 6).toNatClampNeg then
          none
          else
          some ((fn_w (fn_w (fn_w y1 53 (y1 49 6).toNatClampNeg a1) 57 (y1 49 6).toNatClampNeg a2) 49 6 ((y1 49 6) + 1)), some (.int 1))))
      else
      some (y1, some (.int 0)))))) := rfl
theorem ft_Member_addWrite_1 (n d : Nat) (a1 a2 : Int32) (x : fn_M) : fn_ev 0 (n + 2000) (d + 1) 24 [.ref 49, .int a1, .int a2] x =
  (fn_bi (fn_ev 0 (n + 2000) d 22 [.ref 49] x) (fun y1 v2 =>
    (if v2 = 0 then
    some (y1, some (.int 0))
    else
    (if (y1 49 6) < 3 then
      (if (y1 49 6) < 0 ∨ 3 ≤ (y1 49 6).toNatClampNeg then
        none
        else
        (if (y1 49 6) < 0 ∨ 3 ≤ (y1 49 6).toNatClampNeg then
          none
          else
          some ((fn_w (fn_w (fn_w y1 53 (y1 49 6).toNatClampNeg a1) 57 (y1 49 6).toNatClampNeg a2) 49 6 ((y1 49 6) + 1)), some (.int 1))))
      else
      some (y1, some (.int 0)))))) :=
  fn_ev_t (dd := fn_d24) (lo := [(0, .ref 49), (1, .int a1), (2, .int a2)]) (sp := []) rfl rfl rfl (fc_Member_addWrite_1 (fn_ev 0 (n + 2000) d) (fn_run 0 (fn_ev 0 (n + 2000) d) (fn_lk fn_d24)) (n + 1973) a1 a2 x)
set_option maxRecDepth 20000 in
theorem fc_Member_addWrite_2 (cf : Nat → List Value → fn_M → Option fn_R) (K : Nat → fn_K) (m : Nat) (a1 a2 : Int32) (x : fn_M) : fn_runc 0 cf (fn_lk fn_d24) [] K (m + 27) 0 [(0, .ref 50), (1, .int a1), (2, .int a2)] [] x =
  (fn_bi (cf 22 [.ref 50] x) (fun y1 v2 =>
    (if v2 = 0 then
    some (y1, some (.int 0))
    else
    (if (y1 50 6) < 3 then
      (if (y1 50 6) < 0 ∨ 3 ≤ (y1 50 6).toNatClampNeg then
        none
        else
        (if (y1 50 6) < 0 ∨ 3 ≤ (y1 50 6).toNatClampNeg then
          none
          else
          some ((fn_w (fn_w (fn_w y1 54 (y1 50 6).toNatClampNeg a1) 58 (y1 50 6).toNatClampNeg a2) 50 6 ((y1 50 6) + 1)), some (.int 1))))
      else
      some (y1, some (.int 0)))))) := rfl
theorem ft_Member_addWrite_2 (n d : Nat) (a1 a2 : Int32) (x : fn_M) : fn_ev 0 (n + 2000) (d + 1) 24 [.ref 50, .int a1, .int a2] x =
  (fn_bi (fn_ev 0 (n + 2000) d 22 [.ref 50] x) (fun y1 v2 =>
    (if v2 = 0 then
    some (y1, some (.int 0))
    else
    (if (y1 50 6) < 3 then
      (if (y1 50 6) < 0 ∨ 3 ≤ (y1 50 6).toNatClampNeg then
        none
        else
        (if (y1 50 6) < 0 ∨ 3 ≤ (y1 50 6).toNatClampNeg then
          none
          else
          some ((fn_w (fn_w (fn_w y1 54 (y1 50 6).toNatClampNeg a1) 58 (y1 50 6).toNatClampNeg a2) 50 6 ((y1 50 6) + 1)), some (.int 1))))
      else
      some (y1, some (.int 0)))))) :=
  fn_ev_t (dd := fn_d24) (lo := [(0, .ref 50), (1, .int a1), (2, .int a2)]) (sp := []) rfl rfl rfl (fc_Member_addWrite_2 (fn_ev 0 (n + 2000) d) (fn_run 0 (fn_ev 0 (n + 2000) d) (fn_lk fn_d24)) (n + 1973) a1 a2 x)
set_option maxRecDepth 20000 in
theorem fc_Member_addWrite_3 (cf : Nat → List Value → fn_M → Option fn_R) (K : Nat → fn_K) (m : Nat) (a1 a2 : Int32) (x : fn_M) : fn_runc 0 cf (fn_lk fn_d24) [] K (m + 27) 0 [(0, .ref 51), (1, .int a1), (2, .int a2)] [] x =
  (fn_bi (cf 22 [.ref 51] x) (fun y1 v2 =>
    (if v2 = 0 then
    some (y1, some (.int 0))
    else
    (if (y1 51 6) < 3 then
      (if (y1 51 6) < 0 ∨ 3 ≤ (y1 51 6).toNatClampNeg then
        none
        else
        (if (y1 51 6) < 0 ∨ 3 ≤ (y1 51 6).toNatClampNeg then
          none
          else
          some ((fn_w (fn_w (fn_w y1 55 (y1 51 6).toNatClampNeg a1) 59 (y1 51 6).toNatClampNeg a2) 51 6 ((y1 51 6) + 1)), some (.int 1))))
      else
      some (y1, some (.int 0)))))) := rfl
theorem ft_Member_addWrite_3 (n d : Nat) (a1 a2 : Int32) (x : fn_M) : fn_ev 0 (n + 2000) (d + 1) 24 [.ref 51, .int a1, .int a2] x =
  (fn_bi (fn_ev 0 (n + 2000) d 22 [.ref 51] x) (fun y1 v2 =>
    (if v2 = 0 then
    some (y1, some (.int 0))
    else
    (if (y1 51 6) < 3 then
      (if (y1 51 6) < 0 ∨ 3 ≤ (y1 51 6).toNatClampNeg then
        none
        else
        (if (y1 51 6) < 0 ∨ 3 ≤ (y1 51 6).toNatClampNeg then
          none
          else
          some ((fn_w (fn_w (fn_w y1 55 (y1 51 6).toNatClampNeg a1) 59 (y1 51 6).toNatClampNeg a2) 51 6 ((y1 51 6) + 1)), some (.int 1))))
      else
      some (y1, some (.int 0)))))) :=
  fn_ev_t (dd := fn_d24) (lo := [(0, .ref 51), (1, .int a1), (2, .int a2)]) (sp := []) rfl rfl rfl (fc_Member_addWrite_3 (fn_ev 0 (n + 2000) d) (fn_run 0 (fn_ev 0 (n + 2000) d) (fn_lk fn_d24)) (n + 1973) a1 a2 x)
set_option maxRecDepth 20000 in
theorem fc_Member_addWrite_4 (cf : Nat → List Value → fn_M → Option fn_R) (K : Nat → fn_K) (m : Nat) (a1 a2 : Int32) (x : fn_M) : fn_runc 0 cf (fn_lk fn_d24) [] K (m + 27) 0 [(0, .ref 52), (1, .int a1), (2, .int a2)] [] x =
  (fn_bi (cf 22 [.ref 52] x) (fun y1 v2 =>
    (if v2 = 0 then
    some (y1, some (.int 0))
    else
    (if (y1 52 6) < 3 then
      (if (y1 52 6) < 0 ∨ 3 ≤ (y1 52 6).toNatClampNeg then
        none
        else
        (if (y1 52 6) < 0 ∨ 3 ≤ (y1 52 6).toNatClampNeg then
          none
          else
          some ((fn_w (fn_w (fn_w y1 56 (y1 52 6).toNatClampNeg a1) 60 (y1 52 6).toNatClampNeg a2) 52 6 ((y1 52 6) + 1)), some (.int 1))))
      else
      some (y1, some (.int 0)))))) := rfl
theorem ft_Member_addWrite_4 (n d : Nat) (a1 a2 : Int32) (x : fn_M) : fn_ev 0 (n + 2000) (d + 1) 24 [.ref 52, .int a1, .int a2] x =
  (fn_bi (fn_ev 0 (n + 2000) d 22 [.ref 52] x) (fun y1 v2 =>
    (if v2 = 0 then
    some (y1, some (.int 0))
    else
    (if (y1 52 6) < 3 then
      (if (y1 52 6) < 0 ∨ 3 ≤ (y1 52 6).toNatClampNeg then
        none
        else
        (if (y1 52 6) < 0 ∨ 3 ≤ (y1 52 6).toNatClampNeg then
          none
          else
          some ((fn_w (fn_w (fn_w y1 56 (y1 52 6).toNatClampNeg a1) 60 (y1 52 6).toNatClampNeg a2) 52 6 ((y1 52 6) + 1)), some (.int 1))))
      else
      some (y1, some (.int 0)))))) :=
  fn_ev_t (dd := fn_d24) (lo := [(0, .ref 52), (1, .int a1), (2, .int a2)]) (sp := []) rfl rfl rfl (fc_Member_addWrite_4 (fn_ev 0 (n + 2000) d) (fn_run 0 (fn_ev 0 (n + 2000) d) (fn_lk fn_d24)) (n + 1973) a1 a2 x)
set_option maxRecDepth 20000 in
theorem fc_Member_isMissed_1 (cf : Nat → List Value → fn_M → Option fn_R) (K : Nat → fn_K) (m : Nat) (a1 : Int32) (x : fn_M) : fn_runc 0 cf (fn_lk fn_d25) [] K (m + 17) 0 [(0, .ref 49), (1, .int a1)] [] x =
  (if (x 49 1) ≤ 0 then
    some (x, some (.int 0))
    else
    (if (x 49 3) = (-1) then
      some (x, some (.int 0))
      else
      (if (a1 - (x 49 3)) < (x 49 1) then
        some (x, some (.int 0))
        else
        some (x, some (.int 1))))) := rfl
theorem ft_Member_isMissed_1 (n d : Nat) (a1 : Int32) (x : fn_M) : fn_ev 0 (n + 2000) (d + 1) 25 [.ref 49, .int a1] x =
  (if (x 49 1) ≤ 0 then
    some (x, some (.int 0))
    else
    (if (x 49 3) = (-1) then
      some (x, some (.int 0))
      else
      (if (a1 - (x 49 3)) < (x 49 1) then
        some (x, some (.int 0))
        else
        some (x, some (.int 1))))) :=
  fn_ev_t (dd := fn_d25) (lo := [(0, .ref 49), (1, .int a1)]) (sp := []) rfl rfl rfl (fc_Member_isMissed_1 (fn_ev 0 (n + 2000) d) (fn_run 0 (fn_ev 0 (n + 2000) d) (fn_lk fn_d25)) (n + 1983) a1 x)
set_option maxRecDepth 20000 in
theorem fc_Member_isMissed_2 (cf : Nat → List Value → fn_M → Option fn_R) (K : Nat → fn_K) (m : Nat) (a1 : Int32) (x : fn_M) : fn_runc 0 cf (fn_lk fn_d25) [] K (m + 17) 0 [(0, .ref 50), (1, .int a1)] [] x =
  (if (x 50 1) ≤ 0 then
    some (x, some (.int 0))
    else
    (if (x 50 3) = (-1) then
      some (x, some (.int 0))
      else
      (if (a1 - (x 50 3)) < (x 50 1) then
        some (x, some (.int 0))
        else
        some (x, some (.int 1))))) := rfl
theorem ft_Member_isMissed_2 (n d : Nat) (a1 : Int32) (x : fn_M) : fn_ev 0 (n + 2000) (d + 1) 25 [.ref 50, .int a1] x =
  (if (x 50 1) ≤ 0 then
    some (x, some (.int 0))
    else
    (if (x 50 3) = (-1) then
      some (x, some (.int 0))
      else
      (if (a1 - (x 50 3)) < (x 50 1) then
        some (x, some (.int 0))
        else
        some (x, some (.int 1))))) :=
  fn_ev_t (dd := fn_d25) (lo := [(0, .ref 50), (1, .int a1)]) (sp := []) rfl rfl rfl (fc_Member_isMissed_2 (fn_ev 0 (n + 2000) d) (fn_run 0 (fn_ev 0 (n + 2000) d) (fn_lk fn_d25)) (n + 1983) a1 x)
set_option maxRecDepth 20000 in
theorem fc_Member_isMissed_3 (cf : Nat → List Value → fn_M → Option fn_R) (K : Nat → fn_K) (m : Nat) (a1 : Int32) (x : fn_M) : fn_runc 0 cf (fn_lk fn_d25) [] K (m + 17) 0 [(0, .ref 51), (1, .int a1)] [] x =
  (if (x 51 1) ≤ 0 then
    some (x, some (.int 0))
    else
    (if (x 51 3) = (-1) then
      some (x, some (.int 0))
      else
      (if (a1 - (x 51 3)) < (x 51 1) then
        some (x, some (.int 0))
        else
        some (x, some (.int 1))))) := rfl
theorem ft_Member_isMissed_3 (n d : Nat) (a1 : Int32) (x : fn_M) : fn_ev 0 (n + 2000) (d + 1) 25 [.ref 51, .int a1] x =
  (if (x 51 1) ≤ 0 then
    some (x, some (.int 0))
    else
    (if (x 51 3) = (-1) then
      some (x, some (.int 0))
      else
      (if (a1 - (x 51 3)) < (x 51 1) then
        some (x, some (.int 0))
        else
        some (x, some (.int 1))))) :=
  fn_ev_t (dd := fn_d25) (lo := [(0, .ref 51), (1, .int a1)]) (sp := []) rfl rfl rfl (fc_Member_isMissed_3 (fn_ev 0 (n + 2000) d) (fn_run 0 (fn_ev 0 (n + 2000) d) (fn_lk fn_d25)) (n + 1983) a1 x)
set_option maxRecDepth 20000 in
theorem fc_Member_isMissed_4 (cf : Nat → List Value → fn_M → Option fn_R) (K : Nat → fn_K) (m : Nat) (a1 : Int32) (x : fn_M) : fn_runc 0 cf (fn_lk fn_d25) [] K (m + 17) 0 [(0, .ref 52), (1, .int a1)] [] x =
  (if (x 52 1) ≤ 0 then
    some (x, some (.int 0))
    else
    (if (x 52 3) = (-1) then
      some (x, some (.int 0))
      else
      (if (a1 - (x 52 3)) < (x 52 1) then
        some (x, some (.int 0))
        else
        some (x, some (.int 1))))) := rfl
theorem ft_Member_isMissed_4 (n d : Nat) (a1 : Int32) (x : fn_M) : fn_ev 0 (n + 2000) (d + 1) 25 [.ref 52, .int a1] x =
  (if (x 52 1) ≤ 0 then
    some (x, some (.int 0))
    else
    (if (x 52 3) = (-1) then
      some (x, some (.int 0))
      else
      (if (a1 - (x 52 3)) < (x 52 1) then
        some (x, some (.int 0))
        else
        some (x, some (.int 1))))) :=
  fn_ev_t (dd := fn_d25) (lo := [(0, .ref 52), (1, .int a1)]) (sp := []) rfl rfl rfl (fc_Member_isMissed_4 (fn_ev 0 (n + 2000) d) (fn_run 0 (fn_ev 0 (n + 2000) d) (fn_lk fn_d25)) (n + 1983) a1 x)
set_option maxRecDepth 20000 in
theorem fc_Wire_isFull (cf : Nat → List Value → fn_M → Option fn_R) (K : Nat → fn_K) (m : Nat) (x : fn_M) : fn_runc 0 cf (fn_lk fn_d54) [] K (m + 7) 0 [(0, .ref 1)] [] x =
  (if (x 1 2) < 24 then
    some (x, some (.int 0))
    else
    some (x, some (.int 1))) := rfl
theorem ft_Wire_isFull (n d : Nat) (x : fn_M) : fn_ev 0 (n + 2000) (d + 1) 54 [.ref 1] x =
  (if (x 1 2) < 24 then
    some (x, some (.int 0))
    else
    some (x, some (.int 1))) :=
  fn_ev_t (dd := fn_d54) (lo := [(0, .ref 1)]) (sp := []) rfl rfl rfl (fc_Wire_isFull (fn_ev 0 (n + 2000) d) (fn_run 0 (fn_ev 0 (n + 2000) d) (fn_lk fn_d54)) (n + 1993) x)
set_option maxRecDepth 20000 in
theorem fc_Wire_put (cf : Nat → List Value → fn_M → Option fn_R) (K : Nat → fn_K) (m : Nat) (a1 a2 a3 a4 a5 : Int32) (x : fn_M) : fn_runc 0 cf (fn_lk fn_d55) [] K (m + 32) 0 [(0, .ref 1), (1, .int a1), (2, .int a2), (3, .int a3), (4, .int a4), (5, .int a5)] [] x =
  (if (x 1 2) < 24 then
    (if (x 1 2) < 0 ∨ 24 ≤ (x 1 2).toNatClampNeg then
      none
      else
      (if fn_lc 0 (x 2 (x 1 2).toNatClampNeg).toNatClampNeg = 2 then
        (if fn_lc 0 (x 2 (x 1 2).toNatClampNeg).toNatClampNeg = 2 then
          (if fn_lc 0 (x 2 (x 1 2).toNatClampNeg).toNatClampNeg = 2 then
            (if fn_lc 0 (x 2 (x 1 2).toNatClampNeg).toNatClampNeg = 2 then
              (if fn_lc 0 (x 2 (x 1 2).toNatClampNeg).toNatClampNeg = 2 then
                some ((fn_w (fn_w (fn_w (fn_w (fn_w (fn_w x (x 2 (x 1 2).toNatClampNeg).toNatClampNeg 0 a1) (x 2 (x 1 2).toNatClampNeg).toNatClampNeg 1 a2) (x 2 (x 1 2).toNatClampNeg).toNatClampNeg 2 a3) (x 2 (x 1 2).toNatClampNeg).toNatClampNeg 3 a4) (x 2 (x 1 2).toNatClampNeg).toNatClampNeg 4 a5) 1 2 (((fn_w (fn_w (fn_w (fn_w (fn_w x (x 2 (x 1 2).toNatClampNeg).toNatClampNeg 0 a1) (x 2 (x 1 2).toNatClampNeg).toNatClampNeg 1 a2) (x 2 (x 1 2).toNatClampNeg).toNatClampNeg 2 a3) (x 2 (x 1 2).toNatClampNeg).toNatClampNeg 3 a4) (x 2 (x 1 2).toNatClampNeg).toNatClampNeg 4 a5) 1 2) + 1)), none)
                else
                none)
              else
              none)
            else
            none)
          else
          none)
        else
        none))
    else
    some ((fn_w x 1 3 ((x 1 3) + 1)), none)) := rfl
theorem ft_Wire_put (n d : Nat) (a1 a2 a3 a4 a5 : Int32) (x : fn_M) : fn_ev 0 (n + 2000) (d + 1) 55 [.ref 1, .int a1, .int a2, .int a3, .int a4, .int a5] x =
  (if (x 1 2) < 24 then
    (if (x 1 2) < 0 ∨ 24 ≤ (x 1 2).toNatClampNeg then
      none
      else
      (if fn_lc 0 (x 2 (x 1 2).toNatClampNeg).toNatClampNeg = 2 then
        (if fn_lc 0 (x 2 (x 1 2).toNatClampNeg).toNatClampNeg = 2 then
          (if fn_lc 0 (x 2 (x 1 2).toNatClampNeg).toNatClampNeg = 2 then
            (if fn_lc 0 (x 2 (x 1 2).toNatClampNeg).toNatClampNeg = 2 then
              (if fn_lc 0 (x 2 (x 1 2).toNatClampNeg).toNatClampNeg = 2 then
                some ((fn_w (fn_w (fn_w (fn_w (fn_w (fn_w x (x 2 (x 1 2).toNatClampNeg).toNatClampNeg 0 a1) (x 2 (x 1 2).toNatClampNeg).toNatClampNeg 1 a2) (x 2 (x 1 2).toNatClampNeg).toNatClampNeg 2 a3) (x 2 (x 1 2).toNatClampNeg).toNatClampNeg 3 a4) (x 2 (x 1 2).toNatClampNeg).toNatClampNeg 4 a5) 1 2 (((fn_w (fn_w (fn_w (fn_w (fn_w x (x 2 (x 1 2).toNatClampNeg).toNatClampNeg 0 a1) (x 2 (x 1 2).toNatClampNeg).toNatClampNeg 1 a2) (x 2 (x 1 2).toNatClampNeg).toNatClampNeg 2 a3) (x 2 (x 1 2).toNatClampNeg).toNatClampNeg 3 a4) (x 2 (x 1 2).toNatClampNeg).toNatClampNeg 4 a5) 1 2) + 1)), none)
                else
                none)
              else
              none)
            else
            none)
          else
          none)
        else
        none))
    else
    some ((fn_w x 1 3 ((x 1 3) + 1)), none)) :=
  fn_ev_t (dd := fn_d55) (lo := [(0, .ref 1), (1, .int a1), (2, .int a2), (3, .int a3), (4, .int a4), (5, .int a5)]) (sp := []) rfl rfl rfl (fc_Wire_put (fn_ev 0 (n + 2000) d) (fn_run 0 (fn_ev 0 (n + 2000) d) (fn_lk fn_d55)) (n + 1968) a1 a2 a3 a4 a5 x)
set_option maxRecDepth 20000 in
theorem fc_Wire_dropFramesOf (cf : Nat → List Value → fn_M → Option fn_R) (K : Nat → fn_K) (m : Nat) (a1 : Int32) (x : fn_M) : fn_runc 0 cf (fn_lk fn_d56) [4] K (m + 4) 0 [(0, .ref 1), (1, .int a1)] [] x =
  K (m + 0) 4 [(0, .ref 1), (1, .int a1), (2, .int 0), (3, .int 0)] [] x := rfl
theorem ft_Wire_dropFramesOf (n d : Nat) (a1 : Int32) (x : fn_M) : fn_ev 0 (n + 2000) (d + 1) 56 [.ref 1, .int a1] x =
  fn_run 0 (fn_ev 0 (n + 2000) d) (fn_lk fn_d56) (n + 1996) 4 [(0, .ref 1), (1, .int a1), (2, .int 0), (3, .int 0)] [] x :=
  fn_ev_t (dd := fn_d56) (lo := [(0, .ref 1), (1, .int a1)]) (sp := [4]) rfl rfl rfl (fc_Wire_dropFramesOf (fn_ev 0 (n + 2000) d) (fn_run 0 (fn_ev 0 (n + 2000) d) (fn_lk fn_d56)) (n + 1996) a1 x)
set_option maxRecDepth 20000 in
theorem fc_Wire_dropFramesOf_at4 (cf : Nat → List Value → fn_M → Option fn_R) (K : Nat → fn_K) (m : Nat) (l1 l2 l3 : Int32) (x : fn_M) : fn_runc 0 cf (fn_lk fn_d56) [4] K (m + 29) 4 [(0, .ref 1), (1, .int l1), (2, .int l2), (3, .int l3)] [] x =
  (if (x 1 2) ≤ l3 then
    some ((fn_w x 1 2 l2), none)
    else
    (if l3 < 0 ∨ 24 ≤ l3.toNatClampNeg then
      none
      else
      (if fn_lc 0 (x 2 l3.toNatClampNeg).toNatClampNeg = 2 then
        (if (x (x 2 l3.toNatClampNeg).toNatClampNeg 0) = l1 then
          K (m + 14) 4 [(0, .ref 1), (1, .int l1), (2, .int l2), (3, .int (l3 + 1))] [] x
          else
          (if l2 < 0 ∨ 24 ≤ l2.toNatClampNeg then
            none
            else
            (if fn_dy 2 = true ∧ (fn_la 0 2).1 = 4 ∧ fn_lc 0 (x 2 l2.toNatClampNeg).toNatClampNeg = 2 then
              (if l3 < 0 ∨ 24 ≤ l3.toNatClampNeg then
                none
                else
                (if fn_dy 2 = true ∧ (fn_la 0 2).1 = 4 ∧ fn_lc 0 (x 2 l3.toNatClampNeg).toNatClampNeg = 2 then
                  (if l2 < 0 ∨ 24 ≤ l2.toNatClampNeg then
                    none
                    else
                    K (m + 0) 4 [(0, .ref 1), (1, .int l1), (2, .int (l2 + 1)), (3, .int (l3 + 1))] [] (fn_w (fn_w x 2 l3.toNatClampNeg (nI (x 2 l2.toNatClampNeg).toNatClampNeg)) 2 l2.toNatClampNeg (nI (x 2 l3.toNatClampNeg).toNatClampNeg)))
                  else
                  none))
              else
              none)))
        else
        none))) := rfl
theorem ft_Wire_dropFramesOf_at4 (n d m : Nat) (l1 l2 l3 : Int32) (x : fn_M) : fn_run 0 (fn_ev 0 (n + 2000) d) (fn_lk fn_d56) (m + 29) 4 [(0, .ref 1), (1, .int l1), (2, .int l2), (3, .int l3)] [] x =
  (if (x 1 2) ≤ l3 then
    some ((fn_w x 1 2 l2), none)
    else
    (if l3 < 0 ∨ 24 ≤ l3.toNatClampNeg then
      none
      else
      (if fn_lc 0 (x 2 l3.toNatClampNeg).toNatClampNeg = 2 then
        (if (x (x 2 l3.toNatClampNeg).toNatClampNeg 0) = l1 then
          fn_run 0 (fn_ev 0 (n + 2000) d) (fn_lk fn_d56) (m + 14) 4 [(0, .ref 1), (1, .int l1), (2, .int l2), (3, .int (l3 + 1))] [] x
          else
          (if l2 < 0 ∨ 24 ≤ l2.toNatClampNeg then
            none
            else
            (if fn_dy 2 = true ∧ (fn_la 0 2).1 = 4 ∧ fn_lc 0 (x 2 l2.toNatClampNeg).toNatClampNeg = 2 then
              (if l3 < 0 ∨ 24 ≤ l3.toNatClampNeg then
                none
                else
                (if fn_dy 2 = true ∧ (fn_la 0 2).1 = 4 ∧ fn_lc 0 (x 2 l3.toNatClampNeg).toNatClampNeg = 2 then
                  (if l2 < 0 ∨ 24 ≤ l2.toNatClampNeg then
                    none
                    else
                    fn_run 0 (fn_ev 0 (n + 2000) d) (fn_lk fn_d56) (m + 0) 4 [(0, .ref 1), (1, .int l1), (2, .int (l2 + 1)), (3, .int (l3 + 1))] [] (fn_w (fn_w x 2 l3.toNatClampNeg (nI (x 2 l2.toNatClampNeg).toNatClampNeg)) 2 l2.toNatClampNeg (nI (x 2 l3.toNatClampNeg).toNatClampNeg)))
                  else
                  none))
              else
              none)))
        else
        none))) :=
  (fn_runc_eq 0 (fn_ev 0 (n + 2000) d) (fn_lk fn_d56) [4] (m + 29) 4 [(0, .ref 1), (1, .int l1), (2, .int l2), (3, .int l3)] [] x).trans (fc_Wire_dropFramesOf_at4 (fn_ev 0 (n + 2000) d) (fn_run 0 (fn_ev 0 (n + 2000) d) (fn_lk fn_d56)) m l1 l2 l3 x)
set_option maxRecDepth 20000 in
theorem fc_Wire_useSlot (cf : Nat → List Value → fn_M → Option fn_R) (K : Nat → fn_K) (m : Nat) (x : fn_M) : fn_runc 0 cf (fn_lk fn_d57) [42] K (m + 20) 0 [(0, .ref 1)] [] x =
  (if (x 1 2) = 0 then
    some (x, some .null)
    else
    (if (x 1 5) ≤ 0 then
      K (m + 10) 42 [(0, .ref 1), (1, .int 0), (2, .int 1)] [] x
      else
      some ((fn_w (fn_w x 1 5 ((x 1 5) - 1)) 1 4 ((x 1 4) + 1)), some .null))) := rfl
theorem ft_Wire_useSlot (n d : Nat) (x : fn_M) : fn_ev 0 (n + 2000) (d + 1) 57 [.ref 1] x =
  (if (x 1 2) = 0 then
    some (x, some .null)
    else
    (if (x 1 5) ≤ 0 then
      fn_run 0 (fn_ev 0 (n + 2000) d) (fn_lk fn_d57) (n + 1990) 42 [(0, .ref 1), (1, .int 0), (2, .int 1)] [] x
      else
      some ((fn_w (fn_w x 1 5 ((x 1 5) - 1)) 1 4 ((x 1 4) + 1)), some .null))) :=
  fn_ev_t (dd := fn_d57) (lo := [(0, .ref 1)]) (sp := [42]) rfl rfl rfl (fc_Wire_useSlot (fn_ev 0 (n + 2000) d) (fn_run 0 (fn_ev 0 (n + 2000) d) (fn_lk fn_d57)) (n + 1980) x)
set_option maxRecDepth 20000 in
theorem fc_Wire_useSlot_at42 (cf : Nat → List Value → fn_M → Option fn_R) (K : Nat → fn_K) (m : Nat) (l1 l2 : Int32) (x : fn_M) : fn_runc 0 cf (fn_lk fn_d57) [42] K (m + 19) 42 [(0, .ref 1), (1, .int l1), (2, .int l2)] [] x =
  (if (x 1 2) ≤ l2 then
    (fn_br (cf 58 [.ref 1, .int l1] x) (fun y1 p2 =>
      some (y1, some (.ref p2))) (fun y1 =>
      some (y1, some .null)))
    else
    (if l2 < 0 ∨ 24 ≤ l2.toNatClampNeg then
      none
      else
      (if fn_lc 0 (x 2 l2.toNatClampNeg).toNatClampNeg = 2 then
        (if l1 < 0 ∨ 24 ≤ l1.toNatClampNeg then
          none
          else
          (if fn_lc 0 (x 2 l1.toNatClampNeg).toNatClampNeg = 2 then
            (if (x (x 2 l1.toNatClampNeg).toNatClampNeg 1) ≤ (x (x 2 l2.toNatClampNeg).toNatClampNeg 1) then
              K (m + 2) 42 [(0, .ref 1), (1, .int l1), (2, .int (l2 + 1))] [] x
              else
              K (m + 0) 42 [(0, .ref 1), (1, .int l2), (2, .int (l2 + 1))] [] x)
            else
            none))
        else
        none))) := rfl
theorem ft_Wire_useSlot_at42 (n d m : Nat) (l1 l2 : Int32) (x : fn_M) : fn_run 0 (fn_ev 0 (n + 2000) d) (fn_lk fn_d57) (m + 19) 42 [(0, .ref 1), (1, .int l1), (2, .int l2)] [] x =
  (if (x 1 2) ≤ l2 then
    (fn_br (fn_ev 0 (n + 2000) d 58 [.ref 1, .int l1] x) (fun y1 p2 =>
      some (y1, some (.ref p2))) (fun y1 =>
      some (y1, some .null)))
    else
    (if l2 < 0 ∨ 24 ≤ l2.toNatClampNeg then
      none
      else
      (if fn_lc 0 (x 2 l2.toNatClampNeg).toNatClampNeg = 2 then
        (if l1 < 0 ∨ 24 ≤ l1.toNatClampNeg then
          none
          else
          (if fn_lc 0 (x 2 l1.toNatClampNeg).toNatClampNeg = 2 then
            (if (x (x 2 l1.toNatClampNeg).toNatClampNeg 1) ≤ (x (x 2 l2.toNatClampNeg).toNatClampNeg 1) then
              fn_run 0 (fn_ev 0 (n + 2000) d) (fn_lk fn_d57) (m + 2) 42 [(0, .ref 1), (1, .int l1), (2, .int (l2 + 1))] [] x
              else
              fn_run 0 (fn_ev 0 (n + 2000) d) (fn_lk fn_d57) (m + 0) 42 [(0, .ref 1), (1, .int l2), (2, .int (l2 + 1))] [] x)
            else
            none))
        else
        none))) :=
  (fn_runc_eq 0 (fn_ev 0 (n + 2000) d) (fn_lk fn_d57) [42] (m + 19) 42 [(0, .ref 1), (1, .int l1), (2, .int l2)] [] x).trans (fc_Wire_useSlot_at42 (fn_ev 0 (n + 2000) d) (fn_run 0 (fn_ev 0 (n + 2000) d) (fn_lk fn_d57)) m l1 l2 x)
set_option maxRecDepth 20000 in
theorem fc_Wire_takeOut (cf : Nat → List Value → fn_M → Option fn_R) (K : Nat → fn_K) (m : Nat) (a1 : Int32) (x : fn_M) : fn_runc 0 cf (fn_lk fn_d58) [19] K (m + 13) 0 [(0, .ref 1), (1, .int a1)] [] x =
  (if a1 < 0 ∨ 24 ≤ a1.toNatClampNeg then
    none
    else
    K (m + 0) 19 [(0, .ref 1), (1, .int a1), (2, .ref (x 2 a1.toNatClampNeg).toNatClampNeg), (3, .int a1)] [] (fn_w x 1 2 ((x 1 2) - 1))) := rfl
theorem ft_Wire_takeOut (n d : Nat) (a1 : Int32) (x : fn_M) : fn_ev 0 (n + 2000) (d + 1) 58 [.ref 1, .int a1] x =
  (if a1 < 0 ∨ 24 ≤ a1.toNatClampNeg then
    none
    else
    fn_run 0 (fn_ev 0 (n + 2000) d) (fn_lk fn_d58) (n + 1987) 19 [(0, .ref 1), (1, .int a1), (2, .ref (x 2 a1.toNatClampNeg).toNatClampNeg), (3, .int a1)] [] (fn_w x 1 2 ((x 1 2) - 1))) :=
  fn_ev_t (dd := fn_d58) (lo := [(0, .ref 1), (1, .int a1)]) (sp := [19]) rfl rfl rfl (fc_Wire_takeOut (fn_ev 0 (n + 2000) d) (fn_run 0 (fn_ev 0 (n + 2000) d) (fn_lk fn_d58)) (n + 1987) a1 x)
set_option maxRecDepth 20000 in
theorem fc_Wire_takeOut_at19 (cf : Nat → List Value → fn_M → Option fn_R) (K : Nat → fn_K) (m : Nat) (l1 l3 : Int32) (r2 : Nat) (x : fn_M) : fn_runc 0 cf (fn_lk fn_d58) [19] K (m + 16) 19 [(0, .ref 1), (1, .int l1), (2, .ref r2), (3, .int l3)] [] x =
  (if (x 1 2) ≤ l3 then
    (if fn_dy 2 = true ∧ (fn_la 0 2).1 = 4 ∧ fn_lc 0 (x 1 1).toNatClampNeg = 2 then
      (if (x 1 2) < 0 ∨ 24 ≤ (x 1 2).toNatClampNeg then
        none
        else
        (if 6 = 6 ∧ r2 < 1000 then
          some ((fn_w (fn_w x 2 (x 1 2).toNatClampNeg (nI (x 1 1).toNatClampNeg)) 1 1 (nI r2)), some (.ref r2))
          else
          none))
      else
      none)
    else
    (if (l3 + 1) < 0 ∨ 24 ≤ (l3 + 1).toNatClampNeg then
      none
      else
      (if fn_dy 2 = true ∧ (fn_la 0 2).1 = 4 ∧ fn_lc 0 (x 2 (l3 + 1).toNatClampNeg).toNatClampNeg = 2 then
        (if l3 < 0 ∨ 24 ≤ l3.toNatClampNeg then
          none
          else
          K (m + 0) 19 [(0, .ref 1), (1, .int l1), (2, .ref r2), (3, .int (l3 + 1))] [] (fn_w x 2 l3.toNatClampNeg (nI (x 2 (l3 + 1).toNatClampNeg).toNatClampNeg)))
        else
        none))) := rfl
theorem ft_Wire_takeOut_at19 (n d m : Nat) (l1 l3 : Int32) (r2 : Nat) (x : fn_M) : fn_run 0 (fn_ev 0 (n + 2000) d) (fn_lk fn_d58) (m + 16) 19 [(0, .ref 1), (1, .int l1), (2, .ref r2), (3, .int l3)] [] x =
  (if (x 1 2) ≤ l3 then
    (if fn_dy 2 = true ∧ (fn_la 0 2).1 = 4 ∧ fn_lc 0 (x 1 1).toNatClampNeg = 2 then
      (if (x 1 2) < 0 ∨ 24 ≤ (x 1 2).toNatClampNeg then
        none
        else
        (if 6 = 6 ∧ r2 < 1000 then
          some ((fn_w (fn_w x 2 (x 1 2).toNatClampNeg (nI (x 1 1).toNatClampNeg)) 1 1 (nI r2)), some (.ref r2))
          else
          none))
      else
      none)
    else
    (if (l3 + 1) < 0 ∨ 24 ≤ (l3 + 1).toNatClampNeg then
      none
      else
      (if fn_dy 2 = true ∧ (fn_la 0 2).1 = 4 ∧ fn_lc 0 (x 2 (l3 + 1).toNatClampNeg).toNatClampNeg = 2 then
        (if l3 < 0 ∨ 24 ≤ l3.toNatClampNeg then
          none
          else
          fn_run 0 (fn_ev 0 (n + 2000) d) (fn_lk fn_d58) (m + 0) 19 [(0, .ref 1), (1, .int l1), (2, .ref r2), (3, .int (l3 + 1))] [] (fn_w x 2 l3.toNatClampNeg (nI (x 2 (l3 + 1).toNatClampNeg).toNatClampNeg)))
        else
        none))) :=
  (fn_runc_eq 0 (fn_ev 0 (n + 2000) d) (fn_lk fn_d58) [19] (m + 16) 19 [(0, .ref 1), (1, .int l1), (2, .ref r2), (3, .int l3)] [] x).trans (fc_Wire_takeOut_at19 (fn_ev 0 (n + 2000) d) (fn_run 0 (fn_ev 0 (n + 2000) d) (fn_lk fn_d58)) m l1 l3 r2 x)
set_option maxRecDepth 20000 in
theorem fc_Wire_numberOfFrame (cf : Nat → List Value → fn_M → Option fn_R) (K : Nat → fn_K) (m : Nat) (a1 a2 : Int32) (x : fn_M) : fn_runc 0 cf (fn_lk fn_d59) [] K (m + 16) 0 [(0, .ref 1), (1, .int a1), (2, .int a2)] [] x =
  (fn_bi (cf 80 [.int a1, .int 0, .int ((x 1 2) - 1)] x) (fun y1 v2 =>
    (if v2 = 0 then
    some (y1, some (.int (-1)))
    else
    (if a1 < 0 ∨ 24 ≤ a1.toNatClampNeg then
      none
      else
      (if (fn_lc 0 (y1 2 a1.toNatClampNeg).toNatClampNeg == 2) = true then
        (fn_bi (cf 11 [.ref (y1 2 a1.toNatClampNeg).toNatClampNeg, .int a2] y1) (fun y3 v4 =>
          some (y3, some (.int v4))))
        else
        none))))) := rfl
theorem ft_Wire_numberOfFrame (n d : Nat) (a1 a2 : Int32) (x : fn_M) : fn_ev 0 (n + 2000) (d + 1) 59 [.ref 1, .int a1, .int a2] x =
  (fn_bi (fn_ev 0 (n + 2000) d 80 [.int a1, .int 0, .int ((x 1 2) - 1)] x) (fun y1 v2 =>
    (if v2 = 0 then
    some (y1, some (.int (-1)))
    else
    (if a1 < 0 ∨ 24 ≤ a1.toNatClampNeg then
      none
      else
      (if (fn_lc 0 (y1 2 a1.toNatClampNeg).toNatClampNeg == 2) = true then
        (fn_bi (fn_ev 0 (n + 2000) d 11 [.ref (y1 2 a1.toNatClampNeg).toNatClampNeg, .int a2] y1) (fun y3 v4 =>
          some (y3, some (.int v4))))
        else
        none))))) :=
  fn_ev_t (dd := fn_d59) (lo := [(0, .ref 1), (1, .int a1), (2, .int a2)]) (sp := []) rfl rfl rfl (fc_Wire_numberOfFrame (fn_ev 0 (n + 2000) d) (fn_run 0 (fn_ev 0 (n + 2000) d) (fn_lk fn_d59)) (n + 1984) a1 a2 x)
set_option maxRecDepth 20000 in
theorem fc_Wire_figure (cf : Nat → List Value → fn_M → Option fn_R) (K : Nat → fn_K) (m : Nat) (a1 : Int32) (x : fn_M) : fn_runc 0 cf (fn_lk fn_d60) [] K (m + 5) 0 [(0, .ref 1), (1, .int a1)] [] x =
  (if a1 = 0 then
    some (x, some (.int (x 1 2)))
    else
    (if a1 = 1 then
      some (x, some (.int (x 1 3)))
      else
      (if a1 = 2 then
        some (x, some (.int (x 1 4)))
        else
        (if a1 = 3 then
          some (x, some (.int (x 1 6)))
          else
          some (x, some (.int (-1))))))) := rfl
theorem ft_Wire_figure (n d : Nat) (a1 : Int32) (x : fn_M) : fn_ev 0 (n + 2000) (d + 1) 60 [.ref 1, .int a1] x =
  (if a1 = 0 then
    some (x, some (.int (x 1 2)))
    else
    (if a1 = 1 then
      some (x, some (.int (x 1 3)))
      else
      (if a1 = 2 then
        some (x, some (.int (x 1 4)))
        else
        (if a1 = 3 then
          some (x, some (.int (x 1 6)))
          else
          some (x, some (.int (-1))))))) :=
  fn_ev_t (dd := fn_d60) (lo := [(0, .ref 1), (1, .int a1)]) (sp := []) rfl rfl rfl (fc_Wire_figure (fn_ev 0 (n + 2000) d) (fn_run 0 (fn_ev 0 (n + 2000) d) (fn_lk fn_d60)) (n + 1995) a1 x)
set_option maxRecDepth 20000 in
theorem fc_Net_power (cf : Nat → List Value → fn_M → Option fn_R) (K : Nat → fn_K) (m : Nat) (a1 a2 : Int32) (x : fn_M) : fn_runc 0 cf (fn_lk fn_d61) [] K (m + 22) 0 [(0, .ref 0), (1, .int a1), (2, .int a2)] [] x =
  (fn_bi (cf 81 [.int a1] x) (fun y1 v2 =>
    (if v2 = 0 then
    some (y1, some (.int 0))
    else
    (if a1 < 0 ∨ 5 ≤ a1.toNatClampNeg then
      none
      else
      (if 1 ≤ a1.toNatClampNeg ∧ a1.toNatClampNeg ≤ 4 then
        (if (fn_lc 0 (28 + a1.toNatClampNeg) == 5) = true then
          (fn_bi (cf 26 [.ref (28 + a1.toNatClampNeg)] y1) (fun y3 v4 =>
            (if v4 = a2 then
            some (y3, some (.int 0))
            else
            (if a2 = 0 then
              (if a1 < 0 ∨ 5 ≤ a1.toNatClampNeg then
                none
                else
                (if 1 ≤ a1.toNatClampNeg ∧ a1.toNatClampNeg ≤ 4 then
                  (if (fn_lc 0 (28 + a1.toNatClampNeg) == 5) = true then
                    (fn_bv (cf 29 [.ref (28 + a1.toNatClampNeg), .ref 1] y3) (fun y5 =>
                      some (y5, some (.int 1))))
                    else
                    none)
                  else
                  none))
              else
              (if a1 < 0 ∨ 5 ≤ a1.toNatClampNeg then
                none
                else
                (if 1 ≤ a1.toNatClampNeg ∧ a1.toNatClampNeg ≤ 4 then
                  (if (fn_lc 0 (28 + a1.toNatClampNeg) == 5) = true then
                    (fn_bv (cf 28 [.ref (28 + a1.toNatClampNeg), .ref 1] y3) (fun y6 =>
                      some (y6, some (.int 1))))
                    else
                    none)
                  else
                  none))))))
          else
          none)
        else
        none))))) := rfl
theorem ft_Net_power (n d : Nat) (a1 a2 : Int32) (x : fn_M) : fn_ev 0 (n + 2000) (d + 1) 61 [.ref 0, .int a1, .int a2] x =
  (fn_bi (fn_ev 0 (n + 2000) d 81 [.int a1] x) (fun y1 v2 =>
    (if v2 = 0 then
    some (y1, some (.int 0))
    else
    (if a1 < 0 ∨ 5 ≤ a1.toNatClampNeg then
      none
      else
      (if 1 ≤ a1.toNatClampNeg ∧ a1.toNatClampNeg ≤ 4 then
        (if (fn_lc 0 (28 + a1.toNatClampNeg) == 5) = true then
          (fn_bi (fn_ev 0 (n + 2000) d 26 [.ref (28 + a1.toNatClampNeg)] y1) (fun y3 v4 =>
            (if v4 = a2 then
            some (y3, some (.int 0))
            else
            (if a2 = 0 then
              (if a1 < 0 ∨ 5 ≤ a1.toNatClampNeg then
                none
                else
                (if 1 ≤ a1.toNatClampNeg ∧ a1.toNatClampNeg ≤ 4 then
                  (if (fn_lc 0 (28 + a1.toNatClampNeg) == 5) = true then
                    (fn_bv (fn_ev 0 (n + 2000) d 29 [.ref (28 + a1.toNatClampNeg), .ref 1] y3) (fun y5 =>
                      some (y5, some (.int 1))))
                    else
                    none)
                  else
                  none))
              else
              (if a1 < 0 ∨ 5 ≤ a1.toNatClampNeg then
                none
                else
                (if 1 ≤ a1.toNatClampNeg ∧ a1.toNatClampNeg ≤ 4 then
                  (if (fn_lc 0 (28 + a1.toNatClampNeg) == 5) = true then
                    (fn_bv (fn_ev 0 (n + 2000) d 28 [.ref (28 + a1.toNatClampNeg), .ref 1] y3) (fun y6 =>
                      some (y6, some (.int 1))))
                    else
                    none)
                  else
                  none))))))
          else
          none)
        else
        none))))) :=
  fn_ev_t (dd := fn_d61) (lo := [(0, .ref 0), (1, .int a1), (2, .int a2)]) (sp := []) rfl rfl rfl (fc_Net_power (fn_ev 0 (n + 2000) d) (fn_run 0 (fn_ev 0 (n + 2000) d) (fn_lk fn_d61)) (n + 1978) a1 a2 x)
set_option maxRecDepth 20000 in
theorem fc_Net_identify (cf : Nat → List Value → fn_M → Option fn_R) (K : Nat → fn_K) (m : Nat) (a1 a2 : Int32) (x : fn_M) : fn_runc 0 cf (fn_lk fn_d62) [] K (m + 22) 0 [(0, .ref 0), (1, .int a1), (2, .int a2)] [] x =
  (fn_bi (cf 81 [.int a1] x) (fun y1 v2 =>
    (if v2 = 0 then
    some (y1, some (.int 0))
    else
    (if a1 < 0 ∨ 5 ≤ a1.toNatClampNeg then
      none
      else
      (if 1 ≤ a1.toNatClampNeg ∧ a1.toNatClampNeg ≤ 4 then
        (if (fn_lc 0 (28 + a1.toNatClampNeg) == 5) = true then
          (fn_bi (cf 26 [.ref (28 + a1.toNatClampNeg)] y1) (fun y3 v4 =>
            (if v4 = 0 then
            (fn_bi (cf 80 [.int a2, .int 0, .int 9999] y3) (fun y5 v6 =>
              (if v6 = 0 then
              some (y5, some (.int 0))
              else
              (if a1 < 0 ∨ 5 ≤ a1.toNatClampNeg then
                none
                else
                (if 1 ≤ a1.toNatClampNeg ∧ a1.toNatClampNeg ≤ 4 then
                  (if (fn_lc 0 (28 + a1.toNatClampNeg) == 5) = true then
                    (fn_bv (cf 27 [.ref (28 + a1.toNatClampNeg), .int a2] y5) (fun y7 =>
                      some (y7, some (.int 1))))
                    else
                    none)
                  else
                  none)))))
            else
            some (y3, some (.int 0)))))
          else
          none)
        else
        none))))) := rfl
theorem ft_Net_identify (n d : Nat) (a1 a2 : Int32) (x : fn_M) : fn_ev 0 (n + 2000) (d + 1) 62 [.ref 0, .int a1, .int a2] x =
  (fn_bi (fn_ev 0 (n + 2000) d 81 [.int a1] x) (fun y1 v2 =>
    (if v2 = 0 then
    some (y1, some (.int 0))
    else
    (if a1 < 0 ∨ 5 ≤ a1.toNatClampNeg then
      none
      else
      (if 1 ≤ a1.toNatClampNeg ∧ a1.toNatClampNeg ≤ 4 then
        (if (fn_lc 0 (28 + a1.toNatClampNeg) == 5) = true then
          (fn_bi (fn_ev 0 (n + 2000) d 26 [.ref (28 + a1.toNatClampNeg)] y1) (fun y3 v4 =>
            (if v4 = 0 then
            (fn_bi (fn_ev 0 (n + 2000) d 80 [.int a2, .int 0, .int 9999] y3) (fun y5 v6 =>
              (if v6 = 0 then
              some (y5, some (.int 0))
              else
              (if a1 < 0 ∨ 5 ≤ a1.toNatClampNeg then
                none
                else
                (if 1 ≤ a1.toNatClampNeg ∧ a1.toNatClampNeg ≤ 4 then
                  (if (fn_lc 0 (28 + a1.toNatClampNeg) == 5) = true then
                    (fn_bv (fn_ev 0 (n + 2000) d 27 [.ref (28 + a1.toNatClampNeg), .int a2] y5) (fun y7 =>
                      some (y7, some (.int 1))))
                    else
                    none)
                  else
                  none)))))
            else
            some (y3, some (.int 0)))))
          else
          none)
        else
        none))))) :=
  fn_ev_t (dd := fn_d62) (lo := [(0, .ref 0), (1, .int a1), (2, .int a2)]) (sp := []) rfl rfl rfl (fc_Net_identify (fn_ev 0 (n + 2000) d) (fn_run 0 (fn_ev 0 (n + 2000) d) (fn_lk fn_d62)) (n + 1978) a1 a2 x)
set_option maxRecDepth 20000 in
theorem fc_Net_input (cf : Nat → List Value → fn_M → Option fn_R) (K : Nat → fn_K) (m : Nat) (a1 a2 a3 : Int32) (x : fn_M) : fn_runc 0 cf (fn_lk fn_d63) [] K (m + 23) 0 [(0, .ref 0), (1, .int a1), (2, .int a2), (3, .int a3)] [] x =
  (fn_bi (cf 81 [.int a1] x) (fun y1 v2 =>
    (if v2 = 0 then
    some (y1, some (.int 0))
    else
    (if a1 < 0 ∨ 5 ≤ a1.toNatClampNeg then
      none
      else
      (if 1 ≤ a1.toNatClampNeg ∧ a1.toNatClampNeg ≤ 4 then
        (if (fn_lc 0 (28 + a1.toNatClampNeg) == 5) = true then
          (fn_bi (cf 26 [.ref (28 + a1.toNatClampNeg)] y1) (fun y3 v4 =>
            (if v4 = 0 then
            some (y3, some (.int 0))
            else
            (fn_bi (cf 82 [.int a2] y3) (fun y5 v6 =>
              (if v6 = 0 then
              some (y5, some (.int 0))
              else
              (if a1 < 0 ∨ 5 ≤ a1.toNatClampNeg then
                none
                else
                (if 1 ≤ a1.toNatClampNeg ∧ a1.toNatClampNeg ≤ 4 then
                  (if (fn_lc 0 (28 + a1.toNatClampNeg) == 5) = true then
                    (fn_bv (cf 30 [.ref (28 + a1.toNatClampNeg), .int a2, .int a3, .ref 1] y5) (fun y7 =>
                      some (y7, some (.int 1))))
                    else
                    none)
                  else
                  none))))))))
          else
          none)
        else
        none))))) := rfl
theorem ft_Net_input (n d : Nat) (a1 a2 a3 : Int32) (x : fn_M) : fn_ev 0 (n + 2000) (d + 1) 63 [.ref 0, .int a1, .int a2, .int a3] x =
  (fn_bi (fn_ev 0 (n + 2000) d 81 [.int a1] x) (fun y1 v2 =>
    (if v2 = 0 then
    some (y1, some (.int 0))
    else
    (if a1 < 0 ∨ 5 ≤ a1.toNatClampNeg then
      none
      else
      (if 1 ≤ a1.toNatClampNeg ∧ a1.toNatClampNeg ≤ 4 then
        (if (fn_lc 0 (28 + a1.toNatClampNeg) == 5) = true then
          (fn_bi (fn_ev 0 (n + 2000) d 26 [.ref (28 + a1.toNatClampNeg)] y1) (fun y3 v4 =>
            (if v4 = 0 then
            some (y3, some (.int 0))
            else
            (fn_bi (fn_ev 0 (n + 2000) d 82 [.int a2] y3) (fun y5 v6 =>
              (if v6 = 0 then
              some (y5, some (.int 0))
              else
              (if a1 < 0 ∨ 5 ≤ a1.toNatClampNeg then
                none
                else
                (if 1 ≤ a1.toNatClampNeg ∧ a1.toNatClampNeg ≤ 4 then
                  (if (fn_lc 0 (28 + a1.toNatClampNeg) == 5) = true then
                    (fn_bv (fn_ev 0 (n + 2000) d 30 [.ref (28 + a1.toNatClampNeg), .int a2, .int a3, .ref 1] y5) (fun y7 =>
                      some (y7, some (.int 1))))
                    else
                    none)
                  else
                  none))))))))
          else
          none)
        else
        none))))) :=
  fn_ev_t (dd := fn_d63) (lo := [(0, .ref 0), (1, .int a1), (2, .int a2), (3, .int a3)]) (sp := []) rfl rfl rfl (fc_Net_input (fn_ev 0 (n + 2000) d) (fn_run 0 (fn_ev 0 (n + 2000) d) (fn_lk fn_d63)) (n + 1977) a1 a2 a3 x)
set_option maxRecDepth 20000 in
theorem fc_Net_fail (cf : Nat → List Value → fn_M → Option fn_R) (K : Nat → fn_K) (m : Nat) (a1 a2 : Int32) (x : fn_M) : fn_runc 0 cf (fn_lk fn_d64) [] K (m + 24) 0 [(0, .ref 0), (1, .int a1), (2, .int a2)] [] x =
  (fn_bi (cf 81 [.int a1] x) (fun y1 v2 =>
    (if v2 = 0 then
    some (y1, some (.int 0))
    else
    (if a1 < 0 ∨ 5 ≤ a1.toNatClampNeg then
      none
      else
      (if 1 ≤ a1.toNatClampNeg ∧ a1.toNatClampNeg ≤ 4 then
        (if (fn_lc 0 (28 + a1.toNatClampNeg) == 5) = true then
          (fn_bi (cf 26 [.ref (28 + a1.toNatClampNeg)] y1) (fun y3 v4 =>
            (if v4 = 0 then
            some (y3, some (.int 0))
            else
            (fn_bi (cf 80 [.int a2, .int 0, .int 31] y3) (fun y5 v6 =>
              (if v6 = 0 then
              some (y5, some (.int 0))
              else
              (if a1 < 0 ∨ 5 ≤ a1.toNatClampNeg then
                none
                else
                (if 1 ≤ a1.toNatClampNeg ∧ a1.toNatClampNeg ≤ 4 then
                  (if (fn_lc 0 (28 + a1.toNatClampNeg) == 5) = true then
                    (fn_bv (cf 35 [.ref (28 + a1.toNatClampNeg), .int a2, .ref 1] y5) (fun y7 =>
                      some (y7, some (.int 1))))
                    else
                    none)
                  else
                  none))))))))
          else
          none)
        else
        none))))) := rfl
theorem ft_Net_fail (n d : Nat) (a1 a2 : Int32) (x : fn_M) : fn_ev 0 (n + 2000) (d + 1) 64 [.ref 0, .int a1, .int a2] x =
  (fn_bi (fn_ev 0 (n + 2000) d 81 [.int a1] x) (fun y1 v2 =>
    (if v2 = 0 then
    some (y1, some (.int 0))
    else
    (if a1 < 0 ∨ 5 ≤ a1.toNatClampNeg then
      none
      else
      (if 1 ≤ a1.toNatClampNeg ∧ a1.toNatClampNeg ≤ 4 then
        (if (fn_lc 0 (28 + a1.toNatClampNeg) == 5) = true then
          (fn_bi (fn_ev 0 (n + 2000) d 26 [.ref (28 + a1.toNatClampNeg)] y1) (fun y3 v4 =>
            (if v4 = 0 then
            some (y3, some (.int 0))
            else
            (fn_bi (fn_ev 0 (n + 2000) d 80 [.int a2, .int 0, .int 31] y3) (fun y5 v6 =>
              (if v6 = 0 then
              some (y5, some (.int 0))
              else
              (if a1 < 0 ∨ 5 ≤ a1.toNatClampNeg then
                none
                else
                (if 1 ≤ a1.toNatClampNeg ∧ a1.toNatClampNeg ≤ 4 then
                  (if (fn_lc 0 (28 + a1.toNatClampNeg) == 5) = true then
                    (fn_bv (fn_ev 0 (n + 2000) d 35 [.ref (28 + a1.toNatClampNeg), .int a2, .ref 1] y5) (fun y7 =>
                      some (y7, some (.int 1))))
                    else
                    none)
                  else
                  none))))))))
          else
          none)
        else
        none))))) :=
  fn_ev_t (dd := fn_d64) (lo := [(0, .ref 0), (1, .int a1), (2, .int a2)]) (sp := []) rfl rfl rfl (fc_Net_fail (fn_ev 0 (n + 2000) d) (fn_run 0 (fn_ev 0 (n + 2000) d) (fn_lk fn_d64)) (n + 1976) a1 a2 x)
set_option maxRecDepth 20000 in
theorem fc_Net_expect (cf : Nat → List Value → fn_M → Option fn_R) (K : Nat → fn_K) (m : Nat) (a1 a2 a3 : Int32) (x : fn_M) : fn_runc 0 cf (fn_lk fn_d65) [] K (m + 23) 0 [(0, .ref 0), (1, .int a1), (2, .int a2), (3, .int a3)] [] x =
  (fn_bi (cf 81 [.int a1] x) (fun y1 v2 =>
    (if v2 = 0 then
    some (y1, some (.int 0))
    else
    (fn_bi (cf 80 [.int a2, .int (-1), .int 9999] y1) (fun y3 v4 =>
      (if v4 = 0 then
      some (y3, some (.int 0))
      else
      (fn_bi (cf 80 [.int a3, .int 0, .int 50] y3) (fun y5 v6 =>
        (if v6 = 0 then
        some (y5, some (.int 0))
        else
        (if a1 < 0 ∨ 5 ≤ a1.toNatClampNeg then
          none
          else
          (if 1 ≤ a1.toNatClampNeg ∧ a1.toNatClampNeg ≤ 4 then
            (if (fn_lc 0 (48 + a1.toNatClampNeg) == 4) = true then
              (fn_bv (cf 23 [.ref (48 + a1.toNatClampNeg), .int a2, .int a3] y5) (fun y7 =>
                some (y7, some (.int 1))))
              else
              none)
            else
            none))))))))))) := rfl
theorem ft_Net_expect (n d : Nat) (a1 a2 a3 : Int32) (x : fn_M) : fn_ev 0 (n + 2000) (d + 1) 65 [.ref 0, .int a1, .int a2, .int a3] x =
  (fn_bi (fn_ev 0 (n + 2000) d 81 [.int a1] x) (fun y1 v2 =>
    (if v2 = 0 then
    some (y1, some (.int 0))
    else
    (fn_bi (fn_ev 0 (n + 2000) d 80 [.int a2, .int (-1), .int 9999] y1) (fun y3 v4 =>
      (if v4 = 0 then
      some (y3, some (.int 0))
      else
      (fn_bi (fn_ev 0 (n + 2000) d 80 [.int a3, .int 0, .int 50] y3) (fun y5 v6 =>
        (if v6 = 0 then
        some (y5, some (.int 0))
        else
        (if a1 < 0 ∨ 5 ≤ a1.toNatClampNeg then
          none
          else
          (if 1 ≤ a1.toNatClampNeg ∧ a1.toNatClampNeg ≤ 4 then
            (if (fn_lc 0 (48 + a1.toNatClampNeg) == 4) = true then
              (fn_bv (fn_ev 0 (n + 2000) d 23 [.ref (48 + a1.toNatClampNeg), .int a2, .int a3] y5) (fun y7 =>
                some (y7, some (.int 1))))
              else
              none)
            else
            none))))))))))) :=
  fn_ev_t (dd := fn_d65) (lo := [(0, .ref 0), (1, .int a1), (2, .int a2), (3, .int a3)]) (sp := []) rfl rfl rfl (fc_Net_expect (fn_ev 0 (n + 2000) d) (fn_run 0 (fn_ev 0 (n + 2000) d) (fn_lk fn_d65)) (n + 1977) a1 a2 a3 x)
set_option maxRecDepth 20000 in
theorem fc_Net_configure (cf : Nat → List Value → fn_M → Option fn_R) (K : Nat → fn_K) (m : Nat) (a1 a2 a3 : Int32) (x : fn_M) : fn_runc 0 cf (fn_lk fn_d66) [] K (m + 20) 0 [(0, .ref 0), (1, .int a1), (2, .int a2), (3, .int a3)] [] x =
  (fn_bi (cf 81 [.int a1] x) (fun y1 v2 =>
    (if v2 = 0 then
    some (y1, some (.int 0))
    else
    (fn_bi (cf 80 [.int a2, .int 0, .int 16] y1) (fun y3 v4 =>
      (if v4 = 0 then
      some (y3, some (.int 0))
      else
      (if a1 < 0 ∨ 5 ≤ a1.toNatClampNeg then
        none
        else
        (if 1 ≤ a1.toNatClampNeg ∧ a1.toNatClampNeg ≤ 4 then
          (if (fn_lc 0 (48 + a1.toNatClampNeg) == 4) = true then
            (fn_bi (cf 24 [.ref (48 + a1.toNatClampNeg), .int a2, .int a3] y3) (fun y5 v6 =>
              (if v6 = 0 then
              some (y5, some (.int 0))
              else
              some (y5, some (.int 1)))))
            else
            none)
          else
          none)))))))) := rfl
theorem ft_Net_configure (n d : Nat) (a1 a2 a3 : Int32) (x : fn_M) : fn_ev 0 (n + 2000) (d + 1) 66 [.ref 0, .int a1, .int a2, .int a3] x =
  (fn_bi (fn_ev 0 (n + 2000) d 81 [.int a1] x) (fun y1 v2 =>
    (if v2 = 0 then
    some (y1, some (.int 0))
    else
    (fn_bi (fn_ev 0 (n + 2000) d 80 [.int a2, .int 0, .int 16] y1) (fun y3 v4 =>
      (if v4 = 0 then
      some (y3, some (.int 0))
      else
      (if a1 < 0 ∨ 5 ≤ a1.toNatClampNeg then
        none
        else
        (if 1 ≤ a1.toNatClampNeg ∧ a1.toNatClampNeg ≤ 4 then
          (if (fn_lc 0 (48 + a1.toNatClampNeg) == 4) = true then
            (fn_bi (fn_ev 0 (n + 2000) d 24 [.ref (48 + a1.toNatClampNeg), .int a2, .int a3] y3) (fun y5 v6 =>
              (if v6 = 0 then
              some (y5, some (.int 0))
              else
              some (y5, some (.int 1)))))
            else
            none)
          else
          none)))))))) :=
  fn_ev_t (dd := fn_d66) (lo := [(0, .ref 0), (1, .int a1), (2, .int a2), (3, .int a3)]) (sp := []) rfl rfl rfl (fc_Net_configure (fn_ev 0 (n + 2000) d) (fn_run 0 (fn_ev 0 (n + 2000) d) (fn_lk fn_d66)) (n + 1980) a1 a2 a3 x)
set_option maxRecDepth 20000 in
theorem fc_Net_transfer (cf : Nat → List Value → fn_M → Option fn_R) (K : Nat → fn_K) (m : Nat) (a1 a2 a3 a4 : Int32) (x : fn_M) : fn_runc 0 cf (fn_lk fn_d67) [] K (m + 24) 0 [(0, .ref 0), (1, .int a1), (2, .int a2), (3, .int a3), (4, .int a4)] [] x =
  (fn_bi (cf 81 [.int a1] x) (fun y1 v2 =>
    (if v2 = 0 then
    some (y1, some (.int 0))
    else
    (fn_bi (cf 80 [.int a2, .int 0, .int 31] y1) (fun y3 v4 =>
      (if v4 = 0 then
      some (y3, some (.int 0))
      else
      (if (y3 46 0) = 0 then
        (fn_bv (cf 12 [.ref 45, .int a1, .int a2, .int a3, .int a4, .ref 1] y3) (fun y5 =>
          some (y5, some (.int 1))))
        else
        some (y3, some (.int 0))))))))) := rfl
theorem ft_Net_transfer (n d : Nat) (a1 a2 a3 a4 : Int32) (x : fn_M) : fn_ev 0 (n + 2000) (d + 1) 67 [.ref 0, .int a1, .int a2, .int a3, .int a4] x =
  (fn_bi (fn_ev 0 (n + 2000) d 81 [.int a1] x) (fun y1 v2 =>
    (if v2 = 0 then
    some (y1, some (.int 0))
    else
    (fn_bi (fn_ev 0 (n + 2000) d 80 [.int a2, .int 0, .int 31] y1) (fun y3 v4 =>
      (if v4 = 0 then
      some (y3, some (.int 0))
      else
      (if (y3 46 0) = 0 then
        (fn_bv (fn_ev 0 (n + 2000) d 12 [.ref 45, .int a1, .int a2, .int a3, .int a4, .ref 1] y3) (fun y5 =>
          some (y5, some (.int 1))))
        else
        some (y3, some (.int 0))))))))) :=
  fn_ev_t (dd := fn_d67) (lo := [(0, .ref 0), (1, .int a1), (2, .int a2), (3, .int a3), (4, .int a4)]) (sp := []) rfl rfl rfl (fc_Net_transfer (fn_ev 0 (n + 2000) d) (fn_run 0 (fn_ev 0 (n + 2000) d) (fn_lk fn_d67)) (n + 1976) a1 a2 a3 a4 x)
set_option maxRecDepth 20000 in
theorem fc_Net_sync (cf : Nat → List Value → fn_M → Option fn_R) (K : Nat → fn_K) (m : Nat) (a1 : Int32) (x : fn_M) : fn_runc 0 cf (fn_lk fn_d68) [] K (m + 11) 0 [(0, .ref 0), (1, .int a1)] [] x =
  (fn_bi (cf 80 [.int a1, .int 0, .int 20] x) (fun y1 v2 =>
    (if v2 = 0 then
    some (y1, some (.int 0))
    else
    some ((fn_w y1 45 4 a1), some (.int 1))))) := rfl
theorem ft_Net_sync (n d : Nat) (a1 : Int32) (x : fn_M) : fn_ev 0 (n + 2000) (d + 1) 68 [.ref 0, .int a1] x =
  (fn_bi (fn_ev 0 (n + 2000) d 80 [.int a1, .int 0, .int 20] x) (fun y1 v2 =>
    (if v2 = 0 then
    some (y1, some (.int 0))
    else
    some ((fn_w y1 45 4 a1), some (.int 1))))) :=
  fn_ev_t (dd := fn_d68) (lo := [(0, .ref 0), (1, .int a1)]) (sp := []) rfl rfl rfl (fc_Net_sync (fn_ev 0 (n + 2000) d) (fn_run 0 (fn_ev 0 (n + 2000) d) (fn_lk fn_d68)) (n + 1989) a1 x)
set_option maxRecDepth 20000 in
theorem fc_Net_inject (cf : Nat → List Value → fn_M → Option fn_R) (K : Nat → fn_K) (m : Nat) (a1 a2 a3 a4 : Int32) (x : fn_M) : fn_runc 0 cf (fn_lk fn_d69) [] K (m + 19) 0 [(0, .ref 0), (1, .int a1), (2, .int a2), (3, .int a3), (4, .int a4)] [] x =
  (fn_bi (cf 80 [.int a1, .int 0, .int 2047] x) (fun y1 v2 =>
    (if v2 = 0 then
    some (y1, some (.int 0))
    else
    (fn_bi (cf 54 [.ref 1] y1) (fun y3 v4 =>
      (if v4 = 0 then
      (fn_bv (cf 55 [.ref 1, .int (-1), .int a1, .int a2, .int a3, .int a4] y3) (fun y5 =>
        some (y5, some (.int 1))))
      else
      some (y3, some (.int 0)))))))) := rfl
theorem ft_Net_inject (n d : Nat) (a1 a2 a3 a4 : Int32) (x : fn_M) : fn_ev 0 (n + 2000) (d + 1) 69 [.ref 0, .int a1, .int a2, .int a3, .int a4] x =
  (fn_bi (fn_ev 0 (n + 2000) d 80 [.int a1, .int 0, .int 2047] x) (fun y1 v2 =>
    (if v2 = 0 then
    some (y1, some (.int 0))
    else
    (fn_bi (fn_ev 0 (n + 2000) d 54 [.ref 1] y1) (fun y3 v4 =>
      (if v4 = 0 then
      (fn_bv (fn_ev 0 (n + 2000) d 55 [.ref 1, .int (-1), .int a1, .int a2, .int a3, .int a4] y3) (fun y5 =>
        some (y5, some (.int 1))))
      else
      some (y3, some (.int 0)))))))) :=
  fn_ev_t (dd := fn_d69) (lo := [(0, .ref 0), (1, .int a1), (2, .int a2), (3, .int a3), (4, .int a4)]) (sp := []) rfl rfl rfl (fc_Net_inject (fn_ev 0 (n + 2000) d) (fn_run 0 (fn_ev 0 (n + 2000) d) (fn_lk fn_d69)) (n + 1981) a1 a2 a3 a4 x)
set_option maxRecDepth 20000 in
theorem fc_Net_disturb (cf : Nat → List Value → fn_M → Option fn_R) (K : Nat → fn_K) (m : Nat) (a1 : Int32) (x : fn_M) : fn_runc 0 cf (fn_lk fn_d70) [] K (m + 11) 0 [(0, .ref 0), (1, .int a1)] [] x =
  (fn_bi (cf 80 [.int a1, .int 0, .int 9] x) (fun y1 v2 =>
    (if v2 = 0 then
    some (y1, some (.int 0))
    else
    some ((fn_w y1 1 5 a1), some (.int 1))))) := rfl
theorem ft_Net_disturb (n d : Nat) (a1 : Int32) (x : fn_M) : fn_ev 0 (n + 2000) (d + 1) 70 [.ref 0, .int a1] x =
  (fn_bi (fn_ev 0 (n + 2000) d 80 [.int a1, .int 0, .int 9] x) (fun y1 v2 =>
    (if v2 = 0 then
    some (y1, some (.int 0))
    else
    some ((fn_w y1 1 5 a1), some (.int 1))))) :=
  fn_ev_t (dd := fn_d70) (lo := [(0, .ref 0), (1, .int a1)]) (sp := []) rfl rfl rfl (fc_Net_disturb (fn_ev 0 (n + 2000) d) (fn_run 0 (fn_ev 0 (n + 2000) d) (fn_lk fn_d70)) (n + 1989) a1 x)
set_option maxRecDepth 20000 in
theorem fc_Net_tick (cf : Nat → List Value → fn_M → Option fn_R) (K : Nat → fn_K) (m : Nat) (x : fn_M) : fn_runc 0 cf (fn_lk fn_d71) [] K (m + 119) 0 [(0, .ref 0)] [] x =
  (fn_bv (cf 37 [.ref 29, .ref 1] (fn_w x 1 6 ((x 1 6) + 1))) (fun y1 =>
    (fn_bv (cf 37 [.ref 30, .ref 1] y1) (fun y2 =>
    (fn_bv (cf 37 [.ref 31, .ref 1] y2) (fun y3 =>
    (fn_bv (cf 37 [.ref 32, .ref 1] y3) (fun y4 =>
    (fn_bv (cf 15 [.ref 45, .ref 1] y4) (fun y5 =>
    (fn_br (cf 57 [.ref 1] y5) (fun y6 p7 =>
    (fn_bv (cf 79 [.ref 0, .ref p7] y6) (fun y8 =>
    (fn_br (cf 57 [.ref 1] y8) (fun y9 p10 =>
    (fn_bv (cf 79 [.ref 0, .ref p10] y9) (fun y11 =>
    (fn_br (cf 57 [.ref 1] y11) (fun y12 p13 =>
    (fn_bv (cf 79 [.ref 0, .ref p13] y12) (fun y14 =>
    some (y14, some (.int 3))))) (fun y12 =>
    some (y12, some (.int 2))))))) (fun y9 =>
    (fn_br (cf 57 [.ref 1] y9) (fun y15 p16 =>
    (fn_bv (cf 79 [.ref 0, .ref p16] y15) (fun y17 =>
    some (y17, some (.int 2))))) (fun y15 =>
    some (y15, some (.int 1))))))))) (fun y6 =>
    (fn_br (cf 57 [.ref 1] y6) (fun y18 p19 =>
    (fn_bv (cf 79 [.ref 0, .ref p19] y18) (fun y20 =>
    (fn_br (cf 57 [.ref 1] y20) (fun y21 p22 =>
    (fn_bv (cf 79 [.ref 0, .ref p22] y21) (fun y23 =>
    some (y23, some (.int 2))))) (fun y21 =>
    some (y21, some (.int 1))))))) (fun y18 =>
    (fn_br (cf 57 [.ref 1] y18) (fun y24 p25 =>
    (fn_bv (cf 79 [.ref 0, .ref p25] y24) (fun y26 =>
    some (y26, some (.int 1))))) (fun y24 =>
    some (y24, some (.int 0)))))))))))))))))) := rfl
theorem ft_Net_tick (n d : Nat) (x : fn_M) : fn_ev 0 (n + 2000) (d + 1) 71 [.ref 0] x =
  (fn_bv (fn_ev 0 (n + 2000) d 37 [.ref 29, .ref 1] (fn_w x 1 6 ((x 1 6) + 1))) (fun y1 =>
    (fn_bv (fn_ev 0 (n + 2000) d 37 [.ref 30, .ref 1] y1) (fun y2 =>
    (fn_bv (fn_ev 0 (n + 2000) d 37 [.ref 31, .ref 1] y2) (fun y3 =>
    (fn_bv (fn_ev 0 (n + 2000) d 37 [.ref 32, .ref 1] y3) (fun y4 =>
    (fn_bv (fn_ev 0 (n + 2000) d 15 [.ref 45, .ref 1] y4) (fun y5 =>
    (fn_br (fn_ev 0 (n + 2000) d 57 [.ref 1] y5) (fun y6 p7 =>
    (fn_bv (fn_ev 0 (n + 2000) d 79 [.ref 0, .ref p7] y6) (fun y8 =>
    (fn_br (fn_ev 0 (n + 2000) d 57 [.ref 1] y8) (fun y9 p10 =>
    (fn_bv (fn_ev 0 (n + 2000) d 79 [.ref 0, .ref p10] y9) (fun y11 =>
    (fn_br (fn_ev 0 (n + 2000) d 57 [.ref 1] y11) (fun y12 p13 =>
    (fn_bv (fn_ev 0 (n + 2000) d 79 [.ref 0, .ref p13] y12) (fun y14 =>
    some (y14, some (.int 3))))) (fun y12 =>
    some (y12, some (.int 2))))))) (fun y9 =>
    (fn_br (fn_ev 0 (n + 2000) d 57 [.ref 1] y9) (fun y15 p16 =>
    (fn_bv (fn_ev 0 (n + 2000) d 79 [.ref 0, .ref p16] y15) (fun y17 =>
    some (y17, some (.int 2))))) (fun y15 =>
    some (y15, some (.int 1))))))))) (fun y6 =>
    (fn_br (fn_ev 0 (n + 2000) d 57 [.ref 1] y6) (fun y18 p19 =>
    (fn_bv (fn_ev 0 (n + 2000) d 79 [.ref 0, .ref p19] y18) (fun y20 =>
    (fn_br (fn_ev 0 (n + 2000) d 57 [.ref 1] y20) (fun y21 p22 =>
    (fn_bv (fn_ev 0 (n + 2000) d 79 [.ref 0, .ref p22] y21) (fun y23 =>
    some (y23, some (.int 2))))) (fun y21 =>
    some (y21, some (.int 1))))))) (fun y18 =>
    (fn_br (fn_ev 0 (n + 2000) d 57 [.ref 1] y18) (fun y24 p25 =>
    (fn_bv (fn_ev 0 (n + 2000) d 79 [.ref 0, .ref p25] y24) (fun y26 =>
    some (y26, some (.int 1))))) (fun y24 =>
    some (y24, some (.int 0)))))))))))))))))) :=
  fn_ev_t (dd := fn_d71) (lo := [(0, .ref 0)]) (sp := []) rfl rfl rfl (fc_Net_tick (fn_ev 0 (n + 2000) d) (fn_run 0 (fn_ev 0 (n + 2000) d) (fn_lk fn_d71)) (n + 1881) x)
set_option maxRecDepth 20000 in
theorem fc_Net_object (cf : Nat → List Value → fn_M → Option fn_R) (K : Nat → fn_K) (m : Nat) (a1 a2 : Int32) (x : fn_M) : fn_runc 0 cf (fn_lk fn_d72) [] K (m + 11) 0 [(0, .ref 0), (1, .int a1), (2, .int a2)] [] x =
  (fn_bi (cf 81 [.int a1] x) (fun y1 v2 =>
    (if v2 = 0 then
    some (y1, some (.int (-1)))
    else
    (if a1 < 0 ∨ 5 ≤ a1.toNatClampNeg then
      none
      else
      (if 1 ≤ a1.toNatClampNeg ∧ a1.toNatClampNeg ≤ 4 then
        (if (fn_lc 0 (28 + a1.toNatClampNeg) == 5) = true then
          (fn_bi (cf 36 [.ref (28 + a1.toNatClampNeg), .int a2] y1) (fun y3 v4 =>
            some (y3, some (.int v4))))
          else
          none)
        else
        none))))) := rfl
theorem ft_Net_object (n d : Nat) (a1 a2 : Int32) (x : fn_M) : fn_ev 0 (n + 2000) (d + 1) 72 [.ref 0, .int a1, .int a2] x =
  (fn_bi (fn_ev 0 (n + 2000) d 81 [.int a1] x) (fun y1 v2 =>
    (if v2 = 0 then
    some (y1, some (.int (-1)))
    else
    (if a1 < 0 ∨ 5 ≤ a1.toNatClampNeg then
      none
      else
      (if 1 ≤ a1.toNatClampNeg ∧ a1.toNatClampNeg ≤ 4 then
        (if (fn_lc 0 (28 + a1.toNatClampNeg) == 5) = true then
          (fn_bi (fn_ev 0 (n + 2000) d 36 [.ref (28 + a1.toNatClampNeg), .int a2] y1) (fun y3 v4 =>
            some (y3, some (.int v4))))
          else
          none)
        else
        none))))) :=
  fn_ev_t (dd := fn_d72) (lo := [(0, .ref 0), (1, .int a1), (2, .int a2)]) (sp := []) rfl rfl rfl (fc_Net_object (fn_ev 0 (n + 2000) d) (fn_run 0 (fn_ev 0 (n + 2000) d) (fn_lk fn_d72)) (n + 1989) a1 a2 x)
set_option maxRecDepth 20000 in
theorem fc_Net_state (cf : Nat → List Value → fn_M → Option fn_R) (K : Nat → fn_K) (m : Nat) (a1 : Int32) (x : fn_M) : fn_runc 0 cf (fn_lk fn_d73) [] K (m + 10) 0 [(0, .ref 0), (1, .int a1)] [] x =
  (fn_bi (cf 81 [.int a1] x) (fun y1 v2 =>
    (if v2 = 0 then
    some (y1, some (.int (-1)))
    else
    (if a1 < 0 ∨ 5 ≤ a1.toNatClampNeg then
      none
      else
      (if 1 ≤ a1.toNatClampNeg ∧ a1.toNatClampNeg ≤ 4 then
        (if fn_lc 0 (28 + a1.toNatClampNeg) = 5 then
          some (y1, some (.int (y1 (28 + a1.toNatClampNeg) 3)))
          else
          none)
        else
        none))))) := rfl
theorem ft_Net_state (n d : Nat) (a1 : Int32) (x : fn_M) : fn_ev 0 (n + 2000) (d + 1) 73 [.ref 0, .int a1] x =
  (fn_bi (fn_ev 0 (n + 2000) d 81 [.int a1] x) (fun y1 v2 =>
    (if v2 = 0 then
    some (y1, some (.int (-1)))
    else
    (if a1 < 0 ∨ 5 ≤ a1.toNatClampNeg then
      none
      else
      (if 1 ≤ a1.toNatClampNeg ∧ a1.toNatClampNeg ≤ 4 then
        (if fn_lc 0 (28 + a1.toNatClampNeg) = 5 then
          some (y1, some (.int (y1 (28 + a1.toNatClampNeg) 3)))
          else
          none)
        else
        none))))) :=
  fn_ev_t (dd := fn_d73) (lo := [(0, .ref 0), (1, .int a1)]) (sp := []) rfl rfl rfl (fc_Net_state (fn_ev 0 (n + 2000) d) (fn_run 0 (fn_ev 0 (n + 2000) d) (fn_lk fn_d73)) (n + 1990) a1 x)
set_option maxRecDepth 20000 in
theorem fc_Net_phase (cf : Nat → List Value → fn_M → Option fn_R) (K : Nat → fn_K) (m : Nat) (a1 : Int32) (x : fn_M) : fn_runc 0 cf (fn_lk fn_d74) [] K (m + 11) 0 [(0, .ref 0), (1, .int a1)] [] x =
  (fn_bi (cf 81 [.int a1] x) (fun y1 v2 =>
    (if v2 = 0 then
    some (y1, some (.int (-1)))
    else
    (if a1 < 0 ∨ 5 ≤ a1.toNatClampNeg then
      none
      else
      (if 1 ≤ a1.toNatClampNeg ∧ a1.toNatClampNeg ≤ 4 then
        (if fn_lc 0 (48 + a1.toNatClampNeg) = 4 then
          some (y1, some (.int (y1 (48 + a1.toNatClampNeg) 2)))
          else
          none)
        else
        none))))) := rfl
theorem ft_Net_phase (n d : Nat) (a1 : Int32) (x : fn_M) : fn_ev 0 (n + 2000) (d + 1) 74 [.ref 0, .int a1] x =
  (fn_bi (fn_ev 0 (n + 2000) d 81 [.int a1] x) (fun y1 v2 =>
    (if v2 = 0 then
    some (y1, some (.int (-1)))
    else
    (if a1 < 0 ∨ 5 ≤ a1.toNatClampNeg then
      none
      else
      (if 1 ≤ a1.toNatClampNeg ∧ a1.toNatClampNeg ≤ 4 then
        (if fn_lc 0 (48 + a1.toNatClampNeg) = 4 then
          some (y1, some (.int (y1 (48 + a1.toNatClampNeg) 2)))
          else
          none)
        else
        none))))) :=
  fn_ev_t (dd := fn_d74) (lo := [(0, .ref 0), (1, .int a1)]) (sp := []) rfl rfl rfl (fc_Net_phase (fn_ev 0 (n + 2000) d) (fn_run 0 (fn_ev 0 (n + 2000) d) (fn_lk fn_d74)) (n + 1989) a1 x)
set_option maxRecDepth 20000 in
theorem fc_Net_client (cf : Nat → List Value → fn_M → Option fn_R) (K : Nat → fn_K) (m : Nat) (a1 : Int32) (x : fn_M) : fn_runc 0 cf (fn_lk fn_d75) [] K (m + 6) 0 [(0, .ref 0), (1, .int a1)] [] x =
  (fn_bi (cf 10 [.ref 46, .int a1] x) (fun y1 v2 =>
    some (y1, some (.int v2)))) := rfl
theorem ft_Net_client (n d : Nat) (a1 : Int32) (x : fn_M) : fn_ev 0 (n + 2000) (d + 1) 75 [.ref 0, .int a1] x =
  (fn_bi (fn_ev 0 (n + 2000) d 10 [.ref 46, .int a1] x) (fun y1 v2 =>
    some (y1, some (.int v2)))) :=
  fn_ev_t (dd := fn_d75) (lo := [(0, .ref 0), (1, .int a1)]) (sp := []) rfl rfl rfl (fc_Net_client (fn_ev 0 (n + 2000) d) (fn_run 0 (fn_ev 0 (n + 2000) d) (fn_lk fn_d75)) (n + 1994) a1 x)
set_option maxRecDepth 20000 in
theorem fc_Net_text (cf : Nat → List Value → fn_M → Option fn_R) (K : Nat → fn_K) (m : Nat) (a1 : Int32) (x : fn_M) : fn_runc 0 cf (fn_lk fn_d76) [] K (m + 6) 0 [(0, .ref 0), (1, .int a1)] [] x =
  (fn_bi (cf 9 [.ref 46, .int a1] x) (fun y1 v2 =>
    some (y1, some (.int v2)))) := rfl
theorem ft_Net_text (n d : Nat) (a1 : Int32) (x : fn_M) : fn_ev 0 (n + 2000) (d + 1) 76 [.ref 0, .int a1] x =
  (fn_bi (fn_ev 0 (n + 2000) d 9 [.ref 46, .int a1] x) (fun y1 v2 =>
    some (y1, some (.int v2)))) :=
  fn_ev_t (dd := fn_d76) (lo := [(0, .ref 0), (1, .int a1)]) (sp := []) rfl rfl rfl (fc_Net_text (fn_ev 0 (n + 2000) d) (fn_run 0 (fn_ev 0 (n + 2000) d) (fn_lk fn_d76)) (n + 1994) a1 x)
set_option maxRecDepth 20000 in
theorem fc_Net_report (cf : Nat → List Value → fn_M → Option fn_R) (K : Nat → fn_K) (m : Nat) (a1 : Int32) (x : fn_M) : fn_runc 0 cf (fn_lk fn_d77) [] K (m + 5) 0 [(0, .ref 0), (1, .int a1)] [] x =
  (fn_bi (cf 13 [.ref 45, .int a1] x) (fun y1 v2 =>
    some (y1, some (.int v2)))) := rfl
theorem ft_Net_report (n d : Nat) (a1 : Int32) (x : fn_M) : fn_ev 0 (n + 2000) (d + 1) 77 [.ref 0, .int a1] x =
  (fn_bi (fn_ev 0 (n + 2000) d 13 [.ref 45, .int a1] x) (fun y1 v2 =>
    some (y1, some (.int v2)))) :=
  fn_ev_t (dd := fn_d77) (lo := [(0, .ref 0), (1, .int a1)]) (sp := []) rfl rfl rfl (fc_Net_report (fn_ev 0 (n + 2000) d) (fn_run 0 (fn_ev 0 (n + 2000) d) (fn_lk fn_d77)) (n + 1995) a1 x)
set_option maxRecDepth 20000 in
theorem fc_Net_bus (cf : Nat → List Value → fn_M → Option fn_R) (K : Nat → fn_K) (m : Nat) (a1 a2 : Int32) (x : fn_M) : fn_runc 0 cf (fn_lk fn_d78) [] K (m + 9) 0 [(0, .ref 0), (1, .int a1), (2, .int a2)] [] x =
  (if a1 = (-1) then
    (fn_bi (cf 60 [.ref 1, .int a2] x) (fun y3 v4 =>
      some (y3, some (.int v4))))
    else
    (fn_bi (cf 59 [.ref 1, .int a1, .int a2] x) (fun y1 v2 =>
      some (y1, some (.int v2))))) := rfl
theorem ft_Net_bus (n d : Nat) (a1 a2 : Int32) (x : fn_M) : fn_ev 0 (n + 2000) (d + 1) 78 [.ref 0, .int a1, .int a2] x =
  (if a1 = (-1) then
    (fn_bi (fn_ev 0 (n + 2000) d 60 [.ref 1, .int a2] x) (fun y3 v4 =>
      some (y3, some (.int v4))))
    else
    (fn_bi (fn_ev 0 (n + 2000) d 59 [.ref 1, .int a1, .int a2] x) (fun y1 v2 =>
      some (y1, some (.int v2))))) :=
  fn_ev_t (dd := fn_d78) (lo := [(0, .ref 0), (1, .int a1), (2, .int a2)]) (sp := []) rfl rfl rfl (fc_Net_bus (fn_ev 0 (n + 2000) d) (fn_run 0 (fn_ev 0 (n + 2000) d) (fn_lk fn_d78)) (n + 1991) a1 a2 x)
set_option maxRecDepth 20000 in
theorem fc_Net_deliver (cf : Nat → List Value → fn_M → Option fn_R) (K : Nat → fn_K) (m : Nat) (p : Nat) (x : fn_M) : fn_runc 0 cf (fn_lk fn_d79) [19, 48] K (m + 83) 0 [(0, .ref 0), (1, .ref p)] [] x =
  (if fn_lc 0 p = 2 then
    (if (x p 0) = 0 then
      K (m + 80) 19 [(0, .ref 0), (1, .ref p)] [] x
      else
      (fn_bv (cf 17 [.ref 45, .ref p, .ref 1] x) (fun y1 =>
        K (m + 74) 19 [(0, .ref 0), (1, .ref p)] [] y1)))
    else
    none) := rfl
theorem ft_Net_deliver (n d : Nat) (p : Nat) (x : fn_M) : fn_ev 0 (n + 2000) (d + 1) 79 [.ref 0, .ref p] x =
  (if fn_lc 0 p = 2 then
    (if (x p 0) = 0 then
      fn_run 0 (fn_ev 0 (n + 2000) d) (fn_lk fn_d79) (n + 1997) 19 [(0, .ref 0), (1, .ref p)] [] x
      else
      (fn_bv (fn_ev 0 (n + 2000) d 17 [.ref 45, .ref p, .ref 1] x) (fun y1 =>
        fn_run 0 (fn_ev 0 (n + 2000) d) (fn_lk fn_d79) (n + 1991) 19 [(0, .ref 0), (1, .ref p)] [] y1)))
    else
    none) :=
  fn_ev_t (dd := fn_d79) (lo := [(0, .ref 0), (1, .ref p)]) (sp := [19, 48]) rfl rfl rfl (fc_Net_deliver (fn_ev 0 (n + 2000) d) (fn_run 0 (fn_ev 0 (n + 2000) d) (fn_lk fn_d79)) (n + 1917) p x)
set_option maxRecDepth 20000 in
theorem fc_Net_deliver_at19 (cf : Nat → List Value → fn_M → Option fn_R) (K : Nat → fn_K) (m : Nat) (r1 : Nat) (x : fn_M) : fn_runc 0 cf (fn_lk fn_d79) [19, 48] K (m + 74) 19 [(0, .ref 0), (1, .ref r1)] [] x =
  (if fn_lc 0 r1 = 2 then
    (if (x r1 0) = 1 then
      K (m + 65) 48 [(0, .ref 0), (1, .ref r1), (2, .int 1)] [] x
      else
      (fn_bv (cf 40 [.ref 29, .ref r1, .ref 1] x) (fun y1 =>
        K (m + 57) 48 [(0, .ref 0), (1, .ref r1), (2, .int 1)] [] y1)))
    else
    none) := rfl
theorem ft_Net_deliver_at19 (n d m : Nat) (r1 : Nat) (x : fn_M) : fn_run 0 (fn_ev 0 (n + 2000) d) (fn_lk fn_d79) (m + 74) 19 [(0, .ref 0), (1, .ref r1)] [] x =
  (if fn_lc 0 r1 = 2 then
    (if (x r1 0) = 1 then
      fn_run 0 (fn_ev 0 (n + 2000) d) (fn_lk fn_d79) (m + 65) 48 [(0, .ref 0), (1, .ref r1), (2, .int 1)] [] x
      else
      (fn_bv (fn_ev 0 (n + 2000) d 40 [.ref 29, .ref r1, .ref 1] x) (fun y1 =>
        fn_run 0 (fn_ev 0 (n + 2000) d) (fn_lk fn_d79) (m + 57) 48 [(0, .ref 0), (1, .ref r1), (2, .int 1)] [] y1)))
    else
    none) :=
  (fn_runc_eq 0 (fn_ev 0 (n + 2000) d) (fn_lk fn_d79) [19, 48] (m + 74) 19 [(0, .ref 0), (1, .ref r1)] [] x).trans (fc_Net_deliver_at19 (fn_ev 0 (n + 2000) d) (fn_run 0 (fn_ev 0 (n + 2000) d) (fn_lk fn_d79)) m r1 x)
set_option maxRecDepth 20000 in
theorem fc_Net_deliver_at48_1 (cf : Nat → List Value → fn_M → Option fn_R) (K : Nat → fn_K) (m : Nat) (r1 : Nat) (x : fn_M) : fn_runc 0 cf (fn_lk fn_d79) [19, 48] K (m + 57) 48 [(0, .ref 0), (1, .ref r1), (2, .int 1)] [] x =
  (if fn_lc 0 r1 = 2 then
    (if (x r1 0) = 2 then
      K (m + 48) 48 [(0, .ref 0), (1, .ref r1), (2, .int 2)] [] x
      else
      (fn_bv (cf 40 [.ref 30, .ref r1, .ref 1] x) (fun y1 =>
        K (m + 40) 48 [(0, .ref 0), (1, .ref r1), (2, .int 2)] [] y1)))
    else
    none) := rfl
theorem ft_Net_deliver_at48_1 (n d m : Nat) (r1 : Nat) (x : fn_M) : fn_run 0 (fn_ev 0 (n + 2000) d) (fn_lk fn_d79) (m + 57) 48 [(0, .ref 0), (1, .ref r1), (2, .int 1)] [] x =
  (if fn_lc 0 r1 = 2 then
    (if (x r1 0) = 2 then
      fn_run 0 (fn_ev 0 (n + 2000) d) (fn_lk fn_d79) (m + 48) 48 [(0, .ref 0), (1, .ref r1), (2, .int 2)] [] x
      else
      (fn_bv (fn_ev 0 (n + 2000) d 40 [.ref 30, .ref r1, .ref 1] x) (fun y1 =>
        fn_run 0 (fn_ev 0 (n + 2000) d) (fn_lk fn_d79) (m + 40) 48 [(0, .ref 0), (1, .ref r1), (2, .int 2)] [] y1)))
    else
    none) :=
  (fn_runc_eq 0 (fn_ev 0 (n + 2000) d) (fn_lk fn_d79) [19, 48] (m + 57) 48 [(0, .ref 0), (1, .ref r1), (2, .int 1)] [] x).trans (fc_Net_deliver_at48_1 (fn_ev 0 (n + 2000) d) (fn_run 0 (fn_ev 0 (n + 2000) d) (fn_lk fn_d79)) m r1 x)
set_option maxRecDepth 20000 in
theorem fc_Net_deliver_at48_2 (cf : Nat → List Value → fn_M → Option fn_R) (K : Nat → fn_K) (m : Nat) (r1 : Nat) (x : fn_M) : fn_runc 0 cf (fn_lk fn_d79) [19, 48] K (m + 40) 48 [(0, .ref 0), (1, .ref r1), (2, .int 2)] [] x =
  (if fn_lc 0 r1 = 2 then
    (if (x r1 0) = 3 then
      K (m + 31) 48 [(0, .ref 0), (1, .ref r1), (2, .int 3)] [] x
      else
      (fn_bv (cf 40 [.ref 31, .ref r1, .ref 1] x) (fun y1 =>
        K (m + 23) 48 [(0, .ref 0), (1, .ref r1), (2, .int 3)] [] y1)))
    else
    none) := rfl
theorem ft_Net_deliver_at48_2 (n d m : Nat) (r1 : Nat) (x : fn_M) : fn_run 0 (fn_ev 0 (n + 2000) d) (fn_lk fn_d79) (m + 40) 48 [(0, .ref 0), (1, .ref r1), (2, .int 2)] [] x =
  (if fn_lc 0 r1 = 2 then
    (if (x r1 0) = 3 then
      fn_run 0 (fn_ev 0 (n + 2000) d) (fn_lk fn_d79) (m + 31) 48 [(0, .ref 0), (1, .ref r1), (2, .int 3)] [] x
      else
      (fn_bv (fn_ev 0 (n + 2000) d 40 [.ref 31, .ref r1, .ref 1] x) (fun y1 =>
        fn_run 0 (fn_ev 0 (n + 2000) d) (fn_lk fn_d79) (m + 23) 48 [(0, .ref 0), (1, .ref r1), (2, .int 3)] [] y1)))
    else
    none) :=
  (fn_runc_eq 0 (fn_ev 0 (n + 2000) d) (fn_lk fn_d79) [19, 48] (m + 40) 48 [(0, .ref 0), (1, .ref r1), (2, .int 2)] [] x).trans (fc_Net_deliver_at48_2 (fn_ev 0 (n + 2000) d) (fn_run 0 (fn_ev 0 (n + 2000) d) (fn_lk fn_d79)) m r1 x)
set_option maxRecDepth 20000 in
theorem fc_Net_deliver_at48_3 (cf : Nat → List Value → fn_M → Option fn_R) (K : Nat → fn_K) (m : Nat) (r1 : Nat) (x : fn_M) : fn_runc 0 cf (fn_lk fn_d79) [19, 48] K (m + 23) 48 [(0, .ref 0), (1, .ref r1), (2, .int 3)] [] x =
  (if fn_lc 0 r1 = 2 then
    (if (x r1 0) = 4 then
      K (m + 14) 48 [(0, .ref 0), (1, .ref r1), (2, .int 4)] [] x
      else
      (fn_bv (cf 40 [.ref 32, .ref r1, .ref 1] x) (fun y1 =>
        K (m + 6) 48 [(0, .ref 0), (1, .ref r1), (2, .int 4)] [] y1)))
    else
    none) := rfl
theorem ft_Net_deliver_at48_3 (n d m : Nat) (r1 : Nat) (x : fn_M) : fn_run 0 (fn_ev 0 (n + 2000) d) (fn_lk fn_d79) (m + 23) 48 [(0, .ref 0), (1, .ref r1), (2, .int 3)] [] x =
  (if fn_lc 0 r1 = 2 then
    (if (x r1 0) = 4 then
      fn_run 0 (fn_ev 0 (n + 2000) d) (fn_lk fn_d79) (m + 14) 48 [(0, .ref 0), (1, .ref r1), (2, .int 4)] [] x
      else
      (fn_bv (fn_ev 0 (n + 2000) d 40 [.ref 32, .ref r1, .ref 1] x) (fun y1 =>
        fn_run 0 (fn_ev 0 (n + 2000) d) (fn_lk fn_d79) (m + 6) 48 [(0, .ref 0), (1, .ref r1), (2, .int 4)] [] y1)))
    else
    none) :=
  (fn_runc_eq 0 (fn_ev 0 (n + 2000) d) (fn_lk fn_d79) [19, 48] (m + 23) 48 [(0, .ref 0), (1, .ref r1), (2, .int 3)] [] x).trans (fc_Net_deliver_at48_3 (fn_ev 0 (n + 2000) d) (fn_run 0 (fn_ev 0 (n + 2000) d) (fn_lk fn_d79)) m r1 x)
set_option maxRecDepth 20000 in
theorem fc_Net_deliver_at48_4 (cf : Nat → List Value → fn_M → Option fn_R) (K : Nat → fn_K) (m : Nat) (r1 : Nat) (x : fn_M) : fn_runc 0 cf (fn_lk fn_d79) [19, 48] K (m + 6) 48 [(0, .ref 0), (1, .ref r1), (2, .int 4)] [] x =
  some (x, none) := rfl
theorem ft_Net_deliver_at48_4 (n d m : Nat) (r1 : Nat) (x : fn_M) : fn_run 0 (fn_ev 0 (n + 2000) d) (fn_lk fn_d79) (m + 6) 48 [(0, .ref 0), (1, .ref r1), (2, .int 4)] [] x =
  some (x, none) :=
  (fn_runc_eq 0 (fn_ev 0 (n + 2000) d) (fn_lk fn_d79) [19, 48] (m + 6) 48 [(0, .ref 0), (1, .ref r1), (2, .int 4)] [] x).trans (fc_Net_deliver_at48_4 (fn_ev 0 (n + 2000) d) (fn_run 0 (fn_ev 0 (n + 2000) d) (fn_lk fn_d79)) m r1 x)
set_option maxRecDepth 20000 in
theorem fc_Net_isWithin (cf : Nat → List Value → fn_M → Option fn_R) (K : Nat → fn_K) (m : Nat) (a1 a2 a3 : Int32) (x : fn_M) : fn_runc 0 cf (fn_lk fn_d80) [] K (m + 9) 0 [(0, .int a1), (1, .int a2), (2, .int a3)] [] x =
  (if a1 < a2 then
    some (x, some (.int 0))
    else
    (if a3 < a1 then
      some (x, some (.int 0))
      else
      some (x, some (.int 1)))) := rfl
theorem ft_Net_isWithin (n d : Nat) (a1 a2 a3 : Int32) (x : fn_M) : fn_ev 0 (n + 2000) (d + 1) 80 [.int a1, .int a2, .int a3] x =
  (if a1 < a2 then
    some (x, some (.int 0))
    else
    (if a3 < a1 then
      some (x, some (.int 0))
      else
      some (x, some (.int 1)))) :=
  fn_ev_t (dd := fn_d80) (lo := [(0, .int a1), (1, .int a2), (2, .int a3)]) (sp := []) rfl rfl rfl (fc_Net_isWithin (fn_ev 0 (n + 2000) d) (fn_run 0 (fn_ev 0 (n + 2000) d) (fn_lk fn_d80)) (n + 1991) a1 a2 a3 x)
set_option maxRecDepth 20000 in
theorem fc_Net_isNode (cf : Nat → List Value → fn_M → Option fn_R) (K : Nat → fn_K) (m : Nat) (a1 : Int32) (x : fn_M) : fn_runc 0 cf (fn_lk fn_d81) [] K (m + 9) 0 [(0, .int a1)] [] x =
  (if a1 < 1 then
    some (x, some (.int 0))
    else
    (if 4 < a1 then
      some (x, some (.int 0))
      else
      some (x, some (.int 1)))) := rfl
theorem ft_Net_isNode (n d : Nat) (a1 : Int32) (x : fn_M) : fn_ev 0 (n + 2000) (d + 1) 81 [.int a1] x =
  (if a1 < 1 then
    some (x, some (.int 0))
    else
    (if 4 < a1 then
      some (x, some (.int 0))
      else
      some (x, some (.int 1)))) :=
  fn_ev_t (dd := fn_d81) (lo := [(0, .int a1)]) (sp := []) rfl rfl rfl (fc_Net_isNode (fn_ev 0 (n + 2000) d) (fn_run 0 (fn_ev 0 (n + 2000) d) (fn_lk fn_d81)) (n + 1991) a1 x)
set_option maxRecDepth 20000 in
theorem fc_Net_isInput (cf : Nat → List Value → fn_M → Option fn_R) (K : Nat → fn_K) (m : Nat) (a1 : Int32) (x : fn_M) : fn_runc 0 cf (fn_lk fn_d82) [] K (m + 9) 0 [(0, .int a1)] [] x =
  (if a1 < 8 then
    some (x, some (.int 0))
    else
    (if 11 < a1 then
      some (x, some (.int 0))
      else
      some (x, some (.int 1)))) := rfl
theorem ft_Net_isInput (n d : Nat) (a1 : Int32) (x : fn_M) : fn_ev 0 (n + 2000) (d + 1) 82 [.int a1] x =
  (if a1 < 8 then
    some (x, some (.int 0))
    else
    (if 11 < a1 then
      some (x, some (.int 0))
      else
      some (x, some (.int 1)))) :=
  fn_ev_t (dd := fn_d82) (lo := [(0, .int a1)]) (sp := []) rfl rfl rfl (fc_Net_isInput (fn_ev 0 (n + 2000) d) (fn_run 0 (fn_ev 0 (n + 2000) d) (fn_lk fn_d82)) (n + 1991) a1 x)
set_option maxRecDepth 20000 in
theorem fc_Net_isOutput (cf : Nat → List Value → fn_M → Option fn_R) (K : Nat → fn_K) (m : Nat) (a1 : Int32) (x : fn_M) : fn_runc 0 cf (fn_lk fn_d83) [] K (m + 9) 0 [(0, .int a1)] [] x =
  (if a1 < 12 then
    some (x, some (.int 0))
    else
    (if 15 < a1 then
      some (x, some (.int 0))
      else
      some (x, some (.int 1)))) := rfl
theorem ft_Net_isOutput (n d : Nat) (a1 : Int32) (x : fn_M) : fn_ev 0 (n + 2000) (d + 1) 83 [.int a1] x =
  (if a1 < 12 then
    some (x, some (.int 0))
    else
    (if 15 < a1 then
      some (x, some (.int 0))
      else
      some (x, some (.int 1)))) :=
  fn_ev_t (dd := fn_d83) (lo := [(0, .int a1)]) (sp := []) rfl rfl rfl (fc_Net_isOutput (fn_ev 0 (n + 2000) d) (fn_run 0 (fn_ev 0 (n + 2000) d) (fn_lk fn_d83)) (n + 1991) a1 x)
