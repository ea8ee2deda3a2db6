set_option maxRecDepth 20000 in
theorem fc_Model_remove (cf : Nat → List Value → fn_M → Option fn_R) (K : Nat → fn_K) (m : Nat) (a1 : Int32) (x : fn_M) : fn_runc 1 cf (fn_lk fn_d88) [12] K (m + 8) 0 [(0, .ref 0), (1, .int a1)] [] x =
  K (m + 0) 12 [(0, .ref 0), (1, .int a1), (2, .int a1)] [] (fn_w x 0 10 ((x 0 10) - 1)) := rfl
theorem ft_Model_remove (n d : Nat) (a1 : Int32) (x : fn_M) : fn_ev 1 (n + 2000) (d + 1) 88 [.ref 0, .int a1] x =
  fn_run 1 (fn_ev 1 (n + 2000) d) (fn_lk fn_d88) (n + 1992) 12 [(0, .ref 0), (1, .int a1), (2, .int a1)] [] (fn_w x 0 10 ((x 0 10) - 1)) :=
  fn_ev_t (dd := fn_d88) (lo := [(0, .ref 0), (1, .int a1)]) (sp := [12]) rfl rfl rfl (fc_Model_remove (fn_ev 1 (n + 2000) d) (fn_run 1 (fn_ev 1 (n + 2000) d) (fn_lk fn_d88)) (n + 1992) a1 x)
set_option maxRecDepth 20000 in
theorem fc_Model_remove_at12 (cf : Nat → List Value → fn_M → Option fn_R) (K : Nat → fn_K) (m : Nat) (l1 l2 : Int32) (x : fn_M) : fn_runc 1 cf (fn_lk fn_d88) [12] K (m + 56) 12 [(0, .ref 0), (1, .int l1), (2, .int l2)] [] x =
  (if (x 0 10) ≤ l2 then
    some (x, none)
    else
    (if (l2 + 1) < 0 ∨ 24 ≤ (l2 + 1).toNatClampNeg then
      none
      else
      (if l2 < 0 ∨ 24 ≤ l2.toNatClampNeg then
        none
        else
        (if (l2 + 1) < 0 ∨ 24 ≤ (l2 + 1).toNatClampNeg then
          none
          else
          (if l2 < 0 ∨ 24 ≤ l2.toNatClampNeg then
            none
            else
            (if (l2 + 1) < 0 ∨ 24 ≤ (l2 + 1).toNatClampNeg then
              none
              else
              (if l2 < 0 ∨ 24 ≤ l2.toNatClampNeg then
                none
                else
                (if (l2 + 1) < 0 ∨ 24 ≤ (l2 + 1).toNatClampNeg then
                  none
                  else
                  (if l2 < 0 ∨ 24 ≤ l2.toNatClampNeg then
                    none
                    else
                    (if (l2 + 1) < 0 ∨ 24 ≤ (l2 + 1).toNatClampNeg then
                      none
                      else
                      (if l2 < 0 ∨ 24 ≤ l2.toNatClampNeg then
                        none
                        else
                        K (m + 0) 12 [(0, .ref 0), (1, .int l1), (2, .int (l2 + 1))] [] (fn_w (fn_w (fn_w (fn_w (fn_w x 10 l2.toNatClampNeg (x 10 (l2 + 1).toNatClampNeg)) 11 l2.toNatClampNeg (x 11 (l2 + 1).toNatClampNeg)) 12 l2.toNatClampNeg (x 12 (l2 + 1).toNatClampNeg)) 13 l2.toNatClampNeg (x 13 (l2 + 1).toNatClampNeg)) 14 l2.toNatClampNeg (x 14 (l2 + 1).toNatClampNeg))))))))))))) := rfl
theorem ft_Model_remove_at12 (n d m : Nat) (l1 l2 : Int32) (x : fn_M) : fn_run 1 (fn_ev 1 (n + 2000) d) (fn_lk fn_d88) (m + 56) 12 [(0, .ref 0), (1, .int l1), (2, .int l2)] [] x =
  (if (x 0 10) ≤ l2 then
    some (x, none)
    else
    (if (l2 + 1) < 0 ∨ 24 ≤ (l2 + 1).toNatClampNeg then
      none
      else
      (if l2 < 0 ∨ 24 ≤ l2.toNatClampNeg then
        none
        else
        (if (l2 + 1) < 0 ∨ 24 ≤ (l2 + 1).toNatClampNeg then
          none
          else
          (if l2 < 0 ∨ 24 ≤ l2.toNatClampNeg then
            none
            else
            (if (l2 + 1) < 0 ∨ 24 ≤ (l2 + 1).toNatClampNeg then
              none
              else
              (if l2 < 0 ∨ 24 ≤ l2.toNatClampNeg then
                none
                else
                (if (l2 + 1) < 0 ∨ 24 ≤ (l2 + 1).toNatClampNeg then
                  none
                  else
                  (if l2 < 0 ∨ 24 ≤ l2.toNatClampNeg then
                    none
                    else
                    (if (l2 + 1) < 0 ∨ 24 ≤ (l2 + 1).toNatClampNeg then
                      none
                      else
                      (if l2 < 0 ∨ 24 ≤ l2.toNatClampNeg then
                        none
                        else
                        fn_run 1 (fn_ev 1 (n + 2000) d) (fn_lk fn_d88) (m + 0) 12 [(0, .ref 0), (1, .int l1), (2, .int (l2 + 1))] [] (fn_w (fn_w (fn_w (fn_w (fn_w x 10 l2.toNatClampNeg (x 10 (l2 + 1).toNatClampNeg)) 11 l2.toNatClampNeg (x 11 (l2 + 1).toNatClampNeg)) 12 l2.toNatClampNeg (x 12 (l2 + 1).toNatClampNeg)) 13 l2.toNatClampNeg (x 13 (l2 + 1).toNatClampNeg)) 14 l2.toNatClampNeg (x 14 (l2 + 1).toNatClampNeg))))))))))))) :=
  (fn_runc_eq 1 (fn_ev 1 (n + 2000) d) (fn_lk fn_d88) [12] (m + 56) 12 [(0, .ref 0), (1, .int l1), (2, .int l2)] [] x).trans (fc_Model_remove_at12 (fn_ev 1 (n + 2000) d) (fn_run 1 (fn_ev 1 (n + 2000) d) (fn_lk fn_d88)) m l1 l2 x)
set_option maxRecDepth 20000 in
theorem fc_Model_reset (cf : Nat → List Value → fn_M → Option fn_R) (K : Nat → fn_K) (m : Nat) (a1 : Int32) (x : fn_M) : fn_runc 1 cf (fn_lk fn_d91) [2] K (m + 261) 0 [(0, .ref 0), (1, .int a1)] [] x =
  K (m + 259) 2 [(0, .ref 0), (1, .int a1), (2, .int 1)] [] x := rfl
theorem ft_Model_reset (n d : Nat) (a1 : Int32) (x : fn_M) : fn_ev 1 (n + 2000) (d + 1) 91 [.ref 0, .int a1] x =
  fn_run 1 (fn_ev 1 (n + 2000) d) (fn_lk fn_d91) (n + 1998) 2 [(0, .ref 0), (1, .int a1), (2, .int 1)] [] x :=
  fn_ev_t (dd := fn_d91) (lo := [(0, .ref 0), (1, .int a1)]) (sp := [2]) rfl rfl rfl (fc_Model_reset (fn_ev 1 (n + 2000) d) (fn_run 1 (fn_ev 1 (n + 2000) d) (fn_lk fn_d91)) (n + 1739) a1 x)
set_option maxRecDepth 20000 in
theorem fc_Model_reset_at2_1 (cf : Nat → List Value → fn_M → Option fn_R) (K : Nat → fn_K) (m : Nat) (l1 : Int32) (x : fn_M) : fn_runc 1 cf (fn_lk fn_d91) [2] K (m + 259) 2 [(0, .ref 0), (1, .int l1), (2, .int 1)] [] x =
  (if ((16 * l1) + 1) < 0 ∨ 80 ≤ ((16 * l1) + 1).toNatClampNeg then
    none
    else
    K (m + 245) 2 [(0, .ref 0), (1, .int l1), (2, .int 2)] [] (fn_w x 2 ((16 * l1) + 1).toNatClampNeg 0)) := rfl
theorem ft_Model_reset_at2_1 (n d m : Nat) (l1 : Int32) (x : fn_M) : fn_run 1 (fn_ev 1 (n + 2000) d) (fn_lk fn_d91) (m + 259) 2 [(0, .ref 0), (1, .int l1), (2, .int 1)] [] x =
  (if ((16 * l1) + 1) < 0 ∨ 80 ≤ ((16 * l1) + 1).toNatClampNeg then
    none
    else
    fn_run 1 (fn_ev 1 (n + 2000) d) (fn_lk fn_d91) (m + 245) 2 [(0, .ref 0), (1, .int l1), (2, .int 2)] [] (fn_w x 2 ((16 * l1) + 1).toNatClampNeg 0)) :=
  (fn_runc_eq 1 (fn_ev 1 (n + 2000) d) (fn_lk fn_d91) [2] (m + 259) 2 [(0, .ref 0), (1, .int l1), (2, .int 1)] [] x).trans (fc_Model_reset_at2_1 (fn_ev 1 (n + 2000) d) (fn_run 1 (fn_ev 1 (n + 2000) d) (fn_lk fn_d91)) m l1 x)
set_option maxRecDepth 20000 in
theorem fc_Model_reset_at2_2 (cf : Nat → List Value → fn_M → Option fn_R) (K : Nat → fn_K) (m : Nat) (l1 : Int32) (x : fn_M) : fn_runc 1 cf (fn_lk fn_d91) [2] K (m + 245) 2 [(0, .ref 0), (1, .int l1), (2, .int 2)] [] x =
  (if ((16 * l1) + 2) < 0 ∨ 80 ≤ ((16 * l1) + 2).toNatClampNeg then
    none
    else
    K (m + 231) 2 [(0, .ref 0), (1, .int l1), (2, .int 3)] [] (fn_w x 2 ((16 * l1) + 2).toNatClampNeg 0)) := rfl
theorem ft_Model_reset_at2_2 (n d m : Nat) (l1 : Int32) (x : fn_M) : fn_run 1 (fn_ev 1 (n + 2000) d) (fn_lk fn_d91) (m + 245) 2 [(0, .ref 0), (1, .int l1), (2, .int 2)] [] x =
  (if ((16 * l1) + 2) < 0 ∨ 80 ≤ ((16 * l1) + 2).toNatClampNeg then
    none
    else
    fn_run 1 (fn_ev 1 (n + 2000) d) (fn_lk fn_d91) (m + 231) 2 [(0, .ref 0), (1, .int l1), (2, .int 3)] [] (fn_w x 2 ((16 * l1) + 2).toNatClampNeg 0)) :=
  (fn_runc_eq 1 (fn_ev 1 (n + 2000) d) (fn_lk fn_d91) [2] (m + 245) 2 [(0, .ref 0), (1, .int l1), (2, .int 2)] [] x).trans (fc_Model_reset_at2_2 (fn_ev 1 (n + 2000) d) (fn_run 1 (fn_ev 1 (n + 2000) d) (fn_lk fn_d91)) m l1 x)
set_option maxRecDepth 20000 in
theorem fc_Model_reset_at2_3 (cf : Nat → List Value → fn_M → Option fn_R) (K : Nat → fn_K) (m : Nat) (l1 : Int32) (x : fn_M) : fn_runc 1 cf (fn_lk fn_d91) [2] K (m + 231) 2 [(0, .ref 0), (1, .int l1), (2, .int 3)] [] x =
  (if ((16 * l1) + 3) < 0 ∨ 80 ≤ ((16 * l1) + 3).toNatClampNeg then
    none
    else
    K (m + 217) 2 [(0, .ref 0), (1, .int l1), (2, .int 4)] [] (fn_w x 2 ((16 * l1) + 3).toNatClampNeg 0)) := rfl
theorem ft_Model_reset_at2_3 (n d m : Nat) (l1 : Int32) (x : fn_M) : fn_run 1 (fn_ev 1 (n + 2000) d) (fn_lk fn_d91) (m + 231) 2 [(0, .ref 0), (1, .int l1), (2, .int 3)] [] x =
  (if ((16 * l1) + 3) < 0 ∨ 80 ≤ ((16 * l1) + 3).toNatClampNeg then
    none
    else
    fn_run 1 (fn_ev 1 (n + 2000) d) (fn_lk fn_d91) (m + 217) 2 [(0, .ref 0), (1, .int l1), (2, .int 4)] [] (fn_w x 2 ((16 * l1) + 3).toNatClampNeg 0)) :=
  (fn_runc_eq 1 (fn_ev 1 (n + 2000) d) (fn_lk fn_d91) [2] (m + 231) 2 [(0, .ref 0), (1, .int l1), (2, .int 3)] [] x).trans (fc_Model_reset_at2_3 (fn_ev 1 (n + 2000) d) (fn_run 1 (fn_ev 1 (n + 2000) d) (fn_lk fn_d91)) m l1 x)
set_option maxRecDepth 20000 in
theorem fc_Model_reset_at2_4 (cf : Nat → List Value → fn_M → Option fn_R) (K : Nat → fn_K) (m : Nat) (l1 : Int32) (x : fn_M) : fn_runc 1 cf (fn_lk fn_d91) [2] K (m + 217) 2 [(0, .ref 0), (1, .int l1), (2, .int 4)] [] x =
  (if ((16 * l1) + 4) < 0 ∨ 80 ≤ ((16 * l1) + 4).toNatClampNeg then
    none
    else
    K (m + 203) 2 [(0, .ref 0), (1, .int l1), (2, .int 5)] [] (fn_w x 2 ((16 * l1) + 4).toNatClampNeg 0)) := rfl
theorem ft_Model_reset_at2_4 (n d m : Nat) (l1 : Int32) (x : fn_M) : fn_run 1 (fn_ev 1 (n + 2000) d) (fn_lk fn_d91) (m + 217) 2 [(0, .ref 0), (1, .int l1), (2, .int 4)] [] x =
  (if ((16 * l1) + 4) < 0 ∨ 80 ≤ ((16 * l1) + 4).toNatClampNeg then
    none
    else
    fn_run 1 (fn_ev 1 (n + 2000) d) (fn_lk fn_d91) (m + 203) 2 [(0, .ref 0), (1, .int l1), (2, .int 5)] [] (fn_w x 2 ((16 * l1) + 4).toNatClampNeg 0)) :=
  (fn_runc_eq 1 (fn_ev 1 (n + 2000) d) (fn_lk fn_d91) [2] (m + 217) 2 [(0, .ref 0), (1, .int l1), (2, .int 4)] [] x).trans (fc_Model_reset_at2_4 (fn_ev 1 (n + 2000) d) (fn_run 1 (fn_ev 1 (n + 2000) d) (fn_lk fn_d91)) m l1 x)
set_option maxRecDepth 20000 in
theorem fc_Model_reset_at2_5 (cf : Nat → List Value → fn_M → Option fn_R) (K : Nat → fn_K) (m : Nat) (l1 : Int32) (x : fn_M) : fn_runc 1 cf (fn_lk fn_d91) [2] K (m + 203) 2 [(0, .ref 0), (1, .int l1), (2, .int 5)] [] x =
  (if ((16 * l1) + 5) < 0 ∨ 80 ≤ ((16 * l1) + 5).toNatClampNeg then
    none
    else
    K (m + 189) 2 [(0, .ref 0), (1, .int l1), (2, .int 6)] [] (fn_w x 2 ((16 * l1) + 5).toNatClampNeg 0)) := rfl
theorem ft_Model_reset_at2_5 (n d m : Nat) (l1 : Int32) (x : fn_M) : fn_run 1 (fn_ev 1 (n + 2000) d) (fn_lk fn_d91) (m + 203) 2 [(0, .ref 0), (1, .int l1), (2, .int 5)] [] x =
  (if ((16 * l1) + 5) < 0 ∨ 80 ≤ ((16 * l1) + 5).toNatClampNeg then
    none
    else
    fn_run 1 (fn_ev 1 (n + 2000) d) (fn_lk fn_d91) (m + 189) 2 [(0, .ref 0), (1, .int l1), (2, .int 6)] [] (fn_w x 2 ((16 * l1) + 5).toNatClampNeg 0)) :=
  (fn_runc_eq 1 (fn_ev 1 (n + 2000) d) (fn_lk fn_d91) [2] (m + 203) 2 [(0, .ref 0), (1, .int l1), (2, .int 5)] [] x).trans (fc_Model_reset_at2_5 (fn_ev 1 (n + 2000) d) (fn_run 1 (fn_ev 1 (n + 2000) d) (fn_lk fn_d91)) m l1 x)
set_option maxRecDepth 20000 in
theorem fc_Model_reset_at2_6 (cf : Nat → List Value → fn_M → Option fn_R) (K : Nat → fn_K) (m : Nat) (l1 : Int32) (x : fn_M) : fn_runc 1 cf (fn_lk fn_d91) [2] K (m + 189) 2 [(0, .ref 0), (1, .int l1), (2, .int 6)] [] x =
  (if ((16 * l1) + 6) < 0 ∨ 80 ≤ ((16 * l1) + 6).toNatClampNeg then
    none
    else
    K (m + 175) 2 [(0, .ref 0), (1, .int l1), (2, .int 7)] [] (fn_w x 2 ((16 * l1) + 6).toNatClampNeg 0)) := rfl
theorem ft_Model_reset_at2_6 (n d m : Nat) (l1 : Int32) (x : fn_M) : fn_run 1 (fn_ev 1 (n + 2000) d) (fn_lk fn_d91) (m + 189) 2 [(0, .ref 0), (1, .int l1), (2, .int 6)] [] x =
  (if ((16 * l1) + 6) < 0 ∨ 80 ≤ ((16 * l1) + 6).toNatClampNeg then
    none
    else
    fn_run 1 (fn_ev 1 (n + 2000) d) (fn_lk fn_d91) (m + 175) 2 [(0, .ref 0), (1, .int l1), (2, .int 7)] [] (fn_w x 2 ((16 * l1) + 6).toNatClampNeg 0)) :=
  (fn_runc_eq 1 (fn_ev 1 (n + 2000) d) (fn_lk fn_d91) [2] (m + 189) 2 [(0, .ref 0), (1, .int l1), (2, .int 6)] [] x).trans (fc_Model_reset_at2_6 (fn_ev 1 (n + 2000) d) (fn_run 1 (fn_ev 1 (n + 2000) d) (fn_lk fn_d91)) m l1 x)
set_option maxRecDepth 20000 in
theorem fc_Model_reset_at2_7 (cf : Nat → List Value → fn_M → Option fn_R) (K : Nat → fn_K) (m : Nat) (l1 : Int32) (x : fn_M) : fn_runc 1 cf (fn_lk fn_d91) [2] K (m + 175) 2 [(0, .ref 0), (1, .int l1), (2, .int 7)] [] x =
  (if ((16 * l1) + 7) < 0 ∨ 80 ≤ ((16 * l1) + 7).toNatClampNeg then
    none
    else
    K (m + 161) 2 [(0, .ref 0), (1, .int l1), (2, .int 8)] [] (fn_w x 2 ((16 * l1) + 7).toNatClampNeg 0)) := rfl
theorem ft_Model_reset_at2_7 (n d m : Nat) (l1 : Int32) (x : fn_M) : fn_run 1 (fn_ev 1 (n + 2000) d) (fn_lk fn_d91) (m + 175) 2 [(0, .ref 0), (1, .int l1), (2, .int 7)] [] x =
  (if ((16 * l1) + 7) < 0 ∨ 80 ≤ ((16 * l1) + 7).toNatClampNeg then
    none
    else
    fn_run 1 (fn_ev 1 (n + 2000) d) (fn_lk fn_d91) (m + 161) 2 [(0, .ref 0), (1, .int l1), (2, .int 8)] [] (fn_w x 2 ((16 * l1) + 7).toNatClampNeg 0)) :=
  (fn_runc_eq 1 (fn_ev 1 (n + 2000) d) (fn_lk fn_d91) [2] (m + 175) 2 [(0, .ref 0), (1, .int l1), (2, .int 7)] [] x).trans (fc_Model_reset_at2_7 (fn_ev 1 (n + 2000) d) (fn_run 1 (fn_ev 1 (n + 2000) d) (fn_lk fn_d91)) m l1 x)
set_option maxRecDepth 20000 in
theorem fc_Model_reset_at2_8 (cf : Nat → List Value → fn_M → Option fn_R) (K : Nat → fn_K) (m : Nat) (l1 : Int32) (x : fn_M) : fn_runc 1 cf (fn_lk fn_d91) [2] K (m + 161) 2 [(0, .ref 0), (1, .int l1), (2, .int 8)] [] x =
  (if ((16 * l1) + 8) < 0 ∨ 80 ≤ ((16 * l1) + 8).toNatClampNeg then
    none
    else
    K (m + 147) 2 [(0, .ref 0), (1, .int l1), (2, .int 9)] [] (fn_w x 2 ((16 * l1) + 8).toNatClampNeg 0)) := rfl
theorem ft_Model_reset_at2_8 (n d m : Nat) (l1 : Int32) (x : fn_M) : fn_run 1 (fn_ev 1 (n + 2000) d) (fn_lk fn_d91) (m + 161) 2 [(0, .ref 0), (1, .int l1), (2, .int 8)] [] x =
  (if ((16 * l1) + 8) < 0 ∨ 80 ≤ ((16 * l1) + 8).toNatClampNeg then
    none
    else
    fn_run 1 (fn_ev 1 (n + 2000) d) (fn_lk fn_d91) (m + 147) 2 [(0, .ref 0), (1, .int l1), (2, .int 9)] [] (fn_w x 2 ((16 * l1) + 8).toNatClampNeg 0)) :=
  (fn_runc_eq 1 (fn_ev 1 (n + 2000) d) (fn_lk fn_d91) [2] (m + 161) 2 [(0, .ref 0), (1, .int l1), (2, .int 8)] [] x).trans (fc_Model_reset_at2_8 (fn_ev 1 (n + 2000) d) (fn_run 1 (fn_ev 1 (n + 2000) d) (fn_lk fn_d91)) m l1 x)
set_option maxRecDepth 20000 in
theorem fc_Model_reset_at2_9 (cf : Nat → List Value → fn_M → Option fn_R) (K : Nat → fn_K) (m : Nat) (l1 : Int32) (x : fn_M) : fn_runc 1 cf (fn_lk fn_d91) [2] K (m + 147) 2 [(0, .ref 0), (1, .int l1), (2, .int 9)] [] x =
  (if ((16 * l1) + 9) < 0 ∨ 80 ≤ ((16 * l1) + 9).toNatClampNeg then
    none
    else
    K (m + 133) 2 [(0, .ref 0), (1, .int l1), (2, .int 10)] [] (fn_w x 2 ((16 * l1) + 9).toNatClampNeg 0)) := rfl
theorem ft_Model_reset_at2_9 (n d m : Nat) (l1 : Int32) (x : fn_M) : fn_run 1 (fn_ev 1 (n + 2000) d) (fn_lk fn_d91) (m + 147) 2 [(0, .ref 0), (1, .int l1), (2, .int 9)] [] x =
  (if ((16 * l1) + 9) < 0 ∨ 80 ≤ ((16 * l1) + 9).toNatClampNeg then
    none
    else
    fn_run 1 (fn_ev 1 (n + 2000) d) (fn_lk fn_d91) (m + 133) 2 [(0, .ref 0), (1, .int l1), (2, .int 10)] [] (fn_w x 2 ((16 * l1) + 9).toNatClampNeg 0)) :=
  (fn_runc_eq 1 (fn_ev 1 (n + 2000) d) (fn_lk fn_d91) [2] (m + 147) 2 [(0, .ref 0), (1, .int l1), (2, .int 9)] [] x).trans (fc_Model_reset_at2_9 (fn_ev 1 (n + 2000) d) (fn_run 1 (fn_ev 1 (n + 2000) d) (fn_lk fn_d91)) m l1 x)
set_option maxRecDepth 20000 in
theorem fc_Model_reset_at2_10 (cf : Nat → List Value → fn_M → Option fn_R) (K : Nat → fn_K) (m : Nat) (l1 : Int32) (x : fn_M) : fn_runc 1 cf (fn_lk fn_d91) [2] K (m + 133) 2 [(0, .ref 0), (1, .int l1), (2, .int 10)] [] x =
  (if ((16 * l1) + 10) < 0 ∨ 80 ≤ ((16 * l1) + 10).toNatClampNeg then
    none
    else
    K (m + 119) 2 [(0, .ref 0), (1, .int l1), (2, .int 11)] [] (fn_w x 2 ((16 * l1) + 10).toNatClampNeg 0)) := rfl
theorem ft_Model_reset_at2_10 (n d m : Nat) (l1 : Int32) (x : fn_M) : fn_run 1 (fn_ev 1 (n + 2000) d) (fn_lk fn_d91) (m + 133) 2 [(0, .ref 0), (1, .int l1), (2, .int 10)] [] x =
  (if ((16 * l1) + 10) < 0 ∨ 80 ≤ ((16 * l1) + 10).toNatClampNeg then
    none
    else
    fn_run 1 (fn_ev 1 (n + 2000) d) (fn_lk fn_d91) (m + 119) 2 [(0, .ref 0), (1, .int l1), (2, .int 11)] [] (fn_w x 2 ((16 * l1) + 10).toNatClampNeg 0)) :=
  (fn_runc_eq 1 (fn_ev 1 (n + 2000) d) (fn_lk fn_d91) [2] (m + 133) 2 [(0, .ref 0), (1, .int l1), (2, .int 10)] [] x).trans (fc_Model_reset_at2_10 (fn_ev 1 (n + 2000) d) (fn_run 1 (fn_ev 1 (n + 2000) d) (fn_lk fn_d91)) m l1 x)
set_option maxRecDepth 20000 in
theorem fc_Model_reset_at2_11 (cf : Nat → List Value → fn_M → Option fn_R) (K : Nat → fn_K) (m : Nat) (l1 : Int32) (x : fn_M) : fn_runc 1 cf (fn_lk fn_d91) [2] K (m + 119) 2 [(0, .ref 0), (1, .int l1), (2, .int 11)] [] x =
  (if ((16 * l1) + 11) < 0 ∨ 80 ≤ ((16 * l1) + 11).toNatClampNeg then
    none
    else
    K (m + 105) 2 [(0, .ref 0), (1, .int l1), (2, .int 12)] [] (fn_w x 2 ((16 * l1) + 11).toNatClampNeg 0)) := rfl
theorem ft_Model_reset_at2_11 (n d m : Nat) (l1 : Int32) (x : fn_M) : fn_run 1 (fn_ev 1 (n + 2000) d) (fn_lk fn_d91) (m + 119) 2 [(0, .ref 0), (1, .int l1), (2, .int 11)] [] x =
  (if ((16 * l1) + 11) < 0 ∨ 80 ≤ ((16 * l1) + 11).toNatClampNeg then
    none
    else
    fn_run 1 (fn_ev 1 (n + 2000) d) (fn_lk fn_d91) (m + 105) 2 [(0, .ref 0), (1, .int l1), (2, .int 12)] [] (fn_w x 2 ((16 * l1) + 11).toNatClampNeg 0)) :=
  (fn_runc_eq 1 (fn_ev 1 (n + 2000) d) (fn_lk fn_d91) [2] (m + 119) 2 [(0, .ref 0), (1, .int l1), (2, .int 11)] [] x).trans (fc_Model_reset_at2_11 (fn_ev 1 (n + 2000) d) (fn_run 1 (fn_ev 1 (n + 2000) d) (fn_lk fn_d91)) m l1 x)
set_option maxRecDepth 20000 in
theorem fc_Model_reset_at2_12 (cf : Nat → List Value → fn_M → Option fn_R) (K : Nat → fn_K) (m : Nat) (l1 : Int32) (x : fn_M) : fn_runc 1 cf (fn_lk fn_d91) [2] K (m + 105) 2 [(0, .ref 0), (1, .int l1), (2, .int 12)] [] x =
  (if ((16 * l1) + 12) < 0 ∨ 80 ≤ ((16 * l1) + 12).toNatClampNeg then
    none
    else
    K (m + 91) 2 [(0, .ref 0), (1, .int l1), (2, .int 13)] [] (fn_w x 2 ((16 * l1) + 12).toNatClampNeg 0)) := rfl
theorem ft_Model_reset_at2_12 (n d m : Nat) (l1 : Int32) (x : fn_M) : fn_run 1 (fn_ev 1 (n + 2000) d) (fn_lk fn_d91) (m + 105) 2 [(0, .ref 0), (1, .int l1), (2, .int 12)] [] x =
  (if ((16 * l1) + 12) < 0 ∨ 80 ≤ ((16 * l1) + 12).toNatClampNeg then
    none
    else
    fn_run 1 (fn_ev 1 (n + 2000) d) (fn_lk fn_d91) (m + 91) 2 [(0, .ref 0), (1, .int l1), (2, .int 13)] [] (fn_w x 2 ((16 * l1) + 12).toNatClampNeg 0)) :=
  (fn_runc_eq 1 (fn_ev 1 (n + 2000) d) (fn_lk fn_d91) [2] (m + 105) 2 [(0, .ref 0), (1, .int l1), (2, .int 12)] [] x).trans (fc_Model_reset_at2_12 (fn_ev 1 (n + 2000) d) (fn_run 1 (fn_ev 1 (n + 2000) d) (fn_lk fn_d91)) m l1 x)
set_option maxRecDepth 20000 in
theorem fc_Model_reset_at2_13 (cf : Nat → List Value → fn_M → Option fn_R) (K : Nat → fn_K) (m : Nat) (l1 : Int32) (x : fn_M) : fn_runc 1 cf (fn_lk fn_d91) [2] K (m + 91) 2 [(0, .ref 0), (1, .int l1), (2, .int 13)] [] x =
  (if ((16 * l1) + 13) < 0 ∨ 80 ≤ ((16 * l1) + 13).toNatClampNeg then
    none
    else
    K (m + 77) 2 [(0, .ref 0), (1, .int l1), (2, .int 14)] [] (fn_w x 2 ((16 * l1) + 13).toNatClampNeg 0)) := rfl
theorem ft_Model_reset_at2_13 (n d m : Nat) (l1 : Int32) (x : fn_M) : fn_run 1 (fn_ev 1 (n + 2000) d) (fn_lk fn_d91) (m + 91) 2 [(0, .ref 0), (1, .int l1), (2, .int 13)] [] x =
  (if ((16 * l1) + 13) < 0 ∨ 80 ≤ ((16 * l1) + 13).toNatClampNeg then
    none
    else
    fn_run 1 (fn_ev 1 (n + 2000) d) (fn_lk fn_d91) (m + 77) 2 [(0, .ref 0), (1, .int l1), (2, .int 14)] [] (fn_w x 2 ((16 * l1) + 13).toNatClampNeg 0)) :=
  (fn_runc_eq 1 (fn_ev 1 (n + 2000) d) (fn_lk fn_d91) [2] (m + 91) 2 [(0, .ref 0), (1, .int l1), (2, .int 13)] [] x).trans (fc_Model_reset_at2_13 (fn_ev 1 (n + 2000) d) (fn_run 1 (fn_ev 1 (n + 2000) d) (fn_lk fn_d91)) m l1 x)
set_option maxRecDepth 20000 in
theorem fc_Model_reset_at2_14 (cf : Nat → List Value → fn_M → Option fn_R) (K : Nat → fn_K) (m : Nat) (l1 : Int32) (x : fn_M) : fn_runc 1 cf (fn_lk fn_d91) [2] K (m + 77) 2 [(0, .ref 0), (1, .int l1), (2, .int 14)] [] x =
  (if ((16 * l1) + 14) < 0 ∨ 80 ≤ ((16 * l1) + 14).toNatClampNeg then
    none
    else
    K (m + 63) 2 [(0, .ref 0), (1, .int l1), (2, .int 15)] [] (fn_w x 2 ((16 * l1) + 14).toNatClampNeg 0)) := rfl
theorem ft_Model_reset_at2_14 (n d m : Nat) (l1 : Int32) (x : fn_M) : fn_run 1 (fn_ev 1 (n + 2000) d) (fn_lk fn_d91) (m + 77) 2 [(0, .ref 0), (1, .int l1), (2, .int 14)] [] x =
  (if ((16 * l1) + 14) < 0 ∨ 80 ≤ ((16 * l1) + 14).toNatClampNeg then
    none
    else
    fn_run 1 (fn_ev 1 (n + 2000) d) (fn_lk fn_d91) (m + 63) 2 [(0, .ref 0), (1, .int l1), (2, .int 15)] [] (fn_w x 2 ((16 * l1) + 14).toNatClampNeg 0)) :=
  (fn_runc_eq 1 (fn_ev 1 (n + 2000) d) (fn_lk fn_d91) [2] (m + 77) 2 [(0, .ref 0), (1, .int l1), (2, .int 14)] [] x).trans (fc_Model_reset_at2_14 (fn_ev 1 (n + 2000) d) (fn_run 1 (fn_ev 1 (n + 2000) d) (fn_lk fn_d91)) m l1 x)
set_option maxRecDepth 20000 in
theorem fc_Model_reset_at2_15 (cf : Nat → List Value → fn_M → Option fn_R) (K : Nat → fn_K) (m : Nat) (l1 : Int32) (x : fn_M) : fn_runc 1 cf (fn_lk fn_d91) [2] K (m + 63) 2 [(0, .ref 0), (1, .int l1), (2, .int 15)] [] x =
  (if ((16 * l1) + 15) < 0 ∨ 80 ≤ ((16 * l1) + 15).toNatClampNeg then
    none
    else
    K (m + 49) 2 [(0, .ref 0), (1, .int l1), (2, .int 16)] [] (fn_w x 2 ((16 * l1) + 15).toNatClampNeg 0)) := rfl
theorem ft_Model_reset_at2_15 (n d m : Nat) (l1 : Int32) (x : fn_M) : fn_run 1 (fn_ev 1 (n + 2000) d) (fn_lk fn_d91) (m + 63) 2 [(0, .ref 0), (1, .int l1), (2, .int 15)] [] x =
  (if ((16 * l1) + 15) < 0 ∨ 80 ≤ ((16 * l1) + 15).toNatClampNeg then
    none
    else
    fn_run 1 (fn_ev 1 (n + 2000) d) (fn_lk fn_d91) (m + 49) 2 [(0, .ref 0), (1, .int l1), (2, .int 16)] [] (fn_w x 2 ((16 * l1) + 15).toNatClampNeg 0)) :=
  (fn_runc_eq 1 (fn_ev 1 (n + 2000) d) (fn_lk fn_d91) [2] (m + 63) 2 [(0, .ref 0), (1, .int l1), (2, .int 15)] [] x).trans (fc_Model_reset_at2_15 (fn_ev 1 (n + 2000) d) (fn_run 1 (fn_ev 1 (n + 2000) d) (fn_lk fn_d91)) m l1 x)
set_option maxRecDepth 20000 in
theorem fc_Model_reset_at2_16 (cf : Nat → List Value → fn_M → Option fn_R) (K : Nat → fn_K) (m : Nat) (l1 : Int32) (x : fn_M) : fn_runc 1 cf (fn_lk fn_d91) [2] K (m + 49) 2 [(0, .ref 0), (1, .int l1), (2, .int 16)] [] x =
  (if l1 < 0 ∨ 5 ≤ l1.toNatClampNeg then
    none
    else
    (if l1 < 0 ∨ 5 ≤ l1.toNatClampNeg then
      none
      else
      (if l1 < 0 ∨ 5 ≤ l1.toNatClampNeg then
        none
        else
        (if l1 < 0 ∨ 5 ≤ l1.toNatClampNeg then
          none
          else
          (if l1 < 0 ∨ 5 ≤ l1.toNatClampNeg then
            none
            else
            (if l1 < 0 ∨ 5 ≤ l1.toNatClampNeg then
              none
              else
              (if l1 < 0 ∨ 5 ≤ l1.toNatClampNeg then
                none
                else
                (fn_bv (cf 87 [.ref 0, .int l1, .int (1792 + l1), .int 0, .int 0, .int 0] (fn_w (fn_w (fn_w (fn_w (fn_w (fn_w (fn_w x 1 l1.toNatClampNeg 127) 3 l1.toNatClampNeg (-1)) 4 l1.toNatClampNeg 0) 5 l1.toNatClampNeg 0) 6 l1.toNatClampNeg (-1)) 7 l1.toNatClampNeg (-1)) 9 l1.toNatClampNeg (x 0 0))) (fun y1 =>
                  some (y1, none)))))))))) := rfl
theorem ft_Model_reset_at2_16 (n d m : Nat) (l1 : Int32) (x : fn_M) : fn_run 1 (fn_ev 1 (n + 2000) d) (fn_lk fn_d91) (m + 49) 2 [(0, .ref 0), (1, .int l1), (2, .int 16)] [] x =
  (if l1 < 0 ∨ 5 ≤ l1.toNatClampNeg then
    none
    else
    (if l1 < 0 ∨ 5 ≤ l1.toNatClampNeg then
      none
      else
      (if l1 < 0 ∨ 5 ≤ l1.toNatClampNeg then
        none
        else
        (if l1 < 0 ∨ 5 ≤ l1.toNatClampNeg then
          none
          else
          (if l1 < 0 ∨ 5 ≤ l1.toNatClampNeg then
            none
            else
            (if l1 < 0 ∨ 5 ≤ l1.toNatClampNeg then
              none
              else
              (if l1 < 0 ∨ 5 ≤ l1.toNatClampNeg then
                none
                else
                (fn_bv (fn_ev 1 (n + 2000) d 87 [.ref 0, .int l1, .int (1792 + l1), .int 0, .int 0, .int 0] (fn_w (fn_w (fn_w (fn_w (fn_w (fn_w (fn_w x 1 l1.toNatClampNeg 127) 3 l1.toNatClampNeg (-1)) 4 l1.toNatClampNeg 0) 5 l1.toNatClampNeg 0) 6 l1.toNatClampNeg (-1)) 7 l1.toNatClampNeg (-1)) 9 l1.toNatClampNeg (x 0 0))) (fun y1 =>
                  some (y1, none)))))))))) :=
  (fn_runc_eq 1 (fn_ev 1 (n + 2000) d) (fn_lk fn_d91) [2] (m + 49) 2 [(0, .ref 0), (1, .int l1), (2, .int 16)] [] x).trans (fc_Model_reset_at2_16 (fn_ev 1 (n + 2000) d) (fn_run 1 (fn_ev 1 (n + 2000) d) (fn_lk fn_d91)) m l1 x)
set_option maxRecDepth 20000 in
theorem fc_Model_toNode (cf : Nat → List Value → fn_M → Option fn_R) (K : Nat → fn_K) (m : Nat) (a1 a2 a3 a4 a5 : Int32) (x : fn_M) : fn_runc 1 cf (fn_lk fn_d97) [15, 21, 84, 114, 124, 211, 257] K (m + 146) 0 [(0, .ref 0), (1, .int a1), (2, .int a2), (3, .int a3), (4, .int a4), (5, .int a5)] [] x =
  (if a2 = 0 then
    (if a4 = 0 then
      K (m + 142) 15 [(0, .ref 0), (1, .int a1), (2, .int a2), (3, .int a3), (4, .int a4), (5, .int a5)] [] x
      else
      (if a4 = a1 then
        K (m + 139) 15 [(0, .ref 0), (1, .int a1), (2, .int a2), (3, .int a3), (4, .int a4), (5, .int a5)] [] x
        else
        K (m + 139) 21 [(0, .ref 0), (1, .int a1), (2, .int a2), (3, .int a3), (4, .int a4), (5, .int a5)] [] x))
    else
    K (m + 144) 21 [(0, .ref 0), (1, .int a1), (2, .int a2), (3, .int a3), (4, .int a4), (5, .int a5)] [] x) := rfl
theorem ft_Model_toNode (n d : Nat) (a1 a2 a3 a4 a5 : Int32) (x : fn_M) : fn_ev 1 (n + 2000) (d + 1) 97 [.ref 0, .int a1, .int a2, .int a3, .int a4, .int a5] x =
  (if a2 = 0 then
    (if a4 = 0 then
      fn_run 1 (fn_ev 1 (n + 2000) d) (fn_lk fn_d97) (n + 1996) 15 [(0, .ref 0), (1, .int a1), (2, .int a2), (3, .int a3), (4, .int a4), (5, .int a5)] [] x
      else
      (if a4 = a1 then
        fn_run 1 (fn_ev 1 (n + 2000) d) (fn_lk fn_d97) (n + 1993) 15 [(0, .ref 0), (1, .int a1), (2, .int a2), (3, .int a3), (4, .int a4), (5, .int a5)] [] x
        else
        fn_run 1 (fn_ev 1 (n + 2000) d) (fn_lk fn_d97) (n + 1993) 21 [(0, .ref 0), (1, .int a1), (2, .int a2), (3, .int a3), (4, .int a4), (5, .int a5)] [] x))
    else
    fn_run 1 (fn_ev 1 (n + 2000) d) (fn_lk fn_d97) (n + 1998) 21 [(0, .ref 0), (1, .int a1), (2, .int a2), (3, .int a3), (4, .int a4), (5, .int a5)] [] x) :=
  fn_ev_t (dd := fn_d97) (lo := [(0, .ref 0), (1, .int a1), (2, .int a2), (3, .int a3), (4, .int a4), (5, .int a5)]) (sp := [15, 21, 84, 114, 124, 211, 257]) rfl rfl rfl (fc_Model_toNode (fn_ev 1 (n + 2000) d) (fn_run 1 (fn_ev 1 (n + 2000) d) (fn_lk fn_d97)) (n + 1854) a1 a2 a3 a4 a5 x)
set_option maxRecDepth 20000 in
theorem fc_Model_toNode_at15 (cf : Nat → List Value → fn_M → Option fn_R) (K : Nat → fn_K) (m : Nat) (l1 l2 l3 l4 l5 : Int32) (x : fn_M) : fn_runc 1 cf (fn_lk fn_d97) [15, 21, 84, 114, 124, 211, 257] K (m + 139) 15 [(0, .ref 0), (1, .int l1), (2, .int l2), (3, .int l3), (4, .int l4), (5, .int l5)] [] x =
  (fn_bv (cf 98 [.ref 0, .int l1, .int l3] x) (fun y1 =>
    K (m + 135) 21 [(0, .ref 0), (1, .int l1), (2, .int l2), (3, .int l3), (4, .int l4), (5, .int l5)] [] y1)) := rfl
theorem ft_Model_toNode_at15 (n d m : Nat) (l1 l2 l3 l4 l5 : Int32) (x : fn_M) : fn_run 1 (fn_ev 1 (n + 2000) d) (fn_lk fn_d97) (m + 139) 15 [(0, .ref 0), (1, .int l1), (2, .int l2), (3, .int l3), (4, .int l4), (5, .int l5)] [] x =
  (fn_bv (fn_ev 1 (n + 2000) d 98 [.ref 0, .int l1, .int l3] x) (fun y1 =>
    fn_run 1 (fn_ev 1 (n + 2000) d) (fn_lk fn_d97) (m + 135) 21 [(0, .ref 0), (1, .int l1), (2, .int l2), (3, .int l3), (4, .int l4), (5, .int l5)] [] y1)) :=
  (fn_runc_eq 1 (fn_ev 1 (n + 2000) d) (fn_lk fn_d97) [15, 21, 84, 114, 124, 211, 257] (m + 139) 15 [(0, .ref 0), (1, .int l1), (2, .int l2), (3, .int l3), (4, .int l4), (5, .int l5)] [] x).trans (fc_Model_toNode_at15 (fn_ev 1 (n + 2000) d) (fn_run 1 (fn_ev 1 (n + 2000) d) (fn_lk fn_d97)) m l1 l2 l3 l4 l5 x)
set_option maxRecDepth 20000 in
theorem fc_Model_toNode_at21 (cf : Nat → List Value → fn_M → Option fn_R) (K : Nat → fn_K) (m : Nat) (l1 l2 l3 l4 l5 : Int32) (x : fn_M) : fn_runc 1 cf (fn_lk fn_d97) [15, 21, 84, 114, 124, 211, 257] K (m + 135) 21 [(0, .ref 0), (1, .int l1), (2, .int l2), (3, .int l3), (4, .int l4), (5, .int l5)] [] x =
  (if l2 = 128 then
    (if l1 < 0 ∨ 5 ≤ l1.toNatClampNeg then
      none
      else
      (if (x 1 l1.toNatClampNeg) = 5 then
        (fn_bi (cf 86 [.ref 0, .int l1, .int 4] x) (fun y1 v2 =>
          (if v2 ≤ 0 then
          K (m + 121) 84 [(0, .ref 0), (1, .int l1), (2, .int l2), (3, .int l3), (4, .int l4), (5, .int l5)] [] y1
          else
          (if l1 < 0 ∨ 5 ≤ l1.toNatClampNeg then
            none
            else
            (if l1 < 0 ∨ 5 ≤ l1.toNatClampNeg then
              none
              else
              (if l1 < 0 ∨ 5 ≤ l1.toNatClampNeg then
                none
                else
                (fn_bi (cf 86 [.ref 0, .int l1, .int 4] (fn_w y1 5 l1.toNatClampNeg ((y1 5 l1.toNatClampNeg) + 1))) (fun y3 v4 =>
                  (if ((fn_w y1 5 l1.toNatClampNeg ((y1 5 l1.toNatClampNeg) + 1)) 5 l1.toNatClampNeg) < v4 then
                  K (m + 104) 84 [(0, .ref 0), (1, .int l1), (2, .int l2), (3, .int l3), (4, .int l4), (5, .int l5)] [] y3
                  else
                  (fn_bv (cf 95 [.ref 0, .int l1] y3) (fun y5 =>
                    (if l1 < 0 ∨ 5 ≤ l1.toNatClampNeg then
                    none
                    else
                    K (m + 96) 84 [(0, .ref 0), (1, .int l1), (2, .int l2), (3, .int l3), (4, .int l4), (5, .int l5)] [] (fn_w y5 5 l1.toNatClampNeg 0)))))))))))))
        else
        K (m + 126) 84 [(0, .ref 0), (1, .int l1), (2, .int l2), (3, .int l3), (4, .int l4), (5, .int l5)] [] x))
    else
    K (m + 132) 84 [(0, .ref 0), (1, .int l1), (2, .int l2), (3, .int l3), (4, .int l4), (5, .int l5)] [] x) := rfl
theorem ft_Model_toNode_at21 (n d m : Nat) (l1 l2 l3 l4 l5 : Int32) (x : fn_M) : fn_run 1 (fn_ev 1 (n + 2000) d) (fn_lk fn_d97) (m + 135) 21 [(0, .ref 0), (1, .int l1), (2, .int l2), (3, .int l3), (4, .int l4), (5, .int l5)] [] x =
  (if l2 = 128 then
    (if l1 < 0 ∨ 5 ≤ l1.toNatClampNeg then
      none
      else
      (if (x 1 l1.toNatClampNeg) = 5 then
        (fn_bi (fn_ev 1 (n + 2000) d 86 [.ref 0, .int l1, .int 4] x) (fun y1 v2 =>
          (if v2 ≤ 0 then
          fn_run 1 (fn_ev 1 (n + 2000) d) (fn_lk fn_d97) (m + 121) 84 [(0, .ref 0), (1, .int l1), (2, .int l2), (3, .int l3), (4, .int l4), (5, .int l5)] [] y1
          else
          (if l1 < 0 ∨ 5 ≤ l1.toNatClampNeg then
            none
            else
            (if l1 < 0 ∨ 5 ≤ l1.toNatClampNeg then
              none
              else
              (if l1 < 0 ∨ 5 ≤ l1.toNatClampNeg then
                none
                else
                (fn_bi (fn_ev 1 (n + 2000) d 86 [.ref 0, .int l1, .int 4] (fn_w y1 5 l1.toNatClampNeg ((y1 5 l1.toNatClampNeg) + 1))) (fun y3 v4 =>
                  (if ((fn_w y1 5 l1.toNatClampNeg ((y1 5 l1.toNatClampNeg) + 1)) 5 l1.toNatClampNeg) < v4 then
                  fn_run 1 (fn_ev 1 (n + 2000) d) (fn_lk fn_d97) (m + 104) 84 [(0, .ref 0), (1, .int l1), (2, .int l2), (3, .int l3), (4, .int l4), (5, .int l5)] [] y3
                  else
                  (fn_bv (fn_ev 1 (n + 2000) d 95 [.ref 0, .int l1] y3) (fun y5 =>
                    (if l1 < 0 ∨ 5 ≤ l1.toNatClampNeg then
                    none
                    else
                    fn_run 1 (fn_ev 1 (n + 2000) d) (fn_lk fn_d97) (m + 96) 84 [(0, .ref 0), (1, .int l1), (2, .int l2), (3, .int l3), (4, .int l4), (5, .int l5)] [] (fn_w y5 5 l1.toNatClampNeg 0)))))))))))))
        else
        fn_run 1 (fn_ev 1 (n + 2000) d) (fn_lk fn_d97) (m + 126) 84 [(0, .ref 0), (1, .int l1), (2, .int l2), (3, .int l3), (4, .int l4), (5, .int l5)] [] x))
    else
    fn_run 1 (fn_ev 1 (n + 2000) d) (fn_lk fn_d97) (m + 132) 84 [(0, .ref 0), (1, .int l1), (2, .int l2), (3, .int l3), (4, .int l4), (5, .int l5)] [] x) :=
  (fn_runc_eq 1 (fn_ev 1 (n + 2000) d) (fn_lk fn_d97) [15, 21, 84, 114, 124, 211, 257] (m + 135) 21 [(0, .ref 0), (1, .int l1), (2, .int l2), (3, .int l3), (4, .int l4), (5, .int l5)] [] x).trans (fc_Model_toNode_at21 (fn_ev 1 (n + 2000) d) (fn_run 1 (fn_ev 1 (n + 2000) d) (fn_lk fn_d97)) m l1 l2 l3 l4 l5 x)
set_option maxRecDepth 20000 in
theorem fc_Model_toNode_at84 (cf : Nat → List Value → fn_M → Option fn_R) (K : Nat → fn_K) (m : Nat) (l1 l2 l3 l4 l5 : Int32) (x : fn_M) : fn_runc 1 cf (fn_lk fn_d97) [15, 21, 84, 114, 124, 211, 257] K (m + 96) 84 [(0, .ref 0), (1, .int l1), (2, .int l2), (3, .int l3), (4, .int l4), (5, .int l5)] [] x =
  (if l2 = (1536 + l1) then
    (if l1 < 0 ∨ 5 ≤ l1.toNatClampNeg then
      none
      else
      (if (x 1 l1.toNatClampNeg) = 127 then
        K (m + 85) 114 [(0, .ref 0), (1, .int l1), (2, .int l2), (3, .int l3), (4, .int l4), (5, .int l5)] [] x
        else
        (if l1 < 0 ∨ 5 ≤ l1.toNatClampNeg then
          none
          else
          (if (x 1 l1.toNatClampNeg) = 5 then
            K (m + 79) 114 [(0, .ref 0), (1, .int l1), (2, .int l2), (3, .int l3), (4, .int l4), (5, .int l5)] [] x
            else
            K (m + 79) 124 [(0, .ref 0), (1, .int l1), (2, .int l2), (3, .int l3), (4, .int l4), (5, .int l5)] [] x))))
    else
    K (m + 91) 124 [(0, .ref 0), (1, .int l1), (2, .int l2), (3, .int l3), (4, .int l4), (5, .int l5)] [] x) := rfl
theorem ft_Model_toNode_at84 (n d m : Nat) (l1 l2 l3 l4 l5 : Int32) (x : fn_M) : fn_run 1 (fn_ev 1 (n + 2000) d) (fn_lk fn_d97) (m + 96) 84 [(0, .ref 0), (1, .int l1), (2, .int l2), (3, .int l3), (4, .int l4), (5, .int l5)] [] x =
  (if l2 = (1536 + l1) then
    (if l1 < 0 ∨ 5 ≤ l1.toNatClampNeg then
      none
      else
      (if (x 1 l1.toNatClampNeg) = 127 then
        fn_run 1 (fn_ev 1 (n + 2000) d) (fn_lk fn_d97) (m + 85) 114 [(0, .ref 0), (1, .int l1), (2, .int l2), (3, .int l3), (4, .int l4), (5, .int l5)] [] x
        else
        (if l1 < 0 ∨ 5 ≤ l1.toNatClampNeg then
          none
          else
          (if (x 1 l1.toNatClampNeg) = 5 then
            fn_run 1 (fn_ev 1 (n + 2000) d) (fn_lk fn_d97) (m + 79) 114 [(0, .ref 0), (1, .int l1), (2, .int l2), (3, .int l3), (4, .int l4), (5, .int l5)] [] x
            else
            fn_run 1 (fn_ev 1 (n + 2000) d) (fn_lk fn_d97) (m + 79) 124 [(0, .ref 0), (1, .int l1), (2, .int l2), (3, .int l3), (4, .int l4), (5, .int l5)] [] x))))
    else
    fn_run 1 (fn_ev 1 (n + 2000) d) (fn_lk fn_d97) (m + 91) 124 [(0, .ref 0), (1, .int l1), (2, .int l2), (3, .int l3), (4, .int l4), (5, .int l5)] [] x) :=
  (fn_runc_eq 1 (fn_ev 1 (n + 2000) d) (fn_lk fn_d97) [15, 21, 84, 114, 124, 211, 257] (m + 96) 84 [(0, .ref 0), (1, .int l1), (2, .int l2), (3, .int l3), (4, .int l4), (5, .int l5)] [] x).trans (fc_Model_toNode_at84 (fn_ev 1 (n + 2000) d) (fn_run 1 (fn_ev 1 (n + 2000) d) (fn_lk fn_d97)) m l1 l2 l3 l4 l5 x)
set_option maxRecDepth 20000 in
theorem fc_Model_toNode_at114 (cf : Nat → List Value → fn_M → Option fn_R) (K : Nat → fn_K) (m : Nat) (l1 l2 l3 l4 l5 : Int32) (x : fn_M) : fn_runc 1 cf (fn_lk fn_d97) [15, 21, 84, 114, 124, 211, 257] K (m + 79) 114 [(0, .ref 0), (1, .int l1), (2, .int l2), (3, .int l3), (4, .int l4), (5, .int l5)] [] x =
  (fn_bv (cf 102 [.ref 0, .int l1, .int l3, .int l4, .int l5] x) (fun y1 =>
    K (m + 73) 124 [(0, .ref 0), (1, .int l1), (2, .int l2), (3, .int l3), (4, .int l4), (5, .int l5)] [] y1)) := rfl
theorem ft_Model_toNode_at114 (n d m : Nat) (l1 l2 l3 l4 l5 : Int32) (x : fn_M) : fn_run 1 (fn_ev 1 (n + 2000) d) (fn_lk fn_d97) (m + 79) 114 [(0, .ref 0), (1, .int l1), (2, .int l2), (3, .int l3), (4, .int l4), (5, .int l5)] [] x =
  (fn_bv (fn_ev 1 (n + 2000) d 102 [.ref 0, .int l1, .int l3, .int l4, .int l5] x) (fun y1 =>
    fn_run 1 (fn_ev 1 (n + 2000) d) (fn_lk fn_d97) (m + 73) 124 [(0, .ref 0), (1, .int l1), (2, .int l2), (3, .int l3), (4, .int l4), (5, .int l5)] [] y1)) :=
  (fn_runc_eq 1 (fn_ev 1 (n + 2000) d) (fn_lk fn_d97) [15, 21, 84, 114, 124, 211, 257] (m + 79) 114 [(0, .ref 0), (1, .int l1), (2, .int l2), (3, .int l3), (4, .int l4), (5, .int l5)] [] x).trans (fc_Model_toNode_at114 (fn_ev 1 (n + 2000) d) (fn_run 1 (fn_ev 1 (n + 2000) d) (fn_lk fn_d97)) m l1 l2 l3 l4 l5 x)
set_option maxRecDepth 20000 in
theorem fc_Model_toNode_at124 (cf : Nat → List Value → fn_M → Option fn_R) (K : Nat → fn_K) (m : Nat) (l1 l2 l3 l4 l5 : Int32) (x : fn_M) : fn_runc 1 cf (fn_lk fn_d97) [15, 21, 84, 114, 124, 211, 257] K (m + 73) 124 [(0, .ref 0), (1, .int l1), (2, .int l2), (3, .int l3), (4, .int l4), (5, .int l5)] [] x =
  (fn_bi (cf 90 [.int l2, .int 384] x) (fun y1 v2 =>
    (if v2 ≤ 0 then
    K (m + 67) 211 [(0, .ref 0), (1, .int l1), (2, .int l2), (3, .int l3), (4, .int l4), (5, .int l5), (6, .int v2)] [] y1
    else
    (if l1 < 0 ∨ 5 ≤ l1.toNatClampNeg then
      none
      else
      (if (y1 1 l1.toNatClampNeg) = 5 then
        (fn_bi (cf 86 [.ref 0, .int l1, .int 7] y1) (fun y3 v4 =>
          (if (v4 / 10000) = v2 then
          (fn_bi (cf 86 [.ref 0, .int l1, .int 7] y3) (fun y5 v6 =>
            (if ((16 * l1) + ((v6 / 100) - (v6 / 100) / 100 * 100)) < 0 ∨ 80 ≤ ((16 * l1) + ((v6 / 100) - (v6 / 100) / 100 * 100)).toNatClampNeg then
            none
            else
            (fn_bi (cf 86 [.ref 0, .int l1, .int 7] (fn_w y5 2 ((16 * l1) + ((v6 / 100) - (v6 / 100) / 100 * 100)).toNatClampNeg l4)) (fun y7 v8 =>
              (if ((16 * l1) + (v8 - v8 / 100 * 100)) < 0 ∨ 80 ≤ ((16 * l1) + (v8 - v8 / 100 * 100)).toNatClampNeg then
              none
              else
              K (m + 23) 211 [(0, .ref 0), (1, .int l1), (2, .int l2), (3, .int l3), (4, .int l4), (5, .int l5), (6, .int v2)] [] (fn_w y7 2 ((16 * l1) + (v8 - v8 / 100 * 100)).toNatClampNeg l5)))))))
          else
          K (m + 53) 211 [(0, .ref 0), (1, .int l1), (2, .int l2), (3, .int l3), (4, .int l4), (5, .int l5), (6, .int v2)] [] y3)))
        else
        K (m + 61) 211 [(0, .ref 0), (1, .int l1), (2, .int l2), (3, .int l3), (4, .int l4), (5, .int l5), (6, .int v2)] [] y1))))) := rfl
theorem ft_Model_toNode_at124 (n d m : Nat) (l1 l2 l3 l4 l5 : Int32) (x : fn_M) : fn_run 1 (fn_ev 1 (n + 2000) d) (fn_lk fn_d97) (m + 73) 124 [(0, .ref 0), (1, .int l1), (2, .int l2), (3, .int l3), (4, .int l4), (5, .int l5)] [] x =
  (fn_bi (fn_ev 1 (n + 2000) d 90 [.int l2, .int 384] x) (fun y1 v2 =>
    (if v2 ≤ 0 then
    fn_run 1 (fn_ev 1 (n + 2000) d) (fn_lk fn_d97) (m + 67) 211 [(0, .ref 0), (1, .int l1), (2, .int l2), (3, .int l3), (4, .int l4), (5, .int l5), (6, .int v2)] [] y1
    else
    (if l1 < 0 ∨ 5 ≤ l1.toNatClampNeg then
      none
      else
      (if (y1 1 l1.toNatClampNeg) = 5 then
        (fn_bi (fn_ev 1 (n + 2000) d 86 [.ref 0, .int l1, .int 7] y1) (fun y3 v4 =>
          (if (v4 / 10000) = v2 then
          (fn_bi (fn_ev 1 (n + 2000) d 86 [.ref 0, .int l1, .int 7] y3) (fun y5 v6 =>
            (if ((16 * l1) + ((v6 / 100) - (v6 / 100) / 100 * 100)) < 0 ∨ 80 ≤ ((16 * l1) + ((v6 / 100) - (v6 / 100) / 100 * 100)).toNatClampNeg then
            none
            else
            (fn_bi (fn_ev 1 (n + 2000) d 86 [.ref 0, .int l1, .int 7] (fn_w y5 2 ((16 * l1) + ((v6 / 100) - (v6 / 100) / 100 * 100)).toNatClampNeg l4)) (fun y7 v8 =>
              (if ((16 * l1) + (v8 - v8 / 100 * 100)) < 0 ∨ 80 ≤ ((16 * l1) + (v8 - v8 / 100 * 100)).toNatClampNeg then
              none
              else
              fn_run 1 (fn_ev 1 (n + 2000) d) (fn_lk fn_d97) (m + 23) 211 [(0, .ref 0), (1, .int l1), (2, .int l2), (3, .int l3), (4, .int l4), (5, .int l5), (6, .int v2)] [] (fn_w y7 2 ((16 * l1) + (v8 - v8 / 100 * 100)).toNatClampNeg l5)))))))
          else
          fn_run 1 (fn_ev 1 (n + 2000) d) (fn_lk fn_d97) (m + 53) 211 [(0, .ref 0), (1, .int l1), (2, .int l2), (3, .int l3), (4, .int l4), (5, .int l5), (6, .int v2)] [] y3)))
        else
        fn_run 1 (fn_ev 1 (n + 2000) d) (fn_lk fn_d97) (m + 61) 211 [(0, .ref 0), (1, .int l1), (2, .int l2), (3, .int l3), (4, .int l4), (5, .int l5), (6, .int v2)] [] y1))))) :=
  (fn_runc_eq 1 (fn_ev 1 (n + 2000) d) (fn_lk fn_d97) [15, 21, 84, 114, 124, 211, 257] (m + 73) 124 [(0, .ref 0), (1, .int l1), (2, .int l2), (3, .int l3), (4, .int l4), (5, .int l5)] [] x).trans (fc_Model_toNode_at124 (fn_ev 1 (n + 2000) d) (fn_run 1 (fn_ev 1 (n + 2000) d) (fn_lk fn_d97)) m l1 l2 l3 l4 l5 x)
set_option maxRecDepth 20000 in
theorem fc_Model_toNode_at211 (cf : Nat → List Value → fn_M → Option fn_R) (K : Nat → fn_K) (m : Nat) (l1 l2 l3 l4 l5 l6 : Int32) (x : fn_M) : fn_runc 1 cf (fn_lk fn_d97) [15, 21, 84, 114, 124, 211, 257] K (m + 23) 211 [(0, .ref 0), (1, .int l1), (2, .int l2), (3, .int l3), (4, .int l4), (5, .int l5), (6, .int l6)] [] x =
  (fn_bi (cf 90 [.int l2, .int 1792] x) (fun y1 v2 =>
    (if v2 ≤ 0 then
    K (m + 17) 257 [(0, .ref 0), (1, .int l1), (2, .int l2), (3, .int l3), (4, .int l4), (5, .int l5), (6, .int l6), (7, .int v2)] [] y1
    else
    (fn_bi (cf 86 [.ref 0, .int l1, .int 3] y1) (fun y3 v4 =>
      (if (v4 / 100) = v2 then
      (if l3 = 0 then
        (if l1 < 0 ∨ 5 ≤ l1.toNatClampNeg then
          none
          else
          K (m + 1) 257 [(0, .ref 0), (1, .int l1), (2, .int l2), (3, .int l3), (4, .int l4), (5, .int l5), (6, .int l6), (7, .int v2)] [] (fn_w y3 6 l1.toNatClampNeg (-1)))
        else
        (if l1 < 0 ∨ 5 ≤ l1.toNatClampNeg then
          none
          else
          K (m + 1) 257 [(0, .ref 0), (1, .int l1), (2, .int l2), (3, .int l3), (4, .int l4), (5, .int l5), (6, .int l6), (7, .int v2)] [] (fn_w y3 6 l1.toNatClampNeg (y3 0 0))))
      else
      K (m + 9) 257 [(0, .ref 0), (1, .int l1), (2, .int l2), (3, .int l3), (4, .int l4), (5, .int l5), (6, .int l6), (7, .int v2)] [] y3)))))) := rfl
theorem ft_Model_toNode_at211 (n d m : Nat) (l1 l2 l3 l4 l5 l6 : Int32) (x : fn_M) : fn_run 1 (fn_ev 1 (n + 2000) d) (fn_lk fn_d97) (m + 23) 211 [(0, .ref 0), (1, .int l1), (2, .int l2), (3, .int l3), (4, .int l4), (5, .int l5), (6, .int l6)] [] x =
  (fn_bi (fn_ev 1 (n + 2000) d 90 [.int l2, .int 1792] x) (fun y1 v2 =>
    (if v2 ≤ 0 then
    fn_run 1 (fn_ev 1 (n + 2000) d) (fn_lk fn_d97) (m + 17) 257 [(0, .ref 0), (1, .int l1), (2, .int l2), (3, .int l3), (4, .int l4), (5, .int l5), (6, .int l6), (7, .int v2)] [] y1
    else
    (fn_bi (fn_ev 1 (n + 2000) d 86 [.ref 0, .int l1, .int 3] y1) (fun y3 v4 =>
      (if (v4 / 100) = v2 then
      (if l3 = 0 then
        (if l1 < 0 ∨ 5 ≤ l1.toNatClampNeg then
          none
          else
          fn_run 1 (fn_ev 1 (n + 2000) d) (fn_lk fn_d97) (m + 1) 257 [(0, .ref 0), (1, .int l1), (2, .int l2), (3, .int l3), (4, .int l4), (5, .int l5), (6, .int l6), (7, .int v2)] [] (fn_w y3 6 l1.toNatClampNeg (-1)))
        else
        (if l1 < 0 ∨ 5 ≤ l1.toNatClampNeg then
          none
          else
          fn_run 1 (fn_ev 1 (n + 2000) d) (fn_lk fn_d97) (m + 1) 257 [(0, .ref 0), (1, .int l1), (2, .int l2), (3, .int l3), (4, .int l4), (5, .int l5), (6, .int l6), (7, .int v2)] [] (fn_w y3 6 l1.toNatClampNeg (y3 0 0))))
      else
      fn_run 1 (fn_ev 1 (n + 2000) d) (fn_lk fn_d97) (m + 9) 257 [(0, .ref 0), (1, .int l1), (2, .int l2), (3, .int l3), (4, .int l4), (5, .int l5), (6, .int l6), (7, .int v2)] [] y3)))))) :=
  (fn_runc_eq 1 (fn_ev 1 (n + 2000) d) (fn_lk fn_d97) [15, 21, 84, 114, 124, 211, 257] (m + 23) 211 [(0, .ref 0), (1, .int l1), (2, .int l2), (3, .int l3), (4, .int l4), (5, .int l5), (6, .int l6)] [] x).trans (fc_Model_toNode_at211 (fn_ev 1 (n + 2000) d) (fn_run 1 (fn_ev 1 (n + 2000) d) (fn_lk fn_d97)) m l1 l2 l3 l4 l5 l6 x)
set_option maxRecDepth 20000 in
theorem fc_Model_toNode_at257 (cf : Nat → List Value → fn_M → Option fn_R) (K : Nat → fn_K) (m : Nat) (l1 l2 l3 l4 l5 l6 l7 : Int32) (x : fn_M) : fn_runc 1 cf (fn_lk fn_d97) [15, 21, 84, 114, 124, 211, 257] K (m + 1) 257 [(0, .ref 0), (1, .int l1), (2, .int l2), (3, .int l3), (4, .int l4), (5, .int l5), (6, .int l6), (7, .int l7)] [] x =
  some (x, none) := rfl
theorem ft_Model_toNode_at257 (n d m : Nat) (l1 l2 l3 l4 l5 l6 l7 : Int32) (x : fn_M) : fn_run 1 (fn_ev 1 (n + 2000) d) (fn_lk fn_d97) (m + 1) 257 [(0, .ref 0), (1, .int l1), (2, .int l2), (3, .int l3), (4, .int l4), (5, .int l5), (6, .int l6), (7, .int l7)] [] x =
  some (x, none) :=
  (fn_runc_eq 1 (fn_ev 1 (n + 2000) d) (fn_lk fn_d97) [15, 21, 84, 114, 124, 211, 257] (m + 1) 257 [(0, .ref 0), (1, .int l1), (2, .int l2), (3, .int l3), (4, .int l4), (5, .int l5), (6, .int l6), (7, .int l7)] [] x).trans (fc_Model_toNode_at257 (fn_ev 1 (n + 2000) d) (fn_run 1 (fn_ev 1 (n + 2000) d) (fn_lk fn_d97)) m l1 l2 l3 l4 l5 l6 l7 x)
set_option maxRecDepth 20000 in
theorem fc_Model_goOn (cf : Nat → List Value → fn_M → Option fn_R) (K : Nat → fn_K) (m : Nat) (a1 : Int32) (x : fn_M) : fn_runc 1 cf (fn_lk fn_d114) [] K (m + 56) 0 [(0, .ref 0), (1, .int a1)] [] x =
  (if (x 0 33) = 0 then
    (if a1 < 0 ∨ 5 ≤ a1.toNatClampNeg then
      none
      else
      (if (x 20 a1.toNatClampNeg) = 2 then
        (if a1 < 0 ∨ 5 ≤ a1.toNatClampNeg then
          none
          else
          (if (x 0 34) = (x 15 a1.toNatClampNeg) then
            (if a1 < 0 ∨ 5 ≤ a1.toNatClampNeg then
              none
              else
              (if a1 < 0 ∨ 5 ≤ a1.toNatClampNeg then
                none
                else
                (if (x 17 a1.toNatClampNeg) ≤ 0 then
                  (if a1 < 0 ∨ 5 ≤ a1.toNatClampNeg then
                    none
                    else
                    (fn_bv (cf 87 [.ref 0, .int 0, .int 0, .int 1, .int a1, .int 0] (fn_w (fn_w (fn_w x 20 a1.toNatClampNeg 3) 0 32 0) 20 a1.toNatClampNeg 4)) (fun y4 =>
                      (fn_bv (cf 105 [.ref 0, .int 2, .int a1, .int 0] y4) (fun y5 =>
                      some (y5, none))))))
                  else
                  (if ((3 * a1) + 0) < 0 ∨ 15 ≤ ((3 * a1) + 0).toNatClampNeg then
                    none
                    else
                    (if ((3 * a1) + 0) < 0 ∨ 15 ≤ ((3 * a1) + 0).toNatClampNeg then
                      none
                      else
                      (fn_bv (cf 108 [.ref 0, .int a1, .int (x 18 ((3 * a1) + 0).toNatClampNeg), .int 1, .int (x 19 ((3 * a1) + 0).toNatClampNeg), .int 1] (fn_w (fn_w x 20 a1.toNatClampNeg 3) 0 32 0)) (fun y6 =>
                        some (y6, none))))))))
            else
            (fn_bv (cf 113 [.ref 0, .int a1, .int 5] x) (fun y7 =>
              some (y7, none)))))
        else
        (if a1 < 0 ∨ 5 ≤ a1.toNatClampNeg then
          none
          else
          (if (x 17 a1.toNatClampNeg) ≤ ((x 0 32) + 1) then
            (if a1 < 0 ∨ 5 ≤ a1.toNatClampNeg then
              none
              else
              (fn_bv (cf 87 [.ref 0, .int 0, .int 0, .int 1, .int a1, .int 0] (fn_w (fn_w x 0 32 ((x 0 32) + 1)) 20 a1.toNatClampNeg 4)) (fun y1 =>
                (fn_bv (cf 105 [.ref 0, .int 2, .int a1, .int 0] y1) (fun y2 =>
                some (y2, none))))))
            else
            (if ((3 * a1) + ((x 0 32) + 1)) < 0 ∨ 15 ≤ ((3 * a1) + ((x 0 32) + 1)).toNatClampNeg then
              none
              else
              (if ((3 * a1) + ((x 0 32) + 1)) < 0 ∨ 15 ≤ ((3 * a1) + ((x 0 32) + 1)).toNatClampNeg then
                none
                else
                (fn_bv (cf 108 [.ref 0, .int a1, .int (x 18 ((3 * a1) + ((x 0 32) + 1)).toNatClampNeg), .int 1, .int (x 19 ((3 * a1) + ((x 0 32) + 1)).toNatClampNeg), .int 1] (fn_w x 0 32 ((x 0 32) + 1))) (fun y3 =>
                  some (y3, none)))))))))
    else
    (if (x 0 33) = 7 then
      (fn_bv (cf 113 [.ref 0, .int a1, .int 7] x) (fun y9 =>
        some (y9, none)))
      else
      (fn_bv (cf 113 [.ref 0, .int a1, .int 6] x) (fun y8 =>
        some (y8, none))))) := rfl
theorem ft_Model_goOn (n d : Nat) (a1 : Int32) (x : fn_M) : fn_ev 1 (n + 2000) (d + 1) 114 [.ref 0, .int a1] x =
  (if (x 0 33) = 0 then
    (if a1 < 0 ∨ 5 ≤ a1.toNatClampNeg then
      none
      else
      (if (x 20 a1.toNatClampNeg) = 2 then
        (if a1 < 0 ∨ 5 ≤ a1.toNatClampNeg then
          none
          else
          (if (x 0 34) = (x 15 a1.toNatClampNeg) then
            (if a1 < 0 ∨ 5 ≤ a1.toNatClampNeg then
              none
              else
              (if a1 < 0 ∨ 5 ≤ a1.toNatClampNeg then
                none
                else
                (if (x 17 a1.toNatClampNeg) ≤ 0 then
                  (if a1 < 0 ∨ 5 ≤ a1.toNatClampNeg then
                    none
                    else
                    (fn_bv (fn_ev 1 (n + 2000) d 87 [.ref 0, .int 0, .int 0, .int 1, .int a1, .int 0] (fn_w (fn_w (fn_w x 20 a1.toNatClampNeg 3) 0 32 0) 20 a1.toNatClampNeg 4)) (fun y4 =>
                      (fn_bv (fn_ev 1 (n + 2000) d 105 [.ref 0, .int 2, .int a1, .int 0] y4) (fun y5 =>
                      some (y5, none))))))
                  else
                  (if ((3 * a1) + 0) < 0 ∨ 15 ≤ ((3 * a1) + 0).toNatClampNeg then
                    none
                    else
                    (if ((3 * a1) + 0) < 0 ∨ 15 ≤ ((3 * a1) + 0).toNatClampNeg then
                      none
                      else
                      (fn_bv (fn_ev 1 (n + 2000) d 108 [.ref 0, .int a1, .int (x 18 ((3 * a1) + 0).toNatClampNeg), .int 1, .int (x 19 ((3 * a1) + 0).toNatClampNeg), .int 1] (fn_w (fn_w x 20 a1.toNatClampNeg 3) 0 32 0)) (fun y6 =>
                        some (y6, none))))))))
            else
            (fn_bv (fn_ev 1 (n + 2000) d 113 [.ref 0, .int a1, .int 5] x) (fun y7 =>
              some (y7, none)))))
        else
        (if a1 < 0 ∨ 5 ≤ a1.toNatClampNeg then
          none
          else
          (if (x 17 a1.toNatClampNeg) ≤ ((x 0 32) + 1) then
            (if a1 < 0 ∨ 5 ≤ a1.toNatClampNeg then
              none
              else
              (fn_bv (fn_ev 1 (n + 2000) d 87 [.ref 0, .int 0, .int 0, .int 1, .int a1, .int 0] (fn_w (fn_w x 0 32 ((x 0 32) + 1)) 20 a1.toNatClampNeg 4)) (fun y1 =>
                (fn_bv (fn_ev 1 (n + 2000) d 105 [.ref 0, .int 2, .int a1, .int 0] y1) (fun y2 =>
                some (y2, none))))))
            else
            (if ((3 * a1) + ((x 0 32) + 1)) < 0 ∨ 15 ≤ ((3 * a1) + ((x 0 32) + 1)).toNatClampNeg then
              none
              else
              (if ((3 * a1) + ((x 0 32) + 1)) < 0 ∨ 15 ≤ ((3 * a1) + ((x 0 32) + 1)).toNatClampNeg then
                none
                else
                (fn_bv (fn_ev 1 (n + 2000) d 108 [.ref 0, .int a1, .int (x 18 ((3 * a1) + ((x 0 32) + 1)).toNatClampNeg), .int 1, .int (x 19 ((3 * a1) + ((x 0 32) + 1)).toNatClampNeg), .int 1] (fn_w x 0 32 ((x 0 32) + 1))) (fun y3 =>
                  some (y3, none)))))))))
    else
    (if (x 0 33) = 7 then
      (fn_bv (fn_ev 1 (n + 2000) d 113 [.ref 0, .int a1, .int 7] x) (fun y9 =>
        some (y9, none)))
      else
      (fn_bv (fn_ev 1 (n + 2000) d 113 [.ref 0, .int a1, .int 6] x) (fun y8 =>
        some (y8, none))))) :=
  fn_ev_t (dd := fn_d114) (lo := [(0, .ref 0), (1, .int a1)]) (sp := []) rfl rfl rfl (fc_Model_goOn (fn_ev 1 (n + 2000) d) (fn_run 1 (fn_ev 1 (n + 2000) d) (fn_lk fn_d114)) (n + 1944) a1 x)
