set_option maxRecDepth 20000 in
theorem fc_Model_node (cf : Nat → List Value → fn_M → Option fn_R) (K : Nat → fn_K) (m : Nat) (a1 : Int32) (x : fn_M) : fn_runc 1 cf (fn_lk fn_d84) [] K (m + 9) 0 [(0, .int a1)] [] x =
  (if a1 < 1 then
    some (x, some (.int 0))
    else
    (if 4 < a1 then
      some (x, some (.int 0))
      else
      some (x, some (.int 1)))) := rfl
theorem ft_Model_node (n d : Nat) (a1 : Int32) (x : fn_M) : fn_ev 1 (n + 2000) (d + 1) 84 [.int a1] x =
  (if a1 < 1 then
    some (x, some (.int 0))
    else
    (if 4 < a1 then
      some (x, some (.int 0))
      else
      some (x, some (.int 1)))) :=
  fn_ev_t (dd := fn_d84) (lo := [(0, .int a1)]) (sp := []) rfl rfl rfl (fc_Model_node (fn_ev 1 (n + 2000) d) (fn_run 1 (fn_ev 1 (n + 2000) d) (fn_lk fn_d84)) (n + 1991) a1 x)
set_option maxRecDepth 20000 in
theorem fc_Model_in (cf : Nat → List Value → fn_M → Option fn_R) (K : Nat → fn_K) (m : Nat) (a1 a2 a3 : Int32) (x : fn_M) : fn_runc 1 cf (fn_lk fn_d85) [] K (m + 9) 0 [(0, .int a1), (1, .int a2), (2, .int a3)] [] x =
  (if a1 < a2 then
    some (x, some (.int 0))
    else
    (if a3 < a1 then
      some (x, some (.int 0))
      else
      some (x, some (.int 1)))) := rfl
theorem ft_Model_in (n d : Nat) (a1 a2 a3 : Int32) (x : fn_M) : fn_ev 1 (n + 2000) (d + 1) 85 [.int a1, .int a2, .int a3] x =
  (if a1 < a2 then
    some (x, some (.int 0))
    else
    (if a3 < a1 then
      some (x, some (.int 0))
      else
      some (x, some (.int 1)))) :=
  fn_ev_t (dd := fn_d85) (lo := [(0, .int a1), (1, .int a2), (2, .int a3)]) (sp := []) rfl rfl rfl (fc_Model_in (fn_ev 1 (n + 2000) d) (fn_run 1 (fn_ev 1 (n + 2000) d) (fn_lk fn_d85)) (n + 1991) a1 a2 a3 x)
set_option maxRecDepth 20000 in
theorem fc_Model_of (cf : Nat → List Value → fn_M → Option fn_R) (K : Nat → fn_K) (m : Nat) (a1 a2 : Int32) (x : fn_M) : fn_runc 1 cf (fn_lk fn_d86) [] K (m + 9) 0 [(0, .ref 0), (1, .int a1), (2, .int a2)] [] x =
  (if ((16 * a1) + a2) < 0 ∨ 80 ≤ ((16 * a1) + a2).toNatClampNeg then
    none
    else
    some (x, some (.int (x 2 ((16 * a1) + a2).toNatClampNeg)))) := rfl
theorem ft_Model_of (n d : Nat) (a1 a2 : Int32) (x : fn_M) : fn_ev 1 (n + 2000) (d + 1) 86 [.ref 0, .int a1, .int a2] x =
  (if ((16 * a1) + a2) < 0 ∨ 80 ≤ ((16 * a1) + a2).toNatClampNeg then
    none
    else
    some (x, some (.int (x 2 ((16 * a1) + a2).toNatClampNeg)))) :=
  fn_ev_t (dd := fn_d86) (lo := [(0, .ref 0), (1, .int a1), (2, .int a2)]) (sp := []) rfl rfl rfl (fc_Model_of (fn_ev 1 (n + 2000) d) (fn_run 1 (fn_ev 1 (n + 2000) d) (fn_lk fn_d86)) (n + 1991) a1 a2 x)
set_option maxRecDepth 20000 in
theorem fc_Model_put (cf : Nat → List Value → fn_M → Option fn_R) (K : Nat → fn_K) (m : Nat) (a1 a2 a3 a4 a5 : Int32) (x : fn_M) : fn_runc 1 cf (fn_lk fn_d87) [] K (m + 41) 0 [(0, .ref 0), (1, .int a1), (2, .int a2), (3, .int a3), (4, .int a4), (5, .int a5)] [] x =
  (if (x 0 10) = 24 then
    some ((fn_w x 0 16 ((x 0 16) + 1)), none)
    else
    (if (x 0 10) < 0 ∨ 24 ≤ (x 0 10).toNatClampNeg then
      none
      else
      (if (x 0 10) < 0 ∨ 24 ≤ (x 0 10).toNatClampNeg then
        none
        else
        (if (x 0 10) < 0 ∨ 24 ≤ (x 0 10).toNatClampNeg then
          none
          else
          (if (x 0 10) < 0 ∨ 24 ≤ (x 0 10).toNatClampNeg then
            none
            else
            (if (x 0 10) < 0 ∨ 24 ≤ (x 0 10).toNatClampNeg then
              none
              else
              some ((fn_w (fn_w (fn_w (fn_w (fn_w (fn_w x 10 (x 0 10).toNatClampNeg a2) 11 (x 0 10).toNatClampNeg a3) 12 (x 0 10).toNatClampNeg a4) 13 (x 0 10).toNatClampNeg a5) 14 (x 0 10).toNatClampNeg a1) 0 10 ((x 0 10) + 1)), none))))))) := rfl
theorem ft_Model_put (n d : Nat) (a1 a2 a3 a4 a5 : Int32) (x : fn_M) : fn_ev 1 (n + 2000) (d + 1) 87 [.ref 0, .int a1, .int a2, .int a3, .int a4, .int a5] x =
  (if (x 0 10) = 24 then
    some ((fn_w x 0 16 ((x 0 16) + 1)), none)
    else
    (if (x 0 10) < 0 ∨ 24 ≤ (x 0 10).toNatClampNeg then
      none
      else
      (if (x 0 10) < 0 ∨ 24 ≤ (x 0 10).toNatClampNeg then
        none
        else
        (if (x 0 10) < 0 ∨ 24 ≤ (x 0 10).toNatClampNeg then
          none
          else
          (if (x 0 10) < 0 ∨ 24 ≤ (x 0 10).toNatClampNeg then
            none
            else
            (if (x 0 10) < 0 ∨ 24 ≤ (x 0 10).toNatClampNeg then
              none
              else
              some ((fn_w (fn_w (fn_w (fn_w (fn_w (fn_w x 10 (x 0 10).toNatClampNeg a2) 11 (x 0 10).toNatClampNeg a3) 12 (x 0 10).toNatClampNeg a4) 13 (x 0 10).toNatClampNeg a5) 14 (x 0 10).toNatClampNeg a1) 0 10 ((x 0 10) + 1)), none))))))) :=
  fn_ev_t (dd := fn_d87) (lo := [(0, .ref 0), (1, .int a1), (2, .int a2), (3, .int a3), (4, .int a4), (5, .int a5)]) (sp := []) rfl rfl rfl (fc_Model_put (fn_ev 1 (n + 2000) d) (fn_run 1 (fn_ev 1 (n + 2000) d) (fn_lk fn_d87)) (n + 1959) a1 a2 a3 a4 a5 x)
set_option maxRecDepth 20000 in
theorem fc_Model_slot (cf : Nat → List Value → fn_M → Option fn_R) (K : Nat → fn_K) (m : Nat) (x : fn_M) : fn_runc 1 cf (fn_lk fn_d89) [42, 135, 173] K (m + 20) 0 [(0, .ref 0)] [] x =
  (if (x 0 10) = 0 then
    some (x, some (.int 0))
    else
    (if (x 0 18) ≤ 0 then
      K (m + 10) 42 [(0, .ref 0), (1, .int 0), (2, .int 1)] [] x
      else
      some ((fn_w (fn_w x 0 18 ((x 0 18) - 1)) 0 17 ((x 0 17) + 1)), some (.int 0)))) := rfl
theorem ft_Model_slot (n d : Nat) (x : fn_M) : fn_ev 1 (n + 2000) (d + 1) 89 [.ref 0] x =
  (if (x 0 10) = 0 then
    some (x, some (.int 0))
    else
    (if (x 0 18) ≤ 0 then
      fn_run 1 (fn_ev 1 (n + 2000) d) (fn_lk fn_d89) (n + 1990) 42 [(0, .ref 0), (1, .int 0), (2, .int 1)] [] x
      else
      some ((fn_w (fn_w x 0 18 ((x 0 18) - 1)) 0 17 ((x 0 17) + 1)), some (.int 0)))) :=
  fn_ev_t (dd := fn_d89) (lo := [(0, .ref 0)]) (sp := [42, 135, 173]) rfl rfl rfl (fc_Model_slot (fn_ev 1 (n + 2000) d) (fn_run 1 (fn_ev 1 (n + 2000) d) (fn_lk fn_d89)) (n + 1980) x)
set_option maxRecDepth 20000 in
theorem fc_Model_slot_at42 (cf : Nat → List Value → fn_M → Option fn_R) (K : Nat → fn_K) (m : Nat) (l1 l2 : Int32) (x : fn_M) : fn_runc 1 cf (fn_lk fn_d89) [42, 135, 173] K (m + 127) 42 [(0, .ref 0), (1, .int l1), (2, .int l2)] [] x =
  (if (x 0 10) ≤ l2 then
    (if l1 < 0 ∨ 24 ≤ l1.toNatClampNeg then
      none
      else
      (if l1 < 0 ∨ 24 ≤ l1.toNatClampNeg then
        none
        else
        (if l1 < 0 ∨ 24 ≤ l1.toNatClampNeg then
          none
          else
          (if l1 < 0 ∨ 24 ≤ l1.toNatClampNeg then
            none
            else
            (if l1 < 0 ∨ 24 ≤ l1.toNatClampNeg then
              none
              else
              (fn_bv (cf 88 [.ref 0, .int l1] x) (fun y1 =>
                (if (x 14 l1.toNatClampNeg) = 0 then
                K (m + 93) 135 [(0, .ref 0), (1, .int l1), (2, .int (x 10 l1.toNatClampNeg)), (3, .int (x 11 l1.toNatClampNeg)), (4, .int (x 12 l1.toNatClampNeg)), (5, .int (x 13 l1.toNatClampNeg)), (6, .int (x 14 l1.toNatClampNeg))] [] y1
                else
                (fn_bv (cf 106 [.ref 0, .int (x 10 l1.toNatClampNeg), .int (x 11 l1.toNatClampNeg), .int (x 12 l1.toNatClampNeg), .int (x 13 l1.toNatClampNeg)] y1) (fun y2 =>
                  K (m + 87) 135 [(0, .ref 0), (1, .int l1), (2, .int (x 10 l1.toNatClampNeg)), (3, .int (x 11 l1.toNatClampNeg)), (4, .int (x 12 l1.toNatClampNeg)), (5, .int (x 13 l1.toNatClampNeg)), (6, .int (x 14 l1.toNatClampNeg))] [] y2))))))))))
    else
    (if l2 < 0 ∨ 24 ≤ l2.toNatClampNeg then
      none
      else
      (if l1 < 0 ∨ 24 ≤ l1.toNatClampNeg then
        none
        else
        (if (x 10 l1.toNatClampNeg) ≤ (x 10 l2.toNatClampNeg) then
          K (m + 110) 42 [(0, .ref 0), (1, .int l1), (2, .int (l2 + 1))] [] x
          else
          K (m + 109) 42 [(0, .ref 0), (1, .int l2), (2, .int (l2 + 1))] [] x)))) := rfl
theorem ft_Model_slot_at42 (n d m : Nat) (l1 l2 : Int32) (x : fn_M) : fn_run 1 (fn_ev 1 (n + 2000) d) (fn_lk fn_d89) (m + 127) 42 [(0, .ref 0), (1, .int l1), (2, .int l2)] [] x =
  (if (x 0 10) ≤ l2 then
    (if l1 < 0 ∨ 24 ≤ l1.toNatClampNeg then
      none
      else
      (if l1 < 0 ∨ 24 ≤ l1.toNatClampNeg then
        none
        else
        (if l1 < 0 ∨ 24 ≤ l1.toNatClampNeg then
          none
          else
          (if l1 < 0 ∨ 24 ≤ l1.toNatClampNeg then
            none
            else
            (if l1 < 0 ∨ 24 ≤ l1.toNatClampNeg then
              none
              else
              (fn_bv (fn_ev 1 (n + 2000) d 88 [.ref 0, .int l1] x) (fun y1 =>
                (if (x 14 l1.toNatClampNeg) = 0 then
                fn_run 1 (fn_ev 1 (n + 2000) d) (fn_lk fn_d89) (m + 93) 135 [(0, .ref 0), (1, .int l1), (2, .int (x 10 l1.toNatClampNeg)), (3, .int (x 11 l1.toNatClampNeg)), (4, .int (x 12 l1.toNatClampNeg)), (5, .int (x 13 l1.toNatClampNeg)), (6, .int (x 14 l1.toNatClampNeg))] [] y1
                else
                (fn_bv (fn_ev 1 (n + 2000) d 106 [.ref 0, .int (x 10 l1.toNatClampNeg), .int (x 11 l1.toNatClampNeg), .int (x 12 l1.toNatClampNeg), .int (x 13 l1.toNatClampNeg)] y1) (fun y2 =>
                  fn_run 1 (fn_ev 1 (n + 2000) d) (fn_lk fn_d89) (m + 87) 135 [(0, .ref 0), (1, .int l1), (2, .int (x 10 l1.toNatClampNeg)), (3, .int (x 11 l1.toNatClampNeg)), (4, .int (x 12 l1.toNatClampNeg)), (5, .int (x 13 l1.toNatClampNeg)), (6, .int (x 14 l1.toNatClampNeg))] [] y2))))))))))
    else
    (if l2 < 0 ∨ 24 ≤ l2.toNatClampNeg then
      none
      else
      (if l1 < 0 ∨ 24 ≤ l1.toNatClampNeg then
        none
        else
        (if (x 10 l1.toNatClampNeg) ≤ (x 10 l2.toNatClampNeg) then
          fn_run 1 (fn_ev 1 (n + 2000) d) (fn_lk fn_d89) (m + 110) 42 [(0, .ref 0), (1, .int l1), (2, .int (l2 + 1))] [] x
          else
          fn_run 1 (fn_ev 1 (n + 2000) d) (fn_lk fn_d89) (m + 109) 42 [(0, .ref 0), (1, .int l2), (2, .int (l2 + 1))] [] x)))) :=
  (fn_runc_eq 1 (fn_ev 1 (n + 2000) d) (fn_lk fn_d89) [42, 135, 173] (m + 127) 42 [(0, .ref 0), (1, .int l1), (2, .int l2)] [] x).trans (fc_Model_slot_at42 (fn_ev 1 (n + 2000) d) (fn_run 1 (fn_ev 1 (n + 2000) d) (fn_lk fn_d89)) m l1 l2 x)
set_option maxRecDepth 20000 in
theorem fc_Model_slot_at135 (cf : Nat → List Value → fn_M → Option fn_R) (K : Nat → fn_K) (m : Nat) (l1 l2 l3 l4 l5 l6 : Int32) (x : fn_M) : fn_runc 1 cf (fn_lk fn_d89) [42, 135, 173] K (m + 87) 135 [(0, .ref 0), (1, .int l1), (2, .int l2), (3, .int l3), (4, .int l4), (5, .int l5), (6, .int l6)] [] x =
  (if 1 = l6 then
    K (m + 79) 173 [(0, .ref 0), (1, .int l1), (2, .int l2), (3, .int l3), (4, .int l4), (5, .int l5), (6, .int l6), (7, .int 1)] [] x
    else
    (if (x 1 1) = 0 then
      K (m + 74) 173 [(0, .ref 0), (1, .int l1), (2, .int l2), (3, .int l3), (4, .int l4), (5, .int l5), (6, .int l6), (7, .int 1)] [] x
      else
      (fn_bv (cf 97 [.ref 0, .int 1, .int l2, .int l3, .int l4, .int l5] x) (fun y1 =>
        K (m + 67) 173 [(0, .ref 0), (1, .int l1), (2, .int l2), (3, .int l3), (4, .int l4), (5, .int l5), (6, .int l6), (7, .int 1)] [] y1)))) := rfl
theorem ft_Model_slot_at135 (n d m : Nat) (l1 l2 l3 l4 l5 l6 : Int32) (x : fn_M) : fn_run 1 (fn_ev 1 (n + 2000) d) (fn_lk fn_d89) (m + 87) 135 [(0, .ref 0), (1, .int l1), (2, .int l2), (3, .int l3), (4, .int l4), (5, .int l5), (6, .int l6)] [] x =
  (if 1 = l6 then
    fn_run 1 (fn_ev 1 (n + 2000) d) (fn_lk fn_d89) (m + 79) 173 [(0, .ref 0), (1, .int l1), (2, .int l2), (3, .int l3), (4, .int l4), (5, .int l5), (6, .int l6), (7, .int 1)] [] x
    else
    (if (x 1 1) = 0 then
      fn_run 1 (fn_ev 1 (n + 2000) d) (fn_lk fn_d89) (m + 74) 173 [(0, .ref 0), (1, .int l1), (2, .int l2), (3, .int l3), (4, .int l4), (5, .int l5), (6, .int l6), (7, .int 1)] [] x
      else
      (fn_bv (fn_ev 1 (n + 2000) d 97 [.ref 0, .int 1, .int l2, .int l3, .int l4, .int l5] x) (fun y1 =>
        fn_run 1 (fn_ev 1 (n + 2000) d) (fn_lk fn_d89) (m + 67) 173 [(0, .ref 0), (1, .int l1), (2, .int l2), (3, .int l3), (4, .int l4), (5, .int l5), (6, .int l6), (7, .int 1)] [] y1)))) :=
  (fn_runc_eq 1 (fn_ev 1 (n + 2000) d) (fn_lk fn_d89) [42, 135, 173] (m + 87) 135 [(0, .ref 0), (1, .int l1), (2, .int l2), (3, .int l3), (4, .int l4), (5, .int l5), (6, .int l6)] [] x).trans (fc_Model_slot_at135 (fn_ev 1 (n + 2000) d) (fn_run 1 (fn_ev 1 (n + 2000) d) (fn_lk fn_d89)) m l1 l2 l3 l4 l5 l6 x)
set_option maxRecDepth 20000 in
theorem fc_Model_slot_at173_1 (cf : Nat → List Value → fn_M → Option fn_R) (K : Nat → fn_K) (m : Nat) (l1 l2 l3 l4 l5 l6 : Int32) (x : fn_M) : fn_runc 1 cf (fn_lk fn_d89) [42, 135, 173] K (m + 67) 173 [(0, .ref 0), (1, .int l1), (2, .int l2), (3, .int l3), (4, .int l4), (5, .int l5), (6, .int l6), (7, .int 1)] [] x =
  (if 2 = l6 then
    K (m + 59) 173 [(0, .ref 0), (1, .int l1), (2, .int l2), (3, .int l3), (4, .int l4), (5, .int l5), (6, .int l6), (7, .int 2)] [] x
    else
    (if (x 1 2) = 0 then
      K (m + 54) 173 [(0, .ref 0), (1, .int l1), (2, .int l2), (3, .int l3), (4, .int l4), (5, .int l5), (6, .int l6), (7, .int 2)] [] x
      else
      (fn_bv (cf 97 [.ref 0, .int 2, .int l2, .int l3, .int l4, .int l5] x) (fun y1 =>
        K (m + 47) 173 [(0, .ref 0), (1, .int l1), (2, .int l2), (3, .int l3), (4, .int l4), (5, .int l5), (6, .int l6), (7, .int 2)] [] y1)))) := rfl
theorem ft_Model_slot_at173_1 (n d m : Nat) (l1 l2 l3 l4 l5 l6 : Int32) (x : fn_M) : fn_run 1 (fn_ev 1 (n + 2000) d) (fn_lk fn_d89) (m + 67) 173 [(0, .ref 0), (1, .int l1), (2, .int l2), (3, .int l3), (4, .int l4), (5, .int l5), (6, .int l6), (7, .int 1)] [] x =
  (if 2 = l6 then
    fn_run 1 (fn_ev 1 (n + 2000) d) (fn_lk fn_d89) (m + 59) 173 [(0, .ref 0), (1, .int l1), (2, .int l2), (3, .int l3), (4, .int l4), (5, .int l5), (6, .int l6), (7, .int 2)] [] x
    else
    (if (x 1 2) = 0 then
      fn_run 1 (fn_ev 1 (n + 2000) d) (fn_lk fn_d89) (m + 54) 173 [(0, .ref 0), (1, .int l1), (2, .int l2), (3, .int l3), (4, .int l4), (5, .int l5), (6, .int l6), (7, .int 2)] [] x
      else
      (fn_bv (fn_ev 1 (n + 2000) d 97 [.ref 0, .int 2, .int l2, .int l3, .int l4, .int l5] x) (fun y1 =>
        fn_run 1 (fn_ev 1 (n + 2000) d) (fn_lk fn_d89) (m + 47) 173 [(0, .ref 0), (1, .int l1), (2, .int l2), (3, .int l3), (4, .int l4), (5, .int l5), (6, .int l6), (7, .int 2)] [] y1)))) :=
  (fn_runc_eq 1 (fn_ev 1 (n + 2000) d) (fn_lk fn_d89) [42, 135, 173] (m + 67) 173 [(0, .ref 0), (1, .int l1), (2, .int l2), (3, .int l3), (4, .int l4), (5, .int l5), (6, .int l6), (7, .int 1)] [] x).trans (fc_Model_slot_at173_1 (fn_ev 1 (n + 2000) d) (fn_run 1 (fn_ev 1 (n + 2000) d) (fn_lk fn_d89)) m l1 l2 l3 l4 l5 l6 x)
set_option maxRecDepth 20000 in
theorem fc_Model_slot_at173_2 (cf : Nat → List Value → fn_M → Option fn_R) (K : Nat → fn_K) (m : Nat) (l1 l2 l3 l4 l5 l6 : Int32) (x : fn_M) : fn_runc 1 cf (fn_lk fn_d89) [42, 135, 173] K (m + 47) 173 [(0, .ref 0), (1, .int l1), (2, .int l2), (3, .int l3), (4, .int l4), (5, .int l5), (6, .int l6), (7, .int 2)] [] x =
  (if 3 = l6 then
    K (m + 39) 173 [(0, .ref 0), (1, .int l1), (2, .int l2), (3, .int l3), (4, .int l4), (5, .int l5), (6, .int l6), (7, .int 3)] [] x
    else
    (if (x 1 3) = 0 then
      K (m + 34) 173 [(0, .ref 0), (1, .int l1), (2, .int l2), (3, .int l3), (4, .int l4), (5, .int l5), (6, .int l6), (7, .int 3)] [] x
      else
      (fn_bv (cf 97 [.ref 0, .int 3, .int l2, .int l3, .int l4, .int l5] x) (fun y1 =>
        K (m + 27) 173 [(0, .ref 0), (1, .int l1), (2, .int l2), (3, .int l3), (4, .int l4), (5, .int l5), (6, .int l6), (7, .int 3)] [] y1)))) := rfl
theorem ft_Model_slot_at173_2 (n d m : Nat) (l1 l2 l3 l4 l5 l6 : Int32) (x : fn_M) : fn_run 1 (fn_ev 1 (n + 2000) d) (fn_lk fn_d89) (m + 47) 173 [(0, .ref 0), (1, .int l1), (2, .int l2), (3, .int l3), (4, .int l4), (5, .int l5), (6, .int l6), (7, .int 2)] [] x =
  (if 3 = l6 then
    fn_run 1 (fn_ev 1 (n + 2000) d) (fn_lk fn_d89) (m + 39) 173 [(0, .ref 0), (1, .int l1), (2, .int l2), (3, .int l3), (4, .int l4), (5, .int l5), (6, .int l6), (7, .int 3)] [] x
    else
    (if (x 1 3) = 0 then
      fn_run 1 (fn_ev 1 (n + 2000) d) (fn_lk fn_d89) (m + 34) 173 [(0, .ref 0), (1, .int l1), (2, .int l2), (3, .int l3), (4, .int l4), (5, .int l5), (6, .int l6), (7, .int 3)] [] x
      else
      (fn_bv (fn_ev 1 (n + 2000) d 97 [.ref 0, .int 3, .int l2, .int l3, .int l4, .int l5] x) (fun y1 =>
        fn_run 1 (fn_ev 1 (n + 2000) d) (fn_lk fn_d89) (m + 27) 173 [(0, .ref 0), (1, .int l1), (2, .int l2), (3, .int l3), (4, .int l4), (5, .int l5), (6, .int l6), (7, .int 3)] [] y1)))) :=
  (fn_runc_eq 1 (fn_ev 1 (n + 2000) d) (fn_lk fn_d89) [42, 135, 173] (m + 47) 173 [(0, .ref 0), (1, .int l1), (2, .int l2), (3, .int l3), (4, .int l4), (5, .int l5), (6, .int l6), (7, .int 2)] [] x).trans (fc_Model_slot_at173_2 (fn_ev 1 (n + 2000) d) (fn_run 1 (fn_ev 1 (n + 2000) d) (fn_lk fn_d89)) m l1 l2 l3 l4 l5 l6 x)
set_option maxRecDepth 20000 in
theorem fc_Model_slot_at173_3 (cf : Nat → List Value → fn_M → Option fn_R) (K : Nat → fn_K) (m : Nat) (l1 l2 l3 l4 l5 l6 : Int32) (x : fn_M) : fn_runc 1 cf (fn_lk fn_d89) [42, 135, 173] K (m + 27) 173 [(0, .ref 0), (1, .int l1), (2, .int l2), (3, .int l3), (4, .int l4), (5, .int l5), (6, .int l6), (7, .int 3)] [] x =
  (if 4 = l6 then
    K (m + 19) 173 [(0, .ref 0), (1, .int l1), (2, .int l2), (3, .int l3), (4, .int l4), (5, .int l5), (6, .int l6), (7, .int 4)] [] x
    else
    (if (x 1 4) = 0 then
      K (m + 14) 173 [(0, .ref 0), (1, .int l1), (2, .int l2), (3, .int l3), (4, .int l4), (5, .int l5), (6, .int l6), (7, .int 4)] [] x
      else
      (fn_bv (cf 97 [.ref 0, .int 4, .int l2, .int l3, .int l4, .int l5] x) (fun y1 =>
        K (m + 7) 173 [(0, .ref 0), (1, .int l1), (2, .int l2), (3, .int l3), (4, .int l4), (5, .int l5), (6, .int l6), (7, .int 4)] [] y1)))) := rfl
theorem ft_Model_slot_at173_3 (n d m : Nat) (l1 l2 l3 l4 l5 l6 : Int32) (x : fn_M) : fn_run 1 (fn_ev 1 (n + 2000) d) (fn_lk fn_d89) (m + 27) 173 [(0, .ref 0), (1, .int l1), (2, .int l2), (3, .int l3), (4, .int l4), (5, .int l5), (6, .int l6), (7, .int 3)] [] x =
  (if 4 = l6 then
    fn_run 1 (fn_ev 1 (n + 2000) d) (fn_lk fn_d89) (m + 19) 173 [(0, .ref 0), (1, .int l1), (2, .int l2), (3, .int l3), (4, .int l4), (5, .int l5), (6, .int l6), (7, .int 4)] [] x
    else
    (if (x 1 4) = 0 then
      fn_run 1 (fn_ev 1 (n + 2000) d) (fn_lk fn_d89) (m + 14) 173 [(0, .ref 0), (1, .int l1), (2, .int l2), (3, .int l3), (4, .int l4), (5, .int l5), (6, .int l6), (7, .int 4)] [] x
      else
      (fn_bv (fn_ev 1 (n + 2000) d 97 [.ref 0, .int 4, .int l2, .int l3, .int l4, .int l5] x) (fun y1 =>
        fn_run 1 (fn_ev 1 (n + 2000) d) (fn_lk fn_d89) (m + 7) 173 [(0, .ref 0), (1, .int l1), (2, .int l2), (3, .int l3), (4, .int l4), (5, .int l5), (6, .int l6), (7, .int 4)] [] y1)))) :=
  (fn_runc_eq 1 (fn_ev 1 (n + 2000) d) (fn_lk fn_d89) [42, 135, 173] (m + 27) 173 [(0, .ref 0), (1, .int l1), (2, .int l2), (3, .int l3), (4, .int l4), (5, .int l5), (6, .int l6), (7, .int 3)] [] x).trans (fc_Model_slot_at173_3 (fn_ev 1 (n + 2000) d) (fn_run 1 (fn_ev 1 (n + 2000) d) (fn_lk fn_d89)) m l1 l2 l3 l4 l5 l6 x)
set_option maxRecDepth 20000 in
theorem fc_Model_slot_at173_4 (cf : Nat → List Value → fn_M → Option fn_R) (K : Nat → fn_K) (m : Nat) (l1 l2 l3 l4 l5 l6 : Int32) (x : fn_M) : fn_runc 1 cf (fn_lk fn_d89) [42, 135, 173] K (m + 7) 173 [(0, .ref 0), (1, .int l1), (2, .int l2), (3, .int l3), (4, .int l4), (5, .int l5), (6, .int l6), (7, .int 4)] [] x =
  some (x, some (.int 1)) := rfl
theorem ft_Model_slot_at173_4 (n d m : Nat) (l1 l2 l3 l4 l5 l6 : Int32) (x : fn_M) : fn_run 1 (fn_ev 1 (n + 2000) d) (fn_lk fn_d89) (m + 7) 173 [(0, .ref 0), (1, .int l1), (2, .int l2), (3, .int l3), (4, .int l4), (5, .int l5), (6, .int l6), (7, .int 4)] [] x =
  some (x, some (.int 1)) :=
  (fn_runc_eq 1 (fn_ev 1 (n + 2000) d) (fn_lk fn_d89) [42, 135, 173] (m + 7) 173 [(0, .ref 0), (1, .int l1), (2, .int l2), (3, .int l3), (4, .int l4), (5, .int l5), (6, .int l6), (7, .int 4)] [] x).trans (fc_Model_slot_at173_4 (fn_ev 1 (n + 2000) d) (fn_run 1 (fn_ev 1 (n + 2000) d) (fn_lk fn_d89)) m l1 l2 l3 l4 l5 l6 x)
set_option maxRecDepth 20000 in
theorem fc_Model_sender (cf : Nat → List Value → fn_M → Option fn_R) (K : Nat → fn_K) (m : Nat) (a1 a2 : Int32) (x : fn_M) : fn_runc 1 cf (fn_lk fn_d90) [] K (m + 10) 0 [(0, .int a1), (1, .int a2)] [] x =
  (fn_bi (cf 84 [.int (a1 - a2)] x) (fun y1 v2 =>
    (if v2 = 0 then
    some (y1, some (.int 0))
    else
    some (y1, some (.int (a1 - a2)))))) := rfl
theorem ft_Model_sender (n d : Nat) (a1 a2 : Int32) (x : fn_M) : fn_ev 1 (n + 2000) (d + 1) 90 [.int a1, .int a2] x =
  (fn_bi (fn_ev 1 (n + 2000) d 84 [.int (a1 - a2)] x) (fun y1 v2 =>
    (if v2 = 0 then
    some (y1, some (.int 0))
    else
    some (y1, some (.int (a1 - a2)))))) :=
  fn_ev_t (dd := fn_d90) (lo := [(0, .int a1), (1, .int a2)]) (sp := []) rfl rfl rfl (fc_Model_sender (fn_ev 1 (n + 2000) d) (fn_run 1 (fn_ev 1 (n + 2000) d) (fn_lk fn_d90)) (n + 1990) a1 a2 x)
set_option maxRecDepth 20000 in
theorem fc_Model_digits (cf : Nat → List Value → fn_M → Option fn_R) (K : Nat → fn_K) (m : Nat) (a1 : Int32) (x : fn_M) : fn_runc 1 cf (fn_lk fn_d92) [] K (m + 12) 0 [(0, .int a1)] [] x =
  (if a1 ≤ 999 then
    (if a1 ≤ 99 then
      (if a1 ≤ 9 then
        some (x, some (.int 1))
        else
        some (x, some (.int 2)))
      else
      some (x, some (.int 3)))
    else
    some (x, some (.int 4))) := rfl
theorem ft_Model_digits (n d : Nat) (a1 : Int32) (x : fn_M) : fn_ev 1 (n + 2000) (d + 1) 92 [.int a1] x =
  (if a1 ≤ 999 then
    (if a1 ≤ 99 then
      (if a1 ≤ 9 then
        some (x, some (.int 1))
        else
        some (x, some (.int 2)))
      else
      some (x, some (.int 3)))
    else
    some (x, some (.int 4))) :=
  fn_ev_t (dd := fn_d92) (lo := [(0, .int a1)]) (sp := []) rfl rfl rfl (fc_Model_digits (fn_ev 1 (n + 2000) d) (fn_run 1 (fn_ev 1 (n + 2000) d) (fn_lk fn_d92)) (n + 1988) a1 x)
set_option maxRecDepth 20000 in
theorem fc_Model_nameSize (cf : Nat → List Value → fn_M → Option fn_R) (K : Nat → fn_K) (m : Nat) (a1 : Int32) (x : fn_M) : fn_runc 1 cf (fn_lk fn_d93) [] K (m + 8) 0 [(0, .ref 0), (1, .int a1)] [] x =
  (fn_bi (cf 86 [.ref 0, .int a1, .int 0] x) (fun y1 v2 =>
    (fn_bi (cf 92 [.int v2] y1) (fun y3 v4 =>
    some (y3, some (.int (7 + v4))))))) := rfl
theorem ft_Model_nameSize (n d : Nat) (a1 : Int32) (x : fn_M) : fn_ev 1 (n + 2000) (d + 1) 93 [.ref 0, .int a1] x =
  (fn_bi (fn_ev 1 (n + 2000) d 86 [.ref 0, .int a1, .int 0] x) (fun y1 v2 =>
    (fn_bi (fn_ev 1 (n + 2000) d 92 [.int v2] y1) (fun y3 v4 =>
    some (y3, some (.int (7 + v4))))))) :=
  fn_ev_t (dd := fn_d93) (lo := [(0, .ref 0), (1, .int a1)]) (sp := []) rfl rfl rfl (fc_Model_nameSize (fn_ev 1 (n + 2000) d) (fn_run 1 (fn_ev 1 (n + 2000) d) (fn_lk fn_d93)) (n + 1992) a1 x)
set_option maxRecDepth 20000 in
theorem fc_Model_nameAt (cf : Nat → List Value → fn_M → Option fn_R) (K : Nat → fn_K) (m : Nat) (a1 a2 : Int32) (x : fn_M) : fn_runc 1 cf (fn_lk fn_d94) [86] K (m + 25) 0 [(0, .ref 0), (1, .int a1), (2, .int a2)] [] x =
  (if 7 ≤ a2 then
    (fn_bi (cf 86 [.ref 0, .int a1, .int 0] x) (fun y1 v2 =>
      (fn_bi (cf 93 [.ref 0, .int a1] y1) (fun y3 v4 =>
      K (m + 11) 86 [(0, .ref 0), (1, .int a1), (2, .int a2), (3, .int v2), (4, .int (v4 - 1))] [] y3))))
    else
    (if a2 = 0 then
      some (x, some (.int 78))
      else
      (if a2 = 1 then
        some (x, some (.int 79))
        else
        (if a2 = 2 then
          some (x, some (.int 68))
          else
          (if a2 = 3 then
            some (x, some (.int 69))
            else
            (if a2 = 4 then
              some (x, some (.int 32))
              else
              (if a2 = 5 then
                some (x, some (.int (48 + a1)))
                else
                some (x, some (.int 58))))))))) := rfl
theorem ft_Model_nameAt (n d : Nat) (a1 a2 : Int32) (x : fn_M) : fn_ev 1 (n + 2000) (d + 1) 94 [.ref 0, .int a1, .int a2] x =
  (if 7 ≤ a2 then
    (fn_bi (fn_ev 1 (n + 2000) d 86 [.ref 0, .int a1, .int 0] x) (fun y1 v2 =>
      (fn_bi (fn_ev 1 (n + 2000) d 93 [.ref 0, .int a1] y1) (fun y3 v4 =>
      fn_run 1 (fn_ev 1 (n + 2000) d) (fn_lk fn_d94) (n + 1986) 86 [(0, .ref 0), (1, .int a1), (2, .int a2), (3, .int v2), (4, .int (v4 - 1))] [] y3))))
    else
    (if a2 = 0 then
      some (x, some (.int 78))
      else
      (if a2 = 1 then
        some (x, some (.int 79))
        else
        (if a2 = 2 then
          some (x, some (.int 68))
          else
          (if a2 = 3 then
            some (x, some (.int 69))
            else
            (if a2 = 4 then
              some (x, some (.int 32))
              else
              (if a2 = 5 then
                some (x, some (.int (48 + a1)))
                else
                some (x, some (.int 58))))))))) :=
  fn_ev_t (dd := fn_d94) (lo := [(0, .ref 0), (1, .int a1), (2, .int a2)]) (sp := [86]) rfl rfl rfl (fc_Model_nameAt (fn_ev 1 (n + 2000) d) (fn_run 1 (fn_ev 1 (n + 2000) d) (fn_lk fn_d94)) (n + 1975) a1 a2 x)
set_option maxRecDepth 20000 in
theorem fc_Model_nameAt_at86 (cf : Nat → List Value → fn_M → Option fn_R) (K : Nat → fn_K) (m : Nat) (l1 l2 l3 l4 : Int32) (x : fn_M) : fn_runc 1 cf (fn_lk fn_d94) [86] K (m + 9) 86 [(0, .ref 0), (1, .int l1), (2, .int l2), (3, .int l3), (4, .int l4)] [] x =
  (if l4 ≤ l2 then
    some (x, some (.int (48 + (l3 - l3 / 10 * 10))))
    else
    K (m + 0) 86 [(0, .ref 0), (1, .int l1), (2, .int l2), (3, .int (l3 / 10)), (4, .int (l4 + (-1)))] [] x) := rfl
theorem ft_Model_nameAt_at86 (n d m : Nat) (l1 l2 l3 l4 : Int32) (x : fn_M) : fn_run 1 (fn_ev 1 (n + 2000) d) (fn_lk fn_d94) (m + 9) 86 [(0, .ref 0), (1, .int l1), (2, .int l2), (3, .int l3), (4, .int l4)] [] x =
  (if l4 ≤ l2 then
    some (x, some (.int (48 + (l3 - l3 / 10 * 10))))
    else
    fn_run 1 (fn_ev 1 (n + 2000) d) (fn_lk fn_d94) (m + 0) 86 [(0, .ref 0), (1, .int l1), (2, .int l2), (3, .int (l3 / 10)), (4, .int (l4 + (-1)))] [] x) :=
  (fn_runc_eq 1 (fn_ev 1 (n + 2000) d) (fn_lk fn_d94) [86] (m + 9) 86 [(0, .ref 0), (1, .int l1), (2, .int l2), (3, .int l3), (4, .int l4)] [] x).trans (fc_Model_nameAt_at86 (fn_ev 1 (n + 2000) d) (fn_run 1 (fn_ev 1 (n + 2000) d) (fn_lk fn_d94)) m l1 l2 l3 l4 x)
set_option maxRecDepth 20000 in
theorem fc_Model_send (cf : Nat → List Value → fn_M → Option fn_R) (K : Nat → fn_K) (m : Nat) (a1 : Int32) (x : fn_M) : fn_runc 1 cf (fn_lk fn_d95) [] K (m + 44) 0 [(0, .ref 0), (1, .int a1)] [] x =
  (fn_bi (cf 86 [.ref 0, .int a1, .int 6] x) (fun y1 v2 =>
    (if v2 = 0 then
    (if v2 = 0 then
      (fn_bv (cf 87 [.ref 0, .int a1, .int (384 + a1), .int 0, .int 0, .int 0] y1) (fun y12 =>
        (if a1 < 0 ∨ 5 ≤ a1.toNatClampNeg then
        none
        else
        (if a1 < 0 ∨ 5 ≤ a1.toNatClampNeg then
          none
          else
          some ((fn_w (fn_w y12 3 a1.toNatClampNeg (y12 0 0)) 4 a1.toNatClampNeg 0), none)))))
      else
      (fn_bi (cf 86 [.ref 0, .int a1, .int (v2 - v2 / 100 * 100)] y1) (fun y9 v10 =>
        (fn_bv (cf 87 [.ref 0, .int a1, .int (384 + a1), .int 0, .int 0, .int v10] y9) (fun y11 =>
        (if a1 < 0 ∨ 5 ≤ a1.toNatClampNeg then
        none
        else
        (if a1 < 0 ∨ 5 ≤ a1.toNatClampNeg then
          none
          else
          some ((fn_w (fn_w y11 3 a1.toNatClampNeg (y11 0 0)) 4 a1.toNatClampNeg 0), none))))))))
    else
    (fn_bi (cf 86 [.ref 0, .int a1, .int (v2 / 100)] y1) (fun y3 v4 =>
      (if v2 = 0 then
      (fn_bv (cf 87 [.ref 0, .int a1, .int (384 + a1), .int 0, .int v4, .int 0] y3) (fun y8 =>
        (if a1 < 0 ∨ 5 ≤ a1.toNatClampNeg then
        none
        else
        (if a1 < 0 ∨ 5 ≤ a1.toNatClampNeg then
          none
          else
          some ((fn_w (fn_w y8 3 a1.toNatClampNeg (y8 0 0)) 4 a1.toNatClampNeg 0), none)))))
      else
      (fn_bi (cf 86 [.ref 0, .int a1, .int (v2 - v2 / 100 * 100)] y3) (fun y5 v6 =>
        (fn_bv (cf 87 [.ref 0, .int a1, .int (384 + a1), .int 0, .int v4, .int v6] y5) (fun y7 =>
        (if a1 < 0 ∨ 5 ≤ a1.toNatClampNeg then
        none
        else
        (if a1 < 0 ∨ 5 ≤ a1.toNatClampNeg then
          none
          else
          some ((fn_w (fn_w y7 3 a1.toNatClampNeg (y7 0 0)) 4 a1.toNatClampNeg 0), none))))))))))))) := rfl
theorem ft_Model_send (n d : Nat) (a1 : Int32) (x : fn_M) : fn_ev 1 (n + 2000) (d + 1) 95 [.ref 0, .int a1] x =
  (fn_bi (fn_ev 1 (n + 2000) d 86 [.ref 0, .int a1, .int 6] x) (fun y1 v2 =>
    (if v2 = 0 then
    (if v2 = 0 then
      (fn_bv (fn_ev 1 (n + 2000) d 87 [.ref 0, .int a1, .int (384 + a1), .int 0, .int 0, .int 0] y1) (fun y12 =>
        (if a1 < 0 ∨ 5 ≤ a1.toNatClampNeg then
        none
        else
        (if a1 < 0 ∨ 5 ≤ a1.toNatClampNeg then
          none
          else
          some ((fn_w (fn_w y12 3 a1.toNatClampNeg (y12 0 0)) 4 a1.toNatClampNeg 0), none)))))
      else
      (fn_bi (fn_ev 1 (n + 2000) d 86 [.ref 0, .int a1, .int (v2 - v2 / 100 * 100)] y1) (fun y9 v10 =>
        (fn_bv (fn_ev 1 (n + 2000) d 87 [.ref 0, .int a1, .int (384 + a1), .int 0, .int 0, .int v10] y9) (fun y11 =>
        (if a1 < 0 ∨ 5 ≤ a1.toNatClampNeg then
        none
        else
        (if a1 < 0 ∨ 5 ≤ a1.toNatClampNeg then
          none
          else
          some ((fn_w (fn_w y11 3 a1.toNatClampNeg (y11 0 0)) 4 a1.toNatClampNeg 0), none))))))))
    else
    (fn_bi (fn_ev 1 (n + 2000) d 86 [.ref 0, .int a1, .int (v2 / 100)] y1) (fun y3 v4 =>
      (if v2 = 0 then
      (fn_bv (fn_ev 1 (n + 2000) d 87 [.ref 0, .int a1, .int (384 + a1), .int 0, .int v4, .int 0] y3) (fun y8 =>
        (if a1 < 0 ∨ 5 ≤ a1.toNatClampNeg then
        none
        else
        (if a1 < 0 ∨ 5 ≤ a1.toNatClampNeg then
          none
          else
          some ((fn_w (fn_w y8 3 a1.toNatClampNeg (y8 0 0)) 4 a1.toNatClampNeg 0), none)))))
      else
      (fn_bi (fn_ev 1 (n + 2000) d 86 [.ref 0, .int a1, .int (v2 - v2 / 100 * 100)] y3) (fun y5 v6 =>
        (fn_bv (fn_ev 1 (n + 2000) d 87 [.ref 0, .int a1, .int (384 + a1), .int 0, .int v4, .int v6] y5) (fun y7 =>
        (if a1 < 0 ∨ 5 ≤ a1.toNatClampNeg then
        none
        else
        (if a1 < 0 ∨ 5 ≤ a1.toNatClampNeg then
          none
          else
          some ((fn_w (fn_w y7 3 a1.toNatClampNeg (y7 0 0)) 4 a1.toNatClampNeg 0), none))))))))))))) :=
  fn_ev_t (dd := fn_d95) (lo := [(0, .ref 0), (1, .int a1)]) (sp := []) rfl rfl rfl (fc_Model_send (fn_ev 1 (n + 2000) d) (fn_run 1 (fn_ev 1 (n + 2000) d) (fn_lk fn_d95)) (n + 1956) a1 x)
set_option maxRecDepth 20000 in
theorem fc_Model_rested (cf : Nat → List Value → fn_M → Option fn_R) (K : Nat → fn_K) (m : Nat) (a1 : Int32) (x : fn_M) : fn_runc 1 cf (fn_lk fn_d96) [] K (m + 20) 0 [(0, .ref 0), (1, .int a1)] [] x =
  (if a1 < 0 ∨ 5 ≤ a1.toNatClampNeg then
    none
    else
    (if (x 3 a1.toNatClampNeg) < 0 then
      some (x, some (.int 1))
      else
      (if a1 < 0 ∨ 5 ≤ a1.toNatClampNeg then
        none
        else
        (fn_bi (cf 86 [.ref 0, .int a1, .int 5] x) (fun y1 v2 =>
          (if (x 0 0) < ((x 3 a1.toNatClampNeg) + v2) then
          some (y1, some (.int 0))
          else
          some (y1, some (.int 1)))))))) := rfl
theorem ft_Model_rested (n d : Nat) (a1 : Int32) (x : fn_M) : fn_ev 1 (n + 2000) (d + 1) 96 [.ref 0, .int a1] x =
  (if a1 < 0 ∨ 5 ≤ a1.toNatClampNeg then
    none
    else
    (if (x 3 a1.toNatClampNeg) < 0 then
      some (x, some (.int 1))
      else
      (if a1 < 0 ∨ 5 ≤ a1.toNatClampNeg then
        none
        else
        (fn_bi (fn_ev 1 (n + 2000) d 86 [.ref 0, .int a1, .int 5] x) (fun y1 v2 =>
          (if (x 0 0) < ((x 3 a1.toNatClampNeg) + v2) then
          some (y1, some (.int 0))
          else
          some (y1, some (.int 1)))))))) :=
  fn_ev_t (dd := fn_d96) (lo := [(0, .ref 0), (1, .int a1)]) (sp := []) rfl rfl rfl (fc_Model_rested (fn_ev 1 (n + 2000) d) (fn_run 1 (fn_ev 1 (n + 2000) d) (fn_lk fn_d96)) (n + 1980) a1 x)
set_option maxRecDepth 20000 in
theorem fc_Model_command (cf : Nat → List Value → fn_M → Option fn_R) (K : Nat → fn_K) (m : Nat) (a1 a2 : Int32) (x : fn_M) : fn_runc 1 cf (fn_lk fn_d98) [] K (m + 31) 0 [(0, .ref 0), (1, .int a1), (2, .int a2)] [] x =
  (if a2 = 1 then
    (if a1 < 0 ∨ 5 ≤ a1.toNatClampNeg then
      none
      else
      (if a2 = 2 then
        (if a1 < 0 ∨ 5 ≤ a1.toNatClampNeg then
          none
          else
          (if a2 = 128 then
            (if a1 < 0 ∨ 5 ≤ a1.toNatClampNeg then
              none
              else
              (if a2 = 129 then
                (fn_bv (cf 91 [.ref 0, .int a1] (fn_w (fn_w (fn_w x 1 a1.toNatClampNeg 5) 1 a1.toNatClampNeg 4) 1 a1.toNatClampNeg 127)) (fun y8 =>
                  some (y8, none)))
                else
                some ((fn_w (fn_w (fn_w x 1 a1.toNatClampNeg 5) 1 a1.toNatClampNeg 4) 1 a1.toNatClampNeg 127), none)))
            else
            (if a2 = 129 then
              (fn_bv (cf 91 [.ref 0, .int a1] (fn_w (fn_w x 1 a1.toNatClampNeg 5) 1 a1.toNatClampNeg 4)) (fun y7 =>
                some (y7, none)))
              else
              some ((fn_w (fn_w x 1 a1.toNatClampNeg 5) 1 a1.toNatClampNeg 4), none))))
        else
        (if a2 = 128 then
          (if a1 < 0 ∨ 5 ≤ a1.toNatClampNeg then
            none
            else
            (if a2 = 129 then
              (fn_bv (cf 91 [.ref 0, .int a1] (fn_w (fn_w x 1 a1.toNatClampNeg 5) 1 a1.toNatClampNeg 127)) (fun y6 =>
                some (y6, none)))
              else
              some ((fn_w (fn_w x 1 a1.toNatClampNeg 5) 1 a1.toNatClampNeg 127), none)))
          else
          (if a2 = 129 then
            (fn_bv (cf 91 [.ref 0, .int a1] (fn_w x 1 a1.toNatClampNeg 5)) (fun y5 =>
              some (y5, none)))
            else
            some ((fn_w x 1 a1.toNatClampNeg 5), none)))))
    else
    (if a2 = 2 then
      (if a1 < 0 ∨ 5 ≤ a1.toNatClampNeg then
        none
        else
        (if a2 = 128 then
          (if a1 < 0 ∨ 5 ≤ a1.toNatClampNeg then
            none
            else
            (if a2 = 129 then
              (fn_bv (cf 91 [.ref 0, .int a1] (fn_w (fn_w x 1 a1.toNatClampNeg 4) 1 a1.toNatClampNeg 127)) (fun y4 =>
                some (y4, none)))
              else
              some ((fn_w (fn_w x 1 a1.toNatClampNeg 4) 1 a1.toNatClampNeg 127), none)))
          else
          (if a2 = 129 then
            (fn_bv (cf 91 [.ref 0, .int a1] (fn_w x 1 a1.toNatClampNeg 4)) (fun y3 =>
              some (y3, none)))
            else
            some ((fn_w x 1 a1.toNatClampNeg 4), none))))
      else
      (if a2 = 128 then
        (if a1 < 0 ∨ 5 ≤ a1.toNatClampNeg then
          none
          else
          (if a2 = 129 then
            (fn_bv (cf 91 [.ref 0, .int a1] (fn_w x 1 a1.toNatClampNeg 127)) (fun y2 =>
              some (y2, none)))
            else
            some ((fn_w x 1 a1.toNatClampNeg 127), none)))
        else
        (if a2 = 129 then
          (fn_bv (cf 91 [.ref 0, .int a1] x) (fun y1 =>
            some (y1, none)))
          else
          some (x, none))))) := rfl
theorem ft_Model_command (n d : Nat) (a1 a2 : Int32) (x : fn_M) : fn_ev 1 (n + 2000) (d + 1) 98 [.ref 0, .int a1, .int a2] x =
  (if a2 = 1 then
    (if a1 < 0 ∨ 5 ≤ a1.toNatClampNeg then
      none
      else
      (if a2 = 2 then
        (if a1 < 0 ∨ 5 ≤ a1.toNatClampNeg then
          none
          else
          (if a2 = 128 then
            (if a1 < 0 ∨ 5 ≤ a1.toNatClampNeg then
              none
              else
              (if a2 = 129 then
                (fn_bv (fn_ev 1 (n + 2000) d 91 [.ref 0, .int a1] (fn_w (fn_w (fn_w x 1 a1.toNatClampNeg 5) 1 a1.toNatClampNeg 4) 1 a1.toNatClampNeg 127)) (fun y8 =>
                  some (y8, none)))
                else
                some ((fn_w (fn_w (fn_w x 1 a1.toNatClampNeg 5) 1 a1.toNatClampNeg 4) 1 a1.toNatClampNeg 127), none)))
            else
            (if a2 = 129 then
              (fn_bv (fn_ev 1 (n + 2000) d 91 [.ref 0, .int a1] (fn_w (fn_w x 1 a1.toNatClampNeg 5) 1 a1.toNatClampNeg 4)) (fun y7 =>
                some (y7, none)))
              else
              some ((fn_w (fn_w x 1 a1.toNatClampNeg 5) 1 a1.toNatClampNeg 4), none))))
        else
        (if a2 = 128 then
          (if a1 < 0 ∨ 5 ≤ a1.toNatClampNeg then
            none
            else
            (if a2 = 129 then
              (fn_bv (fn_ev 1 (n + 2000) d 91 [.ref 0, .int a1] (fn_w (fn_w x 1 a1.toNatClampNeg 5) 1 a1.toNatClampNeg 127)) (fun y6 =>
                some (y6, none)))
              else
              some ((fn_w (fn_w x 1 a1.toNatClampNeg 5) 1 a1.toNatClampNeg 127), none)))
          else
          (if a2 = 129 then
            (fn_bv (fn_ev 1 (n + 2000) d 91 [.ref 0, .int a1] (fn_w x 1 a1.toNatClampNeg 5)) (fun y5 =>
              some (y5, none)))
            else
            some ((fn_w x 1 a1.toNatClampNeg 5), none)))))
    else
    (if a2 = 2 then
      (if a1 < 0 ∨ 5 ≤ a1.toNatClampNeg then
        none
        else
        (if a2 = 128 then
          (if a1 < 0 ∨ 5 ≤ a1.toNatClampNeg then
            none
            else
            (if a2 = 129 then
              (fn_bv (fn_ev 1 (n + 2000) d 91 [.ref 0, .int a1] (fn_w (fn_w x 1 a1.toNatClampNeg 4) 1 a1.toNatClampNeg 127)) (fun y4 =>
                some (y4, none)))
              else
              some ((fn_w (fn_w x 1 a1.toNatClampNeg 4) 1 a1.toNatClampNeg 127), none)))
          else
          (if a2 = 129 then
            (fn_bv (fn_ev 1 (n + 2000) d 91 [.ref 0, .int a1] (fn_w x 1 a1.toNatClampNeg 4)) (fun y3 =>
              some (y3, none)))
            else
            some ((fn_w x 1 a1.toNatClampNeg 4), none))))
      else
      (if a2 = 128 then
        (if a1 < 0 ∨ 5 ≤ a1.toNatClampNeg then
          none
          else
          (if a2 = 129 then
            (fn_bv (fn_ev 1 (n + 2000) d 91 [.ref 0, .int a1] (fn_w x 1 a1.toNatClampNeg 127)) (fun y2 =>
              some (y2, none)))
            else
            some ((fn_w x 1 a1.toNatClampNeg 127), none)))
        else
        (if a2 = 129 then
          (fn_bv (fn_ev 1 (n + 2000) d 91 [.ref 0, .int a1] x) (fun y1 =>
            some (y1, none)))
          else
          some (x, none))))) :=
  fn_ev_t (dd := fn_d98) (lo := [(0, .ref 0), (1, .int a1), (2, .int a2)]) (sp := []) rfl rfl rfl (fc_Model_command (fn_ev 1 (n + 2000) d) (fn_run 1 (fn_ev 1 (n + 2000) d) (fn_lk fn_d98)) (n + 1969) a1 a2 x)
set_option maxRecDepth 20000 in
theorem fc_Model_writable (cf : Nat → List Value → fn_M → Option fn_R) (K : Nat → fn_K) (m : Nat) (a1 : Int32) (x : fn_M) : fn_runc 1 cf (fn_lk fn_d99) [] K (m + 13) 0 [(0, .int a1)] [] x =
  (fn_bi (cf 85 [.int a1, .int 2, .int 7] x) (fun y1 v2 =>
    (if v2 = 0 then
    (fn_bi (cf 85 [.int a1, .int 12, .int 15] y1) (fun y3 v4 =>
      (if v4 = 0 then
      some (y3, some (.int 0))
      else
      some (y3, some (.int 1)))))
    else
    some (y1, some (.int 1))))) := rfl
theorem ft_Model_writable (n d : Nat) (a1 : Int32) (x : fn_M) : fn_ev 1 (n + 2000) (d + 1) 99 [.int a1] x =
  (fn_bi (fn_ev 1 (n + 2000) d 85 [.int a1, .int 2, .int 7] x) (fun y1 v2 =>
    (if v2 = 0 then
    (fn_bi (fn_ev 1 (n + 2000) d 85 [.int a1, .int 12, .int 15] y1) (fun y3 v4 =>
      (if v4 = 0 then
      some (y3, some (.int 0))
      else
      some (y3, some (.int 1)))))
    else
    some (y1, some (.int 1))))) :=
  fn_ev_t (dd := fn_d99) (lo := [(0, .int a1)]) (sp := []) rfl rfl rfl (fc_Model_writable (fn_ev 1 (n + 2000) d) (fn_run 1 (fn_ev 1 (n + 2000) d) (fn_lk fn_d99)) (n + 1987) a1 x)
set_option maxRecDepth 20000 in
theorem fc_Model_fits (cf : Nat → List Value → fn_M → Option fn_R) (K : Nat → fn_K) (m : Nat) (a1 a2 a3 : Int32) (x : fn_M) : fn_runc 1 cf (fn_lk fn_d100) [34, 110, 114, 174, 178, 224, 228] K (m + 44) 0 [(0, .int a1), (1, .int a2), (2, .int a3)] [] x =
  (if a2 = 3 then
    (fn_bi (cf 84 [.int (a3 / 100)] x) (fun y21 v22 =>
      (if v22 = 0 then
      K (m + 33) 34 [(0, .int a1), (1, .int a2), (2, .int a3), (3, .int (a3 / 100))] [] y21
      else
      (if (a3 / 100) = a1 then
        K (m + 30) 34 [(0, .int a1), (1, .int a2), (2, .int a3), (3, .int (a3 / 100))] [] y21
        else
        (if a2 = 2 then
          (fn_bi (cf 85 [.int a3, .int 0, .int 50] y21) (fun y39 v40 =>
            (if v40 = 0 ∨ v40 = 1 then
            some (y39, some (.int v40))
            else
            none)))
          else
          (if a2 = 3 then
            (if a3 = 0 then
              K (m + 23) 110 [(0, .int a1), (1, .int a2), (2, .int a3), (3, .int (a3 / 100)), (4, .int 1)] [] y21
              else
              (if a3 ≤ 0 then
                K (m + 21) 114 [(0, .int a1), (1, .int a2), (2, .int a3), (3, .int (a3 / 100)), (4, .int 1)] [] y21
                else
                (fn_bi (cf 85 [.int (a3 - a3 / 100 * 100), .int 1, .int 50] y21) (fun y37 v38 =>
                  (if v38 = 0 then
                  K (m + 12) 114 [(0, .int a1), (1, .int a2), (2, .int a3), (3, .int (a3 / 100)), (4, .int 1)] [] y37
                  else
                  K (m + 12) 110 [(0, .int a1), (1, .int a2), (2, .int a3), (3, .int (a3 / 100)), (4, .int 1)] [] y37)))))
            else
            (if a2 = 4 then
              (fn_bi (cf 85 [.int a3, .int 0, .int 4] y21) (fun y35 v36 =>
                (if v36 = 0 ∨ v36 = 1 then
                some (y35, some (.int v36))
                else
                none)))
              else
              (if a2 = 5 then
                (fn_bi (cf 85 [.int a3, .int 0, .int 20] y21) (fun y33 v34 =>
                  (if v34 = 0 ∨ v34 = 1 then
                  some (y33, some (.int v34))
                  else
                  none)))
                else
                (if a2 = 6 then
                  (if a3 = 0 then
                    K (m + 23) 174 [(0, .int a1), (1, .int a2), (2, .int a3), (3, .int (a3 / 100)), (4, .int 1)] [] y21
                    else
                    (fn_bi (cf 85 [.int a3, .int 0, .int 1111] y21) (fun y27 v28 =>
                      (if v28 = 0 then
                      K (m + 18) 178 [(0, .int a1), (1, .int a2), (2, .int a3), (3, .int (a3 / 100)), (4, .int 1)] [] y27
                      else
                      (fn_bi (cf 85 [.int (a3 / 100), .int 8, .int 11] y27) (fun y29 v30 =>
                        (if v30 = 0 then
                        K (m + 11) 178 [(0, .int a1), (1, .int a2), (2, .int a3), (3, .int (a3 / 100)), (4, .int 1)] [] y29
                        else
                        (fn_bi (cf 85 [.int (a3 - a3 / 100 * 100), .int 8, .int 11] y29) (fun y31 v32 =>
                          (if v32 = 0 then
                          K (m + 4) 178 [(0, .int a1), (1, .int a2), (2, .int a3), (3, .int (a3 / 100)), (4, .int 1)] [] y31
                          else
                          K (m + 4) 174 [(0, .int a1), (1, .int a2), (2, .int a3), (3, .int (a3 / 100)), (4, .int 1)] [] y31))))))))))
                  else
                  (if a2 = 7 then
                    (if a3 = 0 then
                      K (m + 23) 224 [(0, .int a1), (1, .int a2), (2, .int a3), (3, .int (a3 / 100)), (4, .int 1)] [] y21
                      else
                      (if a3 ≤ 0 then
                        K (m + 21) 228 [(0, .int a1), (1, .int a2), (2, .int a3), (3, .int (a3 / 100)), (4, .int 1)] [] y21
                        else
                        (fn_bi (cf 85 [.int ((a3 / 100) - (a3 / 100) / 100 * 100), .int 12, .int 15] y21) (fun y23 v24 =>
                          (if v24 = 0 then
                          K (m + 10) 228 [(0, .int a1), (1, .int a2), (2, .int a3), (3, .int (a3 / 100)), (4, .int 1)] [] y23
                          else
                          (fn_bi (cf 85 [.int (a3 - a3 / 100 * 100), .int 12, .int 15] y23) (fun y25 v26 =>
                            (if v26 = 0 then
                            K (m + 3) 228 [(0, .int a1), (1, .int a2), (2, .int a3), (3, .int (a3 / 100)), (4, .int 1)] [] y25
                            else
                            K (m + 3) 224 [(0, .int a1), (1, .int a2), (2, .int a3), (3, .int (a3 / 100)), (4, .int 1)] [] y25))))))))
                    else
                    some (y21, some (.int 1))))))))))))
    else
    (fn_bi (cf 84 [.int (a3 / 10000)] x) (fun y1 v2 =>
      (if v2 = 0 then
      K (m + 34) 34 [(0, .int a1), (1, .int a2), (2, .int a3), (3, .int (a3 / 10000))] [] y1
      else
      (if (a3 / 10000) = a1 then
        K (m + 31) 34 [(0, .int a1), (1, .int a2), (2, .int a3), (3, .int (a3 / 10000))] [] y1
        else
        (if a2 = 2 then
          (fn_bi (cf 85 [.int a3, .int 0, .int 50] y1) (fun y19 v20 =>
            (if v20 = 0 ∨ v20 = 1 then
            some (y19, some (.int v20))
            else
            none)))
          else
          (if a2 = 3 then
            (if a3 = 0 then
              K (m + 24) 110 [(0, .int a1), (1, .int a2), (2, .int a3), (3, .int (a3 / 10000)), (4, .int 1)] [] y1
              else
              (if a3 ≤ 0 then
                K (m + 22) 114 [(0, .int a1), (1, .int a2), (2, .int a3), (3, .int (a3 / 10000)), (4, .int 1)] [] y1
                else
                (fn_bi (cf 85 [.int (a3 - a3 / 100 * 100), .int 1, .int 50] y1) (fun y17 v18 =>
                  (if v18 = 0 then
                  K (m + 13) 114 [(0, .int a1), (1, .int a2), (2, .int a3), (3, .int (a3 / 10000)), (4, .int 1)] [] y17
                  else
                  K (m + 13) 110 [(0, .int a1), (1, .int a2), (2, .int a3), (3, .int (a3 / 10000)), (4, .int 1)] [] y17)))))
            else
            (if a2 = 4 then
              (fn_bi (cf 85 [.int a3, .int 0, .int 4] y1) (fun y15 v16 =>
                (if v16 = 0 ∨ v16 = 1 then
                some (y15, some (.int v16))
                else
                none)))
              else
              (if a2 = 5 then
                (fn_bi (cf 85 [.int a3, .int 0, .int 20] y1) (fun y13 v14 =>
                  (if v14 = 0 ∨ v14 = 1 then
                  some (y13, some (.int v14))
                  else
                  none)))
                else
                (if a2 = 6 then
                  (if a3 = 0 then
                    K (m + 24) 174 [(0, .int a1), (1, .int a2), (2, .int a3), (3, .int (a3 / 10000)), (4, .int 1)] [] y1
                    else
                    (fn_bi (cf 85 [.int a3, .int 0, .int 1111] y1) (fun y7 v8 =>
                      (if v8 = 0 then
                      K (m + 19) 178 [(0, .int a1), (1, .int a2), (2, .int a3), (3, .int (a3 / 10000)), (4, .int 1)] [] y7
                      else
                      (fn_bi (cf 85 [.int (a3 / 100), .int 8, .int 11] y7) (fun y9 v10 =>
                        (if v10 = 0 then
                        K (m + 12) 178 [(0, .int a1), (1, .int a2), (2, .int a3), (3, .int (a3 / 10000)), (4, .int 1)] [] y9
                        else
                        (fn_bi (cf 85 [.int (a3 - a3 / 100 * 100), .int 8, .int 11] y9) (fun y11 v12 =>
                          (if v12 = 0 then
                          K (m + 5) 178 [(0, .int a1), (1, .int a2), (2, .int a3), (3, .int (a3 / 10000)), (4, .int 1)] [] y11
                          else
                          K (m + 5) 174 [(0, .int a1), (1, .int a2), (2, .int a3), (3, .int (a3 / 10000)), (4, .int 1)] [] y11))))))))))
                  else
                  (if a2 = 7 then
                    (if a3 = 0 then
                      K (m + 24) 224 [(0, .int a1), (1, .int a2), (2, .int a3), (3, .int (a3 / 10000)), (4, .int 1)] [] y1
                      else
                      (if a3 ≤ 0 then
                        K (m + 22) 228 [(0, .int a1), (1, .int a2), (2, .int a3), (3, .int (a3 / 10000)), (4, .int 1)] [] y1
                        else
                        (fn_bi (cf 85 [.int ((a3 / 100) - (a3 / 100) / 100 * 100), .int 12, .int 15] y1) (fun y3 v4 =>
                          (if v4 = 0 then
                          K (m + 11) 228 [(0, .int a1), (1, .int a2), (2, .int a3), (3, .int (a3 / 10000)), (4, .int 1)] [] y3
                          else
                          (fn_bi (cf 85 [.int (a3 - a3 / 100 * 100), .int 12, .int 15] y3) (fun y5 v6 =>
                            (if v6 = 0 then
                            K (m + 4) 228 [(0, .int a1), (1, .int a2), (2, .int a3), (3, .int (a3 / 10000)), (4, .int 1)] [] y5
                            else
                            K (m + 4) 224 [(0, .int a1), (1, .int a2), (2, .int a3), (3, .int (a3 / 10000)), (4, .int 1)] [] y5))))))))
                    else
                    some (y1, some (.int 1))))))))))))) := rfl
theorem ft_Model_fits (n d : Nat) (a1 a2 a3 : Int32) (x : fn_M) : fn_ev 1 (n + 2000) (d + 1) 100 [.int a1, .int a2, .int a3] x =
  (if a2 = 3 then
    (fn_bi (fn_ev 1 (n + 2000) d 84 [.int (a3 / 100)] x) (fun y21 v22 =>
      (if v22 = 0 then
      fn_run 1 (fn_ev 1 (n + 2000) d) (fn_lk fn_d100) (n + 1989) 34 [(0, .int a1), (1, .int a2), (2, .int a3), (3, .int (a3 / 100))] [] y21
      else
      (if (a3 / 100) = a1 then
        fn_run 1 (fn_ev 1 (n + 2000) d) (fn_lk fn_d100) (n + 1986) 34 [(0, .int a1), (1, .int a2), (2, .int a3), (3, .int (a3 / 100))] [] y21
        else
        (if a2 = 2 then
          (fn_bi (fn_ev 1 (n + 2000) d 85 [.int a3, .int 0, .int 50] y21) (fun y39 v40 =>
            (if v40 = 0 ∨ v40 = 1 then
            some (y39, some (.int v40))
            else
            none)))
          else
          (if a2 = 3 then
            (if a3 = 0 then
              fn_run 1 (fn_ev 1 (n + 2000) d) (fn_lk fn_d100) (n + 1979) 110 [(0, .int a1), (1, .int a2), (2, .int a3), (3, .int (a3 / 100)), (4, .int 1)] [] y21
              else
              (if a3 ≤ 0 then
                fn_run 1 (fn_ev 1 (n + 2000) d) (fn_lk fn_d100) (n + 1977) 114 [(0, .int a1), (1, .int a2), (2, .int a3), (3, .int (a3 / 100)), (4, .int 1)] [] y21
                else
                (fn_bi (fn_ev 1 (n + 2000) d 85 [.int (a3 - a3 / 100 * 100), .int 1, .int 50] y21) (fun y37 v38 =>
                  (if v38 = 0 then
                  fn_run 1 (fn_ev 1 (n + 2000) d) (fn_lk fn_d100) (n + 1968) 114 [(0, .int a1), (1, .int a2), (2, .int a3), (3, .int (a3 / 100)), (4, .int 1)] [] y37
                  else
                  fn_run 1 (fn_ev 1 (n + 2000) d) (fn_lk fn_d100) (n + 1968) 110 [(0, .int a1), (1, .int a2), (2, .int a3), (3, .int (a3 / 100)), (4, .int 1)] [] y37)))))
            else
            (if a2 = 4 then
              (fn_bi (fn_ev 1 (n + 2000) d 85 [.int a3, .int 0, .int 4] y21) (fun y35 v36 =>
                (if v36 = 0 ∨ v36 = 1 then
                some (y35, some (.int v36))
                else
                none)))
              else
              (if a2 = 5 then
                (fn_bi (fn_ev 1 (n + 2000) d 85 [.int a3, .int 0, .int 20] y21) (fun y33 v34 =>
                  (if v34 = 0 ∨ v34 = 1 then
                  some (y33, some (.int v34))
                  else
                  none)))
                else
                (if a2 = 6 then
                  (if a3 = 0 then
                    fn_run 1 (fn_ev 1 (n + 2000) d) (fn_lk fn_d100) (n + 1979) 174 [(0, .int a1), (1, .int a2), (2, .int a3), (3, .int (a3 / 100)), (4, .int 1)] [] y21
                    else
                    (fn_bi (fn_ev 1 (n + 2000) d 85 [.int a3, .int 0, .int 1111] y21) (fun y27 v28 =>
                      (if v28 = 0 then
                      fn_run 1 (fn_ev 1 (n + 2000) d) (fn_lk fn_d100) (n + 1974) 178 [(0, .int a1), (1, .int a2), (2, .int a3), (3, .int (a3 / 100)), (4, .int 1)] [] y27
                      else
                      (fn_bi (fn_ev 1 (n + 2000) d 85 [.int (a3 / 100), .int 8, .int 11] y27) (fun y29 v30 =>
                        (if v30 = 0 then
                        fn_run 1 (fn_ev 1 (n + 2000) d) (fn_lk fn_d100) (n + 1967) 178 [(0, .int a1), (1, .int a2), (2, .int a3), (3, .int (a3 / 100)), (4, .int 1)] [] y29
                        else
                        (fn_bi (fn_ev 1 (n + 2000) d 85 [.int (a3 - a3 / 100 * 100), .int 8, .int 11] y29) (fun y31 v32 =>
                          (if v32 = 0 then
                          fn_run 1 (fn_ev 1 (n + 2000) d) (fn_lk fn_d100) (n + 1960) 178 [(0, .int a1), (1, .int a2), (2, .int a3), (3, .int (a3 / 100)), (4, .int 1)] [] y31
                          else
                          fn_run 1 (fn_ev 1 (n + 2000) d) (fn_lk fn_d100) (n + 1960) 174 [(0, .int a1), (1, .int a2), (2, .int a3), (3, .int (a3 / 100)), (4, .int 1)] [] y31))))))))))
                  else
                  (if a2 = 7 then
                    (if a3 = 0 then
                      fn_run 1 (fn_ev 1 (n + 2000) d) (fn_lk fn_d100) (n + 1979) 224 [(0, .int a1), (1, .int a2), (2, .int a3), (3, .int (a3 / 100)), (4, .int 1)] [] y21
                      else
                      (if a3 ≤ 0 then
                        fn_run 1 (fn_ev 1 (n + 2000) d) (fn_lk fn_d100) (n + 1977) 228 [(0, .int a1), (1, .int a2), (2, .int a3), (3, .int (a3 / 100)), (4, .int 1)] [] y21
                        else
                        (fn_bi (fn_ev 1 (n + 2000) d 85 [.int ((a3 / 100) - (a3 / 100) / 100 * 100), .int 12, .int 15] y21) (fun y23 v24 =>
                          (if v24 = 0 then
                          fn_run 1 (fn_ev 1 (n + 2000) d) (fn_lk fn_d100) (n + 1966) 228 [(0, .int a1), (1, .int a2), (2, .int a3), (3, .int (a3 / 100)), (4, .int 1)] [] y23
                          else
                          (fn_bi (fn_ev 1 (n + 2000) d 85 [.int (a3 - a3 / 100 * 100), .int 12, .int 15] y23) (fun y25 v26 =>
                            (if v26 = 0 then
                            fn_run 1 (fn_ev 1 (n + 2000) d) (fn_lk fn_d100) (n + 1959) 228 [(0, .int a1), (1, .int a2), (2, .int a3), (3, .int (a3 / 100)), (4, .int 1)] [] y25
                            else
                            fn_run 1 (fn_ev 1 (n + 2000) d) (fn_lk fn_d100) (n + 1959) 224 [(0, .int a1), (1, .int a2), (2, .int a3), (3, .int (a3 / 100)), (4, .int 1)] [] y25))))))))
                    else
                    some (y21, some (.int 1))))))))))))
    else
    (fn_bi (fn_ev 1 (n + 2000) d 84 [.int (a3 / 10000)] x) (fun y1 v2 =>
      (if v2 = 0 then
      fn_run 1 (fn_ev 1 (n + 2000) d) (fn_lk fn_d100) (n + 1990) 34 [(0, .int a1), (1, .int a2), (2, .int a3), (3, .int (a3 / 10000))] [] y1
      else
      (if (a3 / 10000) = a1 then
        fn_run 1 (fn_ev 1 (n + 2000) d) (fn_lk fn_d100) (n + 1987) 34 [(0, .int a1), (1, .int a2), (2, .int a3), (3, .int (a3 / 10000))] [] y1
        else
        (if a2 = 2 then
          (fn_bi (fn_ev 1 (n + 2000) d 85 [.int a3, .int 0, .int 50] y1) (fun y19 v20 =>
            (if v20 = 0 ∨ v20 = 1 then
            some (y19, some (.int v20))
            else
            none)))
          else
          (if a2 = 3 then
            (if a3 = 0 then
              fn_run 1 (fn_ev 1 (n + 2000) d) (fn_lk fn_d100) (n + 1980) 110 [(0, .int a1), (1, .int a2), (2, .int a3), (3, .int (a3 / 10000)), (4, .int 1)] [] y1
              else
              (if a3 ≤ 0 then
                fn_run 1 (fn_ev 1 (n + 2000) d) (fn_lk fn_d100) (n + 1978) 114 [(0, .int a1), (1, .int a2), (2, .int a3), (3, .int (a3 / 10000)), (4, .int 1)] [] y1
                else
                (fn_bi (fn_ev 1 (n + 2000) d 85 [.int (a3 - a3 / 100 * 100), .int 1, .int 50] y1) (fun y17 v18 =>
                  (if v18 = 0 then
                  fn_run 1 (fn_ev 1 (n + 2000) d) (fn_lk fn_d100) (n + 1969) 114 [(0, .int a1), (1, .int a2), (2, .int a3), (3, .int (a3 / 10000)), (4, .int 1)] [] y17
                  else
                  fn_run 1 (fn_ev 1 (n + 2000) d) (fn_lk fn_d100) (n + 1969) 110 [(0, .int a1), (1, .int a2), (2, .int a3), (3, .int (a3 / 10000)), (4, .int 1)] [] y17)))))
            else
            (if a2 = 4 then
              (fn_bi (fn_ev 1 (n + 2000) d 85 [.int a3, .int 0, .int 4] y1) (fun y15 v16 =>
                (if v16 = 0 ∨ v16 = 1 then
                some (y15, some (.int v16))
                else
                none)))
              else
              (if a2 = 5 then
                (fn_bi (fn_ev 1 (n + 2000) d 85 [.int a3, .int 0, .int 20] y1) (fun y13 v14 =>
                  (if v14 = 0 ∨ v14 = 1 then
                  some (y13, some (.int v14))
                  else
                  none)))
                else
                (if a2 = 6 then
                  (if a3 = 0 then
                    fn_run 1 (fn_ev 1 (n + 2000) d) (fn_lk fn_d100) (n + 1980) 174 [(0, .int a1), (1, .int a2), (2, .int a3), (3, .int (a3 / 10000)), (4, .int 1)] [] y1
                    else
                    (fn_bi (fn_ev 1 (n + 2000) d 85 [.int a3, .int 0, .int 1111] y1) (fun y7 v8 =>
                      (if v8 = 0 then
                      fn_run 1 (fn_ev 1 (n + 2000) d) (fn_lk fn_d100) (n + 1975) 178 [(0, .int a1), (1, .int a2), (2, .int a3), (3, .int (a3 / 10000)), (4, .int 1)] [] y7
                      else
                      (fn_bi (fn_ev 1 (n + 2000) d 85 [.int (a3 / 100), .int 8, .int 11] y7) (fun y9 v10 =>
                        (if v10 = 0 then
                        fn_run 1 (fn_ev 1 (n + 2000) d) (fn_lk fn_d100) (n + 1968) 178 [(0, .int a1), (1, .int a2), (2, .int a3), (3, .int (a3 / 10000)), (4, .int 1)] [] y9
                        else
                        (fn_bi (fn_ev 1 (n + 2000) d 85 [.int (a3 - a3 / 100 * 100), .int 8, .int 11] y9) (fun y11 v12 =>
                          (if v12 = 0 then
                          fn_run 1 (fn_ev 1 (n + 2000) d) (fn_lk fn_d100) (n + 1961) 178 [(0, .int a1), (1, .int a2), (2, .int a3), (3, .int (a3 / 10000)), (4, .int 1)] [] y11
                          else
                          fn_run 1 (fn_ev 1 (n + 2000) d) (fn_lk fn_d100) (n + 1961) 174 [(0, .int a1), (1, .int a2), (2, .int a3), (3, .int (a3 / 10000)), (4, .int 1)] [] y11))))))))))
                  else
                  (if a2 = 7 then
                    (if a3 = 0 then
                      fn_run 1 (fn_ev 1 (n + 2000) d) (fn_lk fn_d100) (n + 1980) 224 [(0, .int a1), (1, .int a2), (2, .int a3), (3, .int (a3 / 10000)), (4, .int 1)] [] y1
                      else
                      (if a3 ≤ 0 then
                        fn_run 1 (fn_ev 1 (n + 2000) d) (fn_lk fn_d100) (n + 1978) 228 [(0, .int a1), (1, .int a2), (2, .int a3), (3, .int (a3 / 10000)), (4, .int 1)] [] y1
                        else
                        (fn_bi (fn_ev 1 (n + 2000) d 85 [.int ((a3 / 100) - (a3 / 100) / 100 * 100), .int 12, .int 15] y1) (fun y3 v4 =>
                          (if v4 = 0 then
                          fn_run 1 (fn_ev 1 (n + 2000) d) (fn_lk fn_d100) (n + 1967) 228 [(0, .int a1), (1, .int a2), (2, .int a3), (3, .int (a3 / 10000)), (4, .int 1)] [] y3
                          else
                          (fn_bi (fn_ev 1 (n + 2000) d 85 [.int (a3 - a3 / 100 * 100), .int 12, .int 15] y3) (fun y5 v6 =>
                            (if v6 = 0 then
                            fn_run 1 (fn_ev 1 (n + 2000) d) (fn_lk fn_d100) (n + 1960) 228 [(0, .int a1), (1, .int a2), (2, .int a3), (3, .int (a3 / 10000)), (4, .int 1)] [] y5
                            else
                            fn_run 1 (fn_ev 1 (n + 2000) d) (fn_lk fn_d100) (n + 1960) 224 [(0, .int a1), (1, .int a2), (2, .int a3), (3, .int (a3 / 10000)), (4, .int 1)] [] y5))))))))
                    else
                    some (y1, some (.int 1))))))))))))) :=
  fn_ev_t (dd := fn_d100) (lo := [(0, .int a1), (1, .int a2), (2, .int a3)]) (sp := [34, 110, 114, 174, 178, 224, 228]) rfl rfl rfl (fc_Model_fits (fn_ev 1 (n + 2000) d) (fn_run 1 (fn_ev 1 (n + 2000) d) (fn_lk fn_d100)) (n + 1956) a1 a2 a3 x)
set_option maxRecDepth 20000 in
theorem fc_Model_fits_at34 (cf : Nat → List Value → fn_M → Option fn_R) (K : Nat → fn_K) (m : Nat) (l0 l1 l2 l3 : Int32) (x : fn_M) : fn_runc 1 cf (fn_lk fn_d100) [34, 110, 114, 174, 178, 224, 228] K (m + 28) 34 [(0, .int l0), (1, .int l1), (2, .int l2), (3, .int l3)] [] x =
  (if l1 = 2 then
    (fn_bi (cf 85 [.int l2, .int 0, .int 50] x) (fun y11 v12 =>
      (if v12 = 0 ∨ v12 = 1 then
      some (y11, some (.int v12))
      else
      none)))
    else
    (if l1 = 3 then
      (if l2 = 0 then
        K (m + 22) 110 [(0, .int l0), (1, .int l1), (2, .int l2), (3, .int l3), (4, .int 0)] [] x
        else
        (if l2 ≤ 0 then
          K (m + 20) 114 [(0, .int l0), (1, .int l1), (2, .int l2), (3, .int l3), (4, .int 0)] [] x
          else
          K (m + 18) 114 [(0, .int l0), (1, .int l1), (2, .int l2), (3, .int l3), (4, .int 0)] [] x))
      else
      (if l1 = 4 then
        (fn_bi (cf 85 [.int l2, .int 0, .int 4] x) (fun y9 v10 =>
          (if v10 = 0 ∨ v10 = 1 then
          some (y9, some (.int v10))
          else
          none)))
        else
        (if l1 = 5 then
          (fn_bi (cf 85 [.int l2, .int 0, .int 20] x) (fun y7 v8 =>
            (if v8 = 0 ∨ v8 = 1 then
            some (y7, some (.int v8))
            else
            none)))
          else
          (if l1 = 6 then
            (if l2 = 0 then
              K (m + 22) 174 [(0, .int l0), (1, .int l1), (2, .int l2), (3, .int l3), (4, .int 0)] [] x
              else
              (fn_bi (cf 85 [.int l2, .int 0, .int 1111] x) (fun y1 v2 =>
                (if v2 = 0 then
                K (m + 17) 178 [(0, .int l0), (1, .int l1), (2, .int l2), (3, .int l3), (4, .int 0)] [] y1
                else
                (fn_bi (cf 85 [.int (l2 / 100), .int 8, .int 11] y1) (fun y3 v4 =>
                  (if v4 = 0 then
                  K (m + 10) 178 [(0, .int l0), (1, .int l1), (2, .int l2), (3, .int l3), (4, .int 0)] [] y3
                  else
                  (fn_bi (cf 85 [.int (l2 - l2 / 100 * 100), .int 8, .int 11] y3) (fun y5 v6 =>
                    (if v6 = 0 then
                    K (m + 3) 178 [(0, .int l0), (1, .int l1), (2, .int l2), (3, .int l3), (4, .int 0)] [] y5
                    else
                    K (m + 3) 174 [(0, .int l0), (1, .int l1), (2, .int l2), (3, .int l3), (4, .int 0)] [] y5))))))))))
            else
            (if l1 = 7 then
              (if l2 = 0 then
                K (m + 22) 224 [(0, .int l0), (1, .int l1), (2, .int l2), (3, .int l3), (4, .int 0)] [] x
                else
                (if l2 ≤ 0 then
                  K (m + 20) 228 [(0, .int l0), (1, .int l1), (2, .int l2), (3, .int l3), (4, .int 0)] [] x
                  else
                  K (m + 18) 228 [(0, .int l0), (1, .int l1), (2, .int l2), (3, .int l3), (4, .int 0)] [] x))
              else
              some (x, some (.int 1)))))))) := rfl
theorem ft_Model_fits_at34 (n d m : Nat) (l0 l1 l2 l3 : Int32) (x : fn_M) : fn_run 1 (fn_ev 1 (n + 2000) d) (fn_lk fn_d100) (m + 28) 34 [(0, .int l0), (1, .int l1), (2, .int l2), (3, .int l3)] [] x =
  (if l1 = 2 then
    (fn_bi (fn_ev 1 (n + 2000) d 85 [.int l2, .int 0, .int 50] x) (fun y11 v12 =>
      (if v12 = 0 ∨ v12 = 1 then
      some (y11, some (.int v12))
      else
      none)))
    else
    (if l1 = 3 then
      (if l2 = 0 then
        fn_run 1 (fn_ev 1 (n + 2000) d) (fn_lk fn_d100) (m + 22) 110 [(0, .int l0), (1, .int l1), (2, .int l2), (3, .int l3), (4, .int 0)] [] x
        else
        (if l2 ≤ 0 then
          fn_run 1 (fn_ev 1 (n + 2000) d) (fn_lk fn_d100) (m + 20) 114 [(0, .int l0), (1, .int l1), (2, .int l2), (3, .int l3), (4, .int 0)] [] x
          else
          fn_run 1 (fn_ev 1 (n + 2000) d) (fn_lk fn_d100) (m + 18) 114 [(0, .int l0), (1, .int l1), (2, .int l2), (3, .int l3), (4, .int 0)] [] x))
      else
      (if l1 = 4 then
        (fn_bi (fn_ev 1 (n + 2000) d 85 [.int l2, .int 0, .int 4] x) (fun y9 v10 =>
          (if v10 = 0 ∨ v10 = 1 then
          some (y9, some (.int v10))
          else
          none)))
        else
        (if l1 = 5 then
          (fn_bi (fn_ev 1 (n + 2000) d 85 [.int l2, .int 0, .int 20] x) (fun y7 v8 =>
            (if v8 = 0 ∨ v8 = 1 then
            some (y7, some (.int v8))
            else
            none)))
          else
          (if l1 = 6 then
            (if l2 = 0 then
              fn_run 1 (fn_ev 1 (n + 2000) d) (fn_lk fn_d100) (m + 22) 174 [(0, .int l0), (1, .int l1), (2, .int l2), (3, .int l3), (4, .int 0)] [] x
              else
              (fn_bi (fn_ev 1 (n + 2000) d 85 [.int l2, .int 0, .int 1111] x) (fun y1 v2 =>
                (if v2 = 0 then
                fn_run 1 (fn_ev 1 (n + 2000) d) (fn_lk fn_d100) (m + 17) 178 [(0, .int l0), (1, .int l1), (2, .int l2), (3, .int l3), (4, .int 0)] [] y1
                else
                (fn_bi (fn_ev 1 (n + 2000) d 85 [.int (l2 / 100), .int 8, .int 11] y1) (fun y3 v4 =>
                  (if v4 = 0 then
                  fn_run 1 (fn_ev 1 (n + 2000) d) (fn_lk fn_d100) (m + 10) 178 [(0, .int l0), (1, .int l1), (2, .int l2), (3, .int l3), (4, .int 0)] [] y3
                  else
                  (fn_bi (fn_ev 1 (n + 2000) d 85 [.int (l2 - l2 / 100 * 100), .int 8, .int 11] y3) (fun y5 v6 =>
                    (if v6 = 0 then
                    fn_run 1 (fn_ev 1 (n + 2000) d) (fn_lk fn_d100) (m + 3) 178 [(0, .int l0), (1, .int l1), (2, .int l2), (3, .int l3), (4, .int 0)] [] y5
                    else
                    fn_run 1 (fn_ev 1 (n + 2000) d) (fn_lk fn_d100) (m + 3) 174 [(0, .int l0), (1, .int l1), (2, .int l2), (3, .int l3), (4, .int 0)] [] y5))))))))))
            else
            (if l1 = 7 then
              (if l2 = 0 then
                fn_run 1 (fn_ev 1 (n + 2000) d) (fn_lk fn_d100) (m + 22) 224 [(0, .int l0), (1, .int l1), (2, .int l2), (3, .int l3), (4, .int 0)] [] x
                else
                (if l2 ≤ 0 then
                  fn_run 1 (fn_ev 1 (n + 2000) d) (fn_lk fn_d100) (m + 20) 228 [(0, .int l0), (1, .int l1), (2, .int l2), (3, .int l3), (4, .int 0)] [] x
                  else
                  fn_run 1 (fn_ev 1 (n + 2000) d) (fn_lk fn_d100) (m + 18) 228 [(0, .int l0), (1, .int l1), (2, .int l2), (3, .int l3), (4, .int 0)] [] x))
              else
              some (x, some (.int 1)))))))) :=
  (fn_runc_eq 1 (fn_ev 1 (n + 2000) d) (fn_lk fn_d100) [34, 110, 114, 174, 178, 224, 228] (m + 28) 34 [(0, .int l0), (1, .int l1), (2, .int l2), (3, .int l3)] [] x).trans (fc_Model_fits_at34 (fn_ev 1 (n + 2000) d) (fn_run 1 (fn_ev 1 (n + 2000) d) (fn_lk fn_d100)) m l0 l1 l2 l3 x)
set_option maxRecDepth 20000 in
theorem fc_Model_fits_at110_0 (cf : Nat → List Value → fn_M → Option fn_R) (K : Nat → fn_K) (m : Nat) (l0 l1 l2 l3 : Int32) (x : fn_M) : fn_runc 1 cf (fn_lk fn_d100) [34, 110, 114, 174, 178, 224, 228] K (m + 3) 110 [(0, .int l0), (1, .int l1), (2, .int l2), (3, .int l3), (4, .int 0)] [] x =
  some (x, some (.int 1)) := rfl
theorem ft_Model_fits_at110_0 (n d m : Nat) (l0 l1 l2 l3 : Int32) (x : fn_M) : fn_run 1 (fn_ev 1 (n + 2000) d) (fn_lk fn_d100) (m + 3) 110 [(0, .int l0), (1, .int l1), (2, .int l2), (3, .int l3), (4, .int 0)] [] x =
  some (x, some (.int 1)) :=
  (fn_runc_eq 1 (fn_ev 1 (n + 2000) d) (fn_lk fn_d100) [34, 110, 114, 174, 178, 224, 228] (m + 3) 110 [(0, .int l0), (1, .int l1), (2, .int l2), (3, .int l3), (4, .int 0)] [] x).trans (fc_Model_fits_at110_0 (fn_ev 1 (n + 2000) d) (fn_run 1 (fn_ev 1 (n + 2000) d) (fn_lk fn_d100)) m l0 l1 l2 l3 x)
set_option maxRecDepth 20000 in
theorem fc_Model_fits_at110_1 (cf : Nat → List Value → fn_M → Option fn_R) (K : Nat → fn_K) (m : Nat) (l0 l1 l2 l3 : Int32) (x : fn_M) : fn_runc 1 cf (fn_lk fn_d100) [34, 110, 114, 174, 178, 224, 228] K (m + 3) 110 [(0, .int l0), (1, .int l1), (2, .int l2), (3, .int l3), (4, .int 1)] [] x =
  some (x, some (.int 1)) := rfl
theorem ft_Model_fits_at110_1 (n d m : Nat) (l0 l1 l2 l3 : Int32) (x : fn_M) : fn_run 1 (fn_ev 1 (n + 2000) d) (fn_lk fn_d100) (m + 3) 110 [(0, .int l0), (1, .int l1), (2, .int l2), (3, .int l3), (4, .int 1)] [] x =
  some (x, some (.int 1)) :=
  (fn_runc_eq 1 (fn_ev 1 (n + 2000) d) (fn_lk fn_d100) [34, 110, 114, 174, 178, 224, 228] (m + 3) 110 [(0, .int l0), (1, .int l1), (2, .int l2), (3, .int l3), (4, .int 1)] [] x).trans (fc_Model_fits_at110_1 (fn_ev 1 (n + 2000) d) (fn_run 1 (fn_ev 1 (n + 2000) d) (fn_lk fn_d100)) m l0 l1 l2 l3 x)
set_option maxRecDepth 20000 in
theorem fc_Model_fits_at114_0 (cf : Nat → List Value → fn_M → Option fn_R) (K : Nat → fn_K) (m : Nat) (l0 l1 l2 l3 : Int32) (x : fn_M) : fn_runc 1 cf (fn_lk fn_d100) [34, 110, 114, 174, 178, 224, 228] K (m + 2) 114 [(0, .int l0), (1, .int l1), (2, .int l2), (3, .int l3), (4, .int 0)] [] x =
  some (x, some (.int 0)) := rfl
theorem ft_Model_fits_at114_0 (n d m : Nat) (l0 l1 l2 l3 : Int32) (x : fn_M) : fn_run 1 (fn_ev 1 (n + 2000) d) (fn_lk fn_d100) (m + 2) 114 [(0, .int l0), (1, .int l1), (2, .int l2), (3, .int l3), (4, .int 0)] [] x =
  some (x, some (.int 0)) :=
  (fn_runc_eq 1 (fn_ev 1 (n + 2000) d) (fn_lk fn_d100) [34, 110, 114, 174, 178, 224, 228] (m + 2) 114 [(0, .int l0), (1, .int l1), (2, .int l2), (3, .int l3), (4, .int 0)] [] x).trans (fc_Model_fits_at114_0 (fn_ev 1 (n + 2000) d) (fn_run 1 (fn_ev 1 (n + 2000) d) (fn_lk fn_d100)) m l0 l1 l2 l3 x)
set_option maxRecDepth 20000 in
theorem fc_Model_fits_at114_1 (cf : Nat → List Value → fn_M → Option fn_R) (K : Nat → fn_K) (m : Nat) (l0 l1 l2 l3 : Int32) (x : fn_M) : fn_runc 1 cf (fn_lk fn_d100) [34, 110, 114, 174, 178, 224, 228] K (m + 2) 114 [(0, .int l0), (1, .int l1), (2, .int l2), (3, .int l3), (4, .int 1)] [] x =
  some (x, some (.int 0)) := rfl
theorem ft_Model_fits_at114_1 (n d m : Nat) (l0 l1 l2 l3 : Int32) (x : fn_M) : fn_run 1 (fn_ev 1 (n + 2000) d) (fn_lk fn_d100) (m + 2) 114 [(0, .int l0), (1, .int l1), (2, .int l2), (3, .int l3), (4, .int 1)] [] x =
  some (x, some (.int 0)) :=
  (fn_runc_eq 1 (fn_ev 1 (n + 2000) d) (fn_lk fn_d100) [34, 110, 114, 174, 178, 224, 228] (m + 2) 114 [(0, .int l0), (1, .int l1), (2, .int l2), (3, .int l3), (4, .int 1)] [] x).trans (fc_Model_fits_at114_1 (fn_ev 1 (n + 2000) d) (fn_run 1 (fn_ev 1 (n + 2000) d) (fn_lk fn_d100)) m l0 l1 l2 l3 x)
set_option maxRecDepth 20000 in
theorem fc_Model_fits_at174_0 (cf : Nat → List Value → fn_M → Option fn_R) (K : Nat → fn_K) (m : Nat) (l0 l1 l2 l3 : Int32) (x : fn_M) : fn_runc 1 cf (fn_lk fn_d100) [34, 110, 114, 174, 178, 224, 228] K (m + 3) 174 [(0, .int l0), (1, .int l1), (2, .int l2), (3, .int l3), (4, .int 0)] [] x =
  some (x, some (.int 1)) := rfl
theorem ft_Model_fits_at174_0 (n d m : Nat) (l0 l1 l2 l3 : Int32) (x : fn_M) : fn_run 1 (fn_ev 1 (n + 2000) d) (fn_lk fn_d100) (m + 3) 174 [(0, .int l0), (1, .int l1), (2, .int l2), (3, .int l3), (4, .int 0)] [] x =
  some (x, some (.int 1)) :=
  (fn_runc_eq 1 (fn_ev 1 (n + 2000) d) (fn_lk fn_d100) [34, 110, 114, 174, 178, 224, 228] (m + 3) 174 [(0, .int l0), (1, .int l1), (2, .int l2), (3, .int l3), (4, .int 0)] [] x).trans (fc_Model_fits_at174_0 (fn_ev 1 (n + 2000) d) (fn_run 1 (fn_ev 1 (n + 2000) d) (fn_lk fn_d100)) m l0 l1 l2 l3 x)
set_option maxRecDepth 20000 in
theorem fc_Model_fits_at174_1 (cf : Nat → List Value → fn_M → Option fn_R) (K : Nat → fn_K) (m : Nat) (l0 l1 l2 l3 : Int32) (x : fn_M) : fn_runc 1 cf (fn_lk fn_d100) [34, 110, 114, 174, 178, 224, 228] K (m + 3) 174 [(0, .int l0), (1, .int l1), (2, .int l2), (3, .int l3), (4, .int 1)] [] x =
  some (x, some (.int 1)) := rfl
theorem ft_Model_fits_at174_1 (n d m : Nat) (l0 l1 l2 l3 : Int32) (x : fn_M) : fn_run 1 (fn_ev 1 (n + 2000) d) (fn_lk fn_d100) (m + 3) 174 [(0, .int l0), (1, .int l1), (2, .int l2), (3, .int l3), (4, .int 1)] [] x =
  some (x, some (.int 1)) :=
  (fn_runc_eq 1 (fn_ev 1 (n + 2000) d) (fn_lk fn_d100) [34, 110, 114, 174, 178, 224, 228] (m + 3) 174 [(0, .int l0), (1, .int l1), (2, .int l2), (3, .int l3), (4, .int 1)] [] x).trans (fc_Model_fits_at174_1 (fn_ev 1 (n + 2000) d) (fn_run 1 (fn_ev 1 (n + 2000) d) (fn_lk fn_d100)) m l0 l1 l2 l3 x)
set_option maxRecDepth 20000 in
theorem fc_Model_fits_at178_0 (cf : Nat → List Value → fn_M → Option fn_R) (K : Nat → fn_K) (m : Nat) (l0 l1 l2 l3 : Int32) (x : fn_M) : fn_runc 1 cf (fn_lk fn_d100) [34, 110, 114, 174, 178, 224, 228] K (m + 2) 178 [(0, .int l0), (1, .int l1), (2, .int l2), (3, .int l3), (4, .int 0)] [] x =
  some (x, some (.int 0)) := rfl
theorem ft_Model_fits_at178_0 (n d m : Nat) (l0 l1 l2 l3 : Int32) (x : fn_M) : fn_run 1 (fn_ev 1 (n + 2000) d) (fn_lk fn_d100) (m + 2) 178 [(0, .int l0), (1, .int l1), (2, .int l2), (3, .int l3), (4, .int 0)] [] x =
  some (x, some (.int 0)) :=
  (fn_runc_eq 1 (fn_ev 1 (n + 2000) d) (fn_lk fn_d100) [34, 110, 114, 174, 178, 224, 228] (m + 2) 178 [(0, .int l0), (1, .int l1), (2, .int l2), (3, .int l3), (4, .int 0)] [] x).trans (fc_Model_fits_at178_0 (fn_ev 1 (n + 2000) d) (fn_run 1 (fn_ev 1 (n + 2000) d) (fn_lk fn_d100)) m l0 l1 l2 l3 x)
set_option maxRecDepth 20000 in
theorem fc_Model_fits_at178_1 (cf : Nat → List Value → fn_M → Option fn_R) (K : Nat → fn_K) (m : Nat) (l0 l1 l2 l3 : Int32) (x : fn_M) : fn_runc 1 cf (fn_lk fn_d100) [34, 110, 114, 174, 178, 224, 228] K (m + 2) 178 [(0, .int l0), (1, .int l1), (2, .int l2), (3, .int l3), (4, .int 1)] [] x =
  some (x, some (.int 0)) := rfl
theorem ft_Model_fits_at178_1 (n d m : Nat) (l0 l1 l2 l3 : Int32) (x : fn_M) : fn_run 1 (fn_ev 1 (n + 2000) d) (fn_lk fn_d100) (m + 2) 178 [(0, .int l0), (1, .int l1), (2, .int l2), (3, .int l3), (4, .int 1)] [] x =
  some (x, some (.int 0)) :=
  (fn_runc_eq 1 (fn_ev 1 (n + 2000) d) (fn_lk fn_d100) [34, 110, 114, 174, 178, 224, 228] (m + 2) 178 [(0, .int l0), (1, .int l1), (2, .int l2), (3, .int l3), (4, .int 1)] [] x).trans (fc_Model_fits_at178_1 (fn_ev 1 (n + 2000) d) (fn_run 1 (fn_ev 1 (n + 2000) d) (fn_lk fn_d100)) m l0 l1 l2 l3 x)
set_option maxRecDepth 20000 in
theorem fc_Model_fits_at224_0 (cf : Nat → List Value → fn_M → Option fn_R) (K : Nat → fn_K) (m : Nat) (l0 l1 l2 l3 : Int32) (x : fn_M) : fn_runc 1 cf (fn_lk fn_d100) [34, 110, 114, 174, 178, 224, 228] K (m + 3) 224 [(0, .int l0), (1, .int l1), (2, .int l2), (3, .int l3), (4, .int 0)] [] x =
  some (x, some (.int 1)) := rfl
theorem ft_Model_fits_at224_0 (n d m : Nat) (l0 l1 l2 l3 : Int32) (x : fn_M) : fn_run 1 (fn_ev 1 (n + 2000) d) (fn_lk fn_d100) (m + 3) 224 [(0, .int l0), (1, .int l1), (2, .int l2), (3, .int l3), (4, .int 0)] [] x =
  some (x, some (.int 1)) :=
  (fn_runc_eq 1 (fn_ev 1 (n + 2000) d) (fn_lk fn_d100) [34, 110, 114, 174, 178, 224, 228] (m + 3) 224 [(0, .int l0), (1, .int l1), (2, .int l2), (3, .int l3), (4, .int 0)] [] x).trans (fc_Model_fits_at224_0 (fn_ev 1 (n + 2000) d) (fn_run 1 (fn_ev 1 (n + 2000) d) (fn_lk fn_d100)) m l0 l1 l2 l3 x)
set_option maxRecDepth 20000 in
theorem fc_Model_fits_at224_1 (cf : Nat → List Value → fn_M → Option fn_R) (K : Nat → fn_K) (m : Nat) (l0 l1 l2 l3 : Int32) (x : fn_M) : fn_runc 1 cf (fn_lk fn_d100) [34, 110, 114, 174, 178, 224, 228] K (m + 3) 224 [(0, .int l0), (1, .int l1), (2, .int l2), (3, .int l3), (4, .int 1)] [] x =
  some (x, some (.int 1)) := rfl
theorem ft_Model_fits_at224_1 (n d m : Nat) (l0 l1 l2 l3 : Int32) (x : fn_M) : fn_run 1 (fn_ev 1 (n + 2000) d) (fn_lk fn_d100) (m + 3) 224 [(0, .int l0), (1, .int l1), (2, .int l2), (3, .int l3), (4, .int 1)] [] x =
  some (x, some (.int 1)) :=
  (fn_runc_eq 1 (fn_ev 1 (n + 2000) d) (fn_lk fn_d100) [34, 110, 114, 174, 178, 224, 228] (m + 3) 224 [(0, .int l0), (1, .int l1), (2, .int l2), (3, .int l3), (4, .int 1)] [] x).trans (fc_Model_fits_at224_1 (fn_ev 1 (n + 2000) d) (fn_run 1 (fn_ev 1 (n + 2000) d) (fn_lk fn_d100)) m l0 l1 l2 l3 x)
set_option maxRecDepth 20000 in
theorem fc_Model_fits_at228_0 (cf : Nat → List Value → fn_M → Option fn_R) (K : Nat → fn_K) (m : Nat) (l0 l1 l2 l3 : Int32) (x : fn_M) : fn_runc 1 cf (fn_lk fn_d100) [34, 110, 114, 174, 178, 224, 228] K (m + 2) 228 [(0, .int l0), (1, .int l1), (2, .int l2), (3, .int l3), (4, .int 0)] [] x =
  some (x, some (.int 0)) := rfl
theorem ft_Model_fits_at228_0 (n d m : Nat) (l0 l1 l2 l3 : Int32) (x : fn_M) : fn_run 1 (fn_ev 1 (n + 2000) d) (fn_lk fn_d100) (m + 2) 228 [(0, .int l0), (1, .int l1), (2, .int l2), (3, .int l3), (4, .int 0)] [] x =
  some (x, some (.int 0)) :=
  (fn_runc_eq 1 (fn_ev 1 (n + 2000) d) (fn_lk fn_d100) [34, 110, 114, 174, 178, 224, 228] (m + 2) 228 [(0, .int l0), (1, .int l1), (2, .int l2), (3, .int l3), (4, .int 0)] [] x).trans (fc_Model_fits_at228_0 (fn_ev 1 (n + 2000) d) (fn_run 1 (fn_ev 1 (n + 2000) d) (fn_lk fn_d100)) m l0 l1 l2 l3 x)
set_option maxRecDepth 20000 in
theorem fc_Model_fits_at228_1 (cf : Nat → List Value → fn_M → Option fn_R) (K : Nat → fn_K) (m : Nat) (l0 l1 l2 l3 : Int32) (x : fn_M) : fn_runc 1 cf (fn_lk fn_d100) [34, 110, 114, 174, 178, 224, 228] K (m + 2) 228 [(0, .int l0), (1, .int l1), (2, .int l2), (3, .int l3), (4, .int 1)] [] x =
  some (x, some (.int 0)) := rfl
theorem ft_Model_fits_at228_1 (n d m : Nat) (l0 l1 l2 l3 : Int32) (x : fn_M) : fn_run 1 (fn_ev 1 (n + 2000) d) (fn_lk fn_d100) (m + 2) 228 [(0, .int l0), (1, .int l1), (2, .int l2), (3, .int l3), (4, .int 1)] [] x =
  some (x, some (.int 0)) :=
  (fn_runc_eq 1 (fn_ev 1 (n + 2000) d) (fn_lk fn_d100) [34, 110, 114, 174, 178, 224, 228] (m + 2) 228 [(0, .int l0), (1, .int l1), (2, .int l2), (3, .int l3), (4, .int 1)] [] x).trans (fc_Model_fits_at228_1 (fn_ev 1 (n + 2000) d) (fn_run 1 (fn_ev 1 (n + 2000) d) (fn_lk fn_d100)) m l0 l1 l2 l3 x)
set_option maxRecDepth 20000 in
theorem fc_Model_refusal (cf : Nat → List Value → fn_M → Option fn_R) (K : Nat → fn_K) (m : Nat) (a1 a2 a3 a4 : Int32) (x : fn_M) : fn_runc 1 cf (fn_lk fn_d101) [] K (m + 34) 0 [(0, .ref 0), (1, .int a1), (2, .int a2), (3, .int a3), (4, .int a4)] [] x =
  (fn_bi (cf 85 [.int a3, .int 0, .int 16] x) (fun y1 v2 =>
    (if v2 = 0 then
    some (y1, some (.int 1))
    else
    (if a2 = 2 then
      some (y1, some (.int 0))
      else
      (fn_bi (cf 99 [.int a3] y1) (fun y3 v4 =>
        (if v4 = 0 then
        some (y3, some (.int 2))
        else
        (fn_bi (cf 100 [.int a1, .int a3, .int a4] y3) (fun y5 v6 =>
          (if v6 = 0 then
          some (y5, some (.int 3))
          else
          (if a3 = 4 then
            (if a1 < 0 ∨ 5 ≤ a1.toNatClampNeg then
              none
              else
              (if (y5 1 a1.toNatClampNeg) = 5 then
                some (y5, some (.int 4))
                else
                some (y5, some (.int 0))))
            else
            (if a3 = 6 then
              (if a1 < 0 ∨ 5 ≤ a1.toNatClampNeg then
                none
                else
                (if (y5 1 a1.toNatClampNeg) = 5 then
                  some (y5, some (.int 4))
                  else
                  some (y5, some (.int 0))))
              else
              (if a3 = 7 then
                (if a1 < 0 ∨ 5 ≤ a1.toNatClampNeg then
                  none
                  else
                  (if (y5 1 a1.toNatClampNeg) = 5 then
                    some (y5, some (.int 4))
                    else
                    some (y5, some (.int 0))))
                else
                some (y5, some (.int 0))))))))))))))) := rfl
theorem ft_Model_refusal (n d : Nat) (a1 a2 a3 a4 : Int32) (x : fn_M) : fn_ev 1 (n + 2000) (d + 1) 101 [.ref 0, .int a1, .int a2, .int a3, .int a4] x =
  (fn_bi (fn_ev 1 (n + 2000) d 85 [.int a3, .int 0, .int 16] x) (fun y1 v2 =>
    (if v2 = 0 then
    some (y1, some (.int 1))
    else
    (if a2 = 2 then
      some (y1, some (.int 0))
      else
      (fn_bi (fn_ev 1 (n + 2000) d 99 [.int a3] y1) (fun y3 v4 =>
        (if v4 = 0 then
        some (y3, some (.int 2))
        else
        (fn_bi (fn_ev 1 (n + 2000) d 100 [.int a1, .int a3, .int a4] y3) (fun y5 v6 =>
          (if v6 = 0 then
          some (y5, some (.int 3))
          else
          (if a3 = 4 then
            (if a1 < 0 ∨ 5 ≤ a1.toNatClampNeg then
              none
              else
              (if (y5 1 a1.toNatClampNeg) = 5 then
                some (y5, some (.int 4))
                else
                some (y5, some (.int 0))))
            else
            (if a3 = 6 then
              (if a1 < 0 ∨ 5 ≤ a1.toNatClampNeg then
                none
                else
                (if (y5 1 a1.toNatClampNeg) = 5 then
                  some (y5, some (.int 4))
                  else
                  some (y5, some (.int 0))))
              else
              (if a3 = 7 then
                (if a1 < 0 ∨ 5 ≤ a1.toNatClampNeg then
                  none
                  else
                  (if (y5 1 a1.toNatClampNeg) = 5 then
                    some (y5, some (.int 4))
                    else
                    some (y5, some (.int 0))))
                else
                some (y5, some (.int 0))))))))))))))) :=
  fn_ev_t (dd := fn_d101) (lo := [(0, .ref 0), (1, .int a1), (2, .int a2), (3, .int a3), (4, .int a4)]) (sp := []) rfl rfl rfl (fc_Model_refusal (fn_ev 1 (n + 2000) d) (fn_run 1 (fn_ev 1 (n + 2000) d) (fn_lk fn_d101)) (n + 1966) a1 a2 a3 a4 x)
set_option maxRecDepth 20000 in
theorem fc_Model_request (cf : Nat → List Value → fn_M → Option fn_R) (K : Nat → fn_K) (m : Nat) (a1 a2 a3 a4 : Int32) (x : fn_M) : fn_runc 1 cf (fn_lk fn_d102) [110, 122, 134, 200] K (m + 71) 0 [(0, .ref 0), (1, .int a1), (2, .int a2), (3, .int a3), (4, .int a4)] [] x =
  (fn_bi (cf 85 [.int a2, .int 1, .int 3] x) (fun y1 v2 =>
    (if v2 = 0 then
    (fn_bv (cf 87 [.ref 0, .int a1, .int (1408 + a1), .int 9, .int a3, .int 6] y1) (fun y3 =>
      K (m + 50) 200 [(0, .ref 0), (1, .int a1), (2, .int a2), (3, .int a3), (4, .int a4), (5, .int (1408 + a1)), (6, .int 6)] [] y3))
    else
    (if a2 = 3 then
      (if a2 = 3 then
        (fn_bv (cf 103 [.ref 0, .int a1, .int (1408 + a1), .int a3] y1) (fun y20 =>
          K (m + 45) 200 [(0, .ref 0), (1, .int a1), (2, .int a2), (3, .int a3), (4, .int a4), (5, .int (1408 + a1)), (6, .int 0)] [] y20))
        else
        (if a2 = 1 then
          (if ((16 * a1) + a3) < 0 ∨ 80 ≤ ((16 * a1) + a3).toNatClampNeg then
            none
            else
            (if a3 = 2 then
              (if a1 < 0 ∨ 5 ≤ a1.toNatClampNeg then
                none
                else
                K (m + 30) 110 [(0, .ref 0), (1, .int a1), (2, .int a2), (3, .int a3), (4, .int a4), (5, .int (1408 + a1)), (6, .int 0)] [] (fn_w (fn_w y1 2 ((16 * a1) + a3).toNatClampNeg a4) 9 a1.toNatClampNeg (y1 0 0)))
              else
              K (m + 36) 110 [(0, .ref 0), (1, .int a1), (2, .int a2), (3, .int a3), (4, .int a4), (5, .int (1408 + a1)), (6, .int 0)] [] (fn_w y1 2 ((16 * a1) + a3).toNatClampNeg a4)))
          else
          (if a3 = 16 then
            (if a1 < 0 ∨ 5 ≤ a1.toNatClampNeg then
              none
              else
              (if a1 < 0 ∨ 5 ≤ a1.toNatClampNeg then
                none
                else
                (fn_bi (cf 93 [.ref 0, .int a1] (fn_w (fn_w y1 7 a1.toNatClampNeg 0) 8 a1.toNatClampNeg 0)) (fun y17 v18 =>
                  (fn_bv (cf 87 [.ref 0, .int a1, .int (1408 + a1), .int 3, .int 16, .int v18] y17) (fun y19 =>
                  K (m + 25) 200 [(0, .ref 0), (1, .int a1), (2, .int a2), (3, .int a3), (4, .int a4), (5, .int (1408 + a1)), (6, .int 0)] [] y19))))))
            else
            (fn_bi (cf 86 [.ref 0, .int a1, .int a3] y1) (fun y14 v15 =>
              (fn_bv (cf 87 [.ref 0, .int a1, .int (1408 + a1), .int 2, .int a3, .int v15] y14) (fun y16 =>
              K (m + 35) 200 [(0, .ref 0), (1, .int a1), (2, .int a2), (3, .int a3), (4, .int a4), (5, .int (1408 + a1)), (6, .int 0)] [] y16)))))))
      else
      (fn_bi (cf 101 [.ref 0, .int a1, .int a2, .int a3, .int a4] y1) (fun y4 v5 =>
        (if v5 ≤ 0 then
        (if a2 = 3 then
          (fn_bv (cf 103 [.ref 0, .int a1, .int (1408 + a1), .int a3] y4) (fun y12 =>
            K (m + 40) 200 [(0, .ref 0), (1, .int a1), (2, .int a2), (3, .int a3), (4, .int a4), (5, .int (1408 + a1)), (6, .int v5)] [] y12))
          else
          (if a2 = 1 then
            (if ((16 * a1) + a3) < 0 ∨ 80 ≤ ((16 * a1) + a3).toNatClampNeg then
              none
              else
              (if a3 = 2 then
                (if a1 < 0 ∨ 5 ≤ a1.toNatClampNeg then
                  none
                  else
                  K (m + 25) 110 [(0, .ref 0), (1, .int a1), (2, .int a2), (3, .int a3), (4, .int a4), (5, .int (1408 + a1)), (6, .int v5)] [] (fn_w (fn_w y4 2 ((16 * a1) + a3).toNatClampNeg a4) 9 a1.toNatClampNeg (y4 0 0)))
                else
                K (m + 31) 110 [(0, .ref 0), (1, .int a1), (2, .int a2), (3, .int a3), (4, .int a4), (5, .int (1408 + a1)), (6, .int v5)] [] (fn_w y4 2 ((16 * a1) + a3).toNatClampNeg a4)))
            else
            (if a3 = 16 then
              (if a1 < 0 ∨ 5 ≤ a1.toNatClampNeg then
                none
                else
                (if a1 < 0 ∨ 5 ≤ a1.toNatClampNeg then
                  none
                  else
                  (fn_bi (cf 93 [.ref 0, .int a1] (fn_w (fn_w y4 7 a1.toNatClampNeg 0) 8 a1.toNatClampNeg 0)) (fun y9 v10 =>
                    (fn_bv (cf 87 [.ref 0, .int a1, .int (1408 + a1), .int 3, .int 16, .int v10] y9) (fun y11 =>
                    K (m + 20) 200 [(0, .ref 0), (1, .int a1), (2, .int a2), (3, .int a3), (4, .int a4), (5, .int (1408 + a1)), (6, .int v5)] [] y11))))))
              else
              (fn_bi (cf 86 [.ref 0, .int a1, .int a3] y4) (fun y6 v7 =>
                (fn_bv (cf 87 [.ref 0, .int a1, .int (1408 + a1), .int 2, .int a3, .int v7] y6) (fun y8 =>
                K (m + 30) 200 [(0, .ref 0), (1, .int a1), (2, .int a2), (3, .int a3), (4, .int a4), (5, .int (1408 + a1)), (6, .int v5)] [] y8)))))))
        else
        (fn_bv (cf 87 [.ref 0, .int a1, .int (1408 + a1), .int 9, .int a3, .int v5] y4) (fun y13 =>
          K (m + 41) 200 [(0, .ref 0), (1, .int a1), (2, .int a2), (3, .int a3), (4, .int a4), (5, .int (1408 + a1)), (6, .int v5)] [] y13))))))))) := rfl
theorem ft_Model_request (n d : Nat) (a1 a2 a3 a4 : Int32) (x : fn_M) : fn_ev 1 (n + 2000) (d + 1) 102 [.ref 0, .int a1, .int a2, .int a3, .int a4] x =
  (fn_bi (fn_ev 1 (n + 2000) d 85 [.int a2, .int 1, .int 3] x) (fun y1 v2 =>
    (if v2 = 0 then
    (fn_bv (fn_ev 1 (n + 2000) d 87 [.ref 0, .int a1, .int (1408 + a1), .int 9, .int a3, .int 6] y1) (fun y3 =>
      fn_run 1 (fn_ev 1 (n + 2000) d) (fn_lk fn_d102) (n + 1979) 200 [(0, .ref 0), (1, .int a1), (2, .int a2), (3, .int a3), (4, .int a4), (5, .int (1408 + a1)), (6, .int 6)] [] y3))
    else
    (if a2 = 3 then
      (if a2 = 3 then
        (fn_bv (fn_ev 1 (n + 2000) d 103 [.ref 0, .int a1, .int (1408 + a1), .int a3] y1) (fun y20 =>
          fn_run 1 (fn_ev 1 (n + 2000) d) (fn_lk fn_d102) (n + 1974) 200 [(0, .ref 0), (1, .int a1), (2, .int a2), (3, .int a3), (4, .int a4), (5, .int (1408 + a1)), (6, .int 0)] [] y20))
        else
        (if a2 = 1 then
          (if ((16 * a1) + a3) < 0 ∨ 80 ≤ ((16 * a1) + a3).toNatClampNeg then
            none
            else
            (if a3 = 2 then
              (if a1 < 0 ∨ 5 ≤ a1.toNatClampNeg then
                none
                else
                fn_run 1 (fn_ev 1 (n + 2000) d) (fn_lk fn_d102) (n + 1959) 110 [(0, .ref 0), (1, .int a1), (2, .int a2), (3, .int a3), (4, .int a4), (5, .int (1408 + a1)), (6, .int 0)] [] (fn_w (fn_w y1 2 ((16 * a1) + a3).toNatClampNeg a4) 9 a1.toNatClampNeg (y1 0 0)))
              else
              fn_run 1 (fn_ev 1 (n + 2000) d) (fn_lk fn_d102) (n + 1965) 110 [(0, .ref 0), (1, .int a1), (2, .int a2), (3, .int a3), (4, .int a4), (5, .int (1408 + a1)), (6, .int 0)] [] (fn_w y1 2 ((16 * a1) + a3).toNatClampNeg a4)))
          else
          (if a3 = 16 then
            (if a1 < 0 ∨ 5 ≤ a1.toNatClampNeg then
              none
              else
              (if a1 < 0 ∨ 5 ≤ a1.toNatClampNeg then
                none
                else
                (fn_bi (fn_ev 1 (n + 2000) d 93 [.ref 0, .int a1] (fn_w (fn_w y1 7 a1.toNatClampNeg 0) 8 a1.toNatClampNeg 0)) (fun y17 v18 =>
                  (fn_bv (fn_ev 1 (n + 2000) d 87 [.ref 0, .int a1, .int (1408 + a1), .int 3, .int 16, .int v18] y17) (fun y19 =>
                  fn_run 1 (fn_ev 1 (n + 2000) d) (fn_lk fn_d102) (n + 1954) 200 [(0, .ref 0), (1, .int a1), (2, .int a2), (3, .int a3), (4, .int a4), (5, .int (1408 + a1)), (6, .int 0)] [] y19))))))
            else
            (fn_bi (fn_ev 1 (n + 2000) d 86 [.ref 0, .int a1, .int a3] y1) (fun y14 v15 =>
              (fn_bv (fn_ev 1 (n + 2000) d 87 [.ref 0, .int a1, .int (1408 + a1), .int 2, .int a3, .int v15] y14) (fun y16 =>
              fn_run 1 (fn_ev 1 (n + 2000) d) (fn_lk fn_d102) (n + 1964) 200 [(0, .ref 0), (1, .int a1), (2, .int a2), (3, .int a3), (4, .int a4), (5, .int (1408 + a1)), (6, .int 0)] [] y16)))))))
      else
      (fn_bi (fn_ev 1 (n + 2000) d 101 [.ref 0, .int a1, .int a2, .int a3, .int a4] y1) (fun y4 v5 =>
        (if v5 ≤ 0 then
        (if a2 = 3 then
          (fn_bv (fn_ev 1 (n + 2000) d 103 [.ref 0, .int a1, .int (1408 + a1), .int a3] y4) (fun y12 =>
            fn_run 1 (fn_ev 1 (n + 2000) d) (fn_lk fn_d102) (n + 1969) 200 [(0, .ref 0), (1, .int a1), (2, .int a2), (3, .int a3), (4, .int a4), (5, .int (1408 + a1)), (6, .int v5)] [] y12))
          else
          (if a2 = 1 then
            (if ((16 * a1) + a3) < 0 ∨ 80 ≤ ((16 * a1) + a3).toNatClampNeg then
              none
              else
              (if a3 = 2 then
                (if a1 < 0 ∨ 5 ≤ a1.toNatClampNeg then
                  none
                  else
                  fn_run 1 (fn_ev 1 (n + 2000) d) (fn_lk fn_d102) (n + 1954) 110 [(0, .ref 0), (1, .int a1), (2, .int a2), (3, .int a3), (4, .int a4), (5, .int (1408 + a1)), (6, .int v5)] [] (fn_w (fn_w y4 2 ((16 * a1) + a3).toNatClampNeg a4) 9 a1.toNatClampNeg (y4 0 0)))
                else
                fn_run 1 (fn_ev 1 (n + 2000) d) (fn_lk fn_d102) (n + 1960) 110 [(0, .ref 0), (1, .int a1), (2, .int a2), (3, .int a3), (4, .int a4), (5, .int (1408 + a1)), (6, .int v5)] [] (fn_w y4 2 ((16 * a1) + a3).toNatClampNeg a4)))
            else
            (if a3 = 16 then
              (if a1 < 0 ∨ 5 ≤ a1.toNatClampNeg then
                none
                else
                (if a1 < 0 ∨ 5 ≤ a1.toNatClampNeg then
                  none
                  else
                  (fn_bi (fn_ev 1 (n + 2000) d 93 [.ref 0, .int a1] (fn_w (fn_w y4 7 a1.toNatClampNeg 0) 8 a1.toNatClampNeg 0)) (fun y9 v10 =>
                    (fn_bv (fn_ev 1 (n + 2000) d 87 [.ref 0, .int a1, .int (1408 + a1), .int 3, .int 16, .int v10] y9) (fun y11 =>
                    fn_run 1 (fn_ev 1 (n + 2000) d) (fn_lk fn_d102) (n + 1949) 200 [(0, .ref 0), (1, .int a1), (2, .int a2), (3, .int a3), (4, .int a4), (5, .int (1408 + a1)), (6, .int v5)] [] y11))))))
              else
              (fn_bi (fn_ev 1 (n + 2000) d 86 [.ref 0, .int a1, .int a3] y4) (fun y6 v7 =>
                (fn_bv (fn_ev 1 (n + 2000) d 87 [.ref 0, .int a1, .int (1408 + a1), .int 2, .int a3, .int v7] y6) (fun y8 =>
                fn_run 1 (fn_ev 1 (n + 2000) d) (fn_lk fn_d102) (n + 1959) 200 [(0, .ref 0), (1, .int a1), (2, .int a2), (3, .int a3), (4, .int a4), (5, .int (1408 + a1)), (6, .int v5)] [] y8)))))))
        else
        (fn_bv (fn_ev 1 (n + 2000) d 87 [.ref 0, .int a1, .int (1408 + a1), .int 9, .int a3, .int v5] y4) (fun y13 =>
          fn_run 1 (fn_ev 1 (n + 2000) d) (fn_lk fn_d102) (n + 1970) 200 [(0, .ref 0), (1, .int a1), (2, .int a2), (3, .int a3), (4, .int a4), (5, .int (1408 + a1)), (6, .int v5)] [] y13))))))))) :=
  fn_ev_t (dd := fn_d102) (lo := [(0, .ref 0), (1, .int a1), (2, .int a2), (3, .int a3), (4, .int a4)]) (sp := [110, 122, 134, 200]) rfl rfl rfl (fc_Model_request (fn_ev 1 (n + 2000) d) (fn_run 1 (fn_ev 1 (n + 2000) d) (fn_lk fn_d102)) (n + 1929) a1 a2 a3 a4 x)
set_option maxRecDepth 20000 in
theorem fc_Model_request_at110 (cf : Nat → List Value → fn_M → Option fn_R) (K : Nat → fn_K) (m : Nat) (l1 l2 l3 l4 l5 l6 : Int32) (x : fn_M) : fn_runc 1 cf (fn_lk fn_d102) [110, 122, 134, 200] K (m + 25) 110 [(0, .ref 0), (1, .int l1), (2, .int l2), (3, .int l3), (4, .int l4), (5, .int l5), (6, .int l6)] [] x =
  (if l3 = 3 then
    (if l1 < 0 ∨ 5 ≤ l1.toNatClampNeg then
      none
      else
      K (m + 17) 122 [(0, .ref 0), (1, .int l1), (2, .int l2), (3, .int l3), (4, .int l4), (5, .int l5), (6, .int l6)] [] (fn_w x 6 l1.toNatClampNeg (-1)))
    else
    K (m + 22) 122 [(0, .ref 0), (1, .int l1), (2, .int l2), (3, .int l3), (4, .int l4), (5, .int l5), (6, .int l6)] [] x) := rfl
theorem ft_Model_request_at110 (n d m : Nat) (l1 l2 l3 l4 l5 l6 : Int32) (x : fn_M) : fn_run 1 (fn_ev 1 (n + 2000) d) (fn_lk fn_d102) (m + 25) 110 [(0, .ref 0), (1, .int l1), (2, .int l2), (3, .int l3), (4, .int l4), (5, .int l5), (6, .int l6)] [] x =
  (if l3 = 3 then
    (if l1 < 0 ∨ 5 ≤ l1.toNatClampNeg then
      none
      else
      fn_run 1 (fn_ev 1 (n + 2000) d) (fn_lk fn_d102) (m + 17) 122 [(0, .ref 0), (1, .int l1), (2, .int l2), (3, .int l3), (4, .int l4), (5, .int l5), (6, .int l6)] [] (fn_w x 6 l1.toNatClampNeg (-1)))
    else
    fn_run 1 (fn_ev 1 (n + 2000) d) (fn_lk fn_d102) (m + 22) 122 [(0, .ref 0), (1, .int l1), (2, .int l2), (3, .int l3), (4, .int l4), (5, .int l5), (6, .int l6)] [] x) :=
  (fn_runc_eq 1 (fn_ev 1 (n + 2000) d) (fn_lk fn_d102) [110, 122, 134, 200] (m + 25) 110 [(0, .ref 0), (1, .int l1), (2, .int l2), (3, .int l3), (4, .int l4), (5, .int l5), (6, .int l6)] [] x).trans (fc_Model_request_at110 (fn_ev 1 (n + 2000) d) (fn_run 1 (fn_ev 1 (n + 2000) d) (fn_lk fn_d102)) m l1 l2 l3 l4 l5 l6 x)
set_option maxRecDepth 20000 in
theorem fc_Model_request_at110_0 (cf : Nat → List Value → fn_M → Option fn_R) (K : Nat → fn_K) (m : Nat) (l1 l2 l3 l4 l5 : Int32) (x : fn_M) : fn_runc 1 cf (fn_lk fn_d102) [110, 122, 134, 200] K (m + 25) 110 [(0, .ref 0), (1, .int l1), (2, .int l2), (3, .int l3), (4, .int l4), (5, .int l5), (6, .int 0)] [] x =
  (if l3 = 3 then
    (if l1 < 0 ∨ 5 ≤ l1.toNatClampNeg then
      none
      else
      K (m + 17) 122 [(0, .ref 0), (1, .int l1), (2, .int l2), (3, .int l3), (4, .int l4), (5, .int l5), (6, .int 0)] [] (fn_w x 6 l1.toNatClampNeg (-1)))
    else
    K (m + 22) 122 [(0, .ref 0), (1, .int l1), (2, .int l2), (3, .int l3), (4, .int l4), (5, .int l5), (6, .int 0)] [] x) := rfl
theorem ft_Model_request_at110_0 (n d m : Nat) (l1 l2 l3 l4 l5 : Int32) (x : fn_M) : fn_run 1 (fn_ev 1 (n + 2000) d) (fn_lk fn_d102) (m + 25) 110 [(0, .ref 0), (1, .int l1), (2, .int l2), (3, .int l3), (4, .int l4), (5, .int l5), (6, .int 0)] [] x =
  (if l3 = 3 then
    (if l1 < 0 ∨ 5 ≤ l1.toNatClampNeg then
      none
      else
      fn_run 1 (fn_ev 1 (n + 2000) d) (fn_lk fn_d102) (m + 17) 122 [(0, .ref 0), (1, .int l1), (2, .int l2), (3, .int l3), (4, .int l4), (5, .int l5), (6, .int 0)] [] (fn_w x 6 l1.toNatClampNeg (-1)))
    else
    fn_run 1 (fn_ev 1 (n + 2000) d) (fn_lk fn_d102) (m + 22) 122 [(0, .ref 0), (1, .int l1), (2, .int l2), (3, .int l3), (4, .int l4), (5, .int l5), (6, .int 0)] [] x) :=
  (fn_runc_eq 1 (fn_ev 1 (n + 2000) d) (fn_lk fn_d102) [110, 122, 134, 200] (m + 25) 110 [(0, .ref 0), (1, .int l1), (2, .int l2), (3, .int l3), (4, .int l4), (5, .int l5), (6, .int 0)] [] x).trans (fc_Model_request_at110_0 (fn_ev 1 (n + 2000) d) (fn_run 1 (fn_ev 1 (n + 2000) d) (fn_lk fn_d102)) m l1 l2 l3 l4 l5 x)
set_option maxRecDepth 20000 in
theorem fc_Model_request_at122 (cf : Nat → List Value → fn_M → Option fn_R) (K : Nat → fn_K) (m : Nat) (l1 l2 l3 l4 l5 l6 : Int32) (x : fn_M) : fn_runc 1 cf (fn_lk fn_d102) [110, 122, 134, 200] K (m + 17) 122 [(0, .ref 0), (1, .int l1), (2, .int l2), (3, .int l3), (4, .int l4), (5, .int l5), (6, .int l6)] [] x =
  (if l3 = 4 then
    (if l1 < 0 ∨ 5 ≤ l1.toNatClampNeg then
      none
      else
      K (m + 9) 134 [(0, .ref 0), (1, .int l1), (2, .int l2), (3, .int l3), (4, .int l4), (5, .int l5), (6, .int l6)] [] (fn_w x 5 l1.toNatClampNeg 0))
    else
    K (m + 14) 134 [(0, .ref 0), (1, .int l1), (2, .int l2), (3, .int l3), (4, .int l4), (5, .int l5), (6, .int l6)] [] x) := rfl
theorem ft_Model_request_at122 (n d m : Nat) (l1 l2 l3 l4 l5 l6 : Int32) (x : fn_M) : fn_run 1 (fn_ev 1 (n + 2000) d) (fn_lk fn_d102) (m + 17) 122 [(0, .ref 0), (1, .int l1), (2, .int l2), (3, .int l3), (4, .int l4), (5, .int l5), (6, .int l6)] [] x =
  (if l3 = 4 then
    (if l1 < 0 ∨ 5 ≤ l1.toNatClampNeg then
      none
      else
      fn_run 1 (fn_ev 1 (n + 2000) d) (fn_lk fn_d102) (m + 9) 134 [(0, .ref 0), (1, .int l1), (2, .int l2), (3, .int l3), (4, .int l4), (5, .int l5), (6, .int l6)] [] (fn_w x 5 l1.toNatClampNeg 0))
    else
    fn_run 1 (fn_ev 1 (n + 2000) d) (fn_lk fn_d102) (m + 14) 134 [(0, .ref 0), (1, .int l1), (2, .int l2), (3, .int l3), (4, .int l4), (5, .int l5), (6, .int l6)] [] x) :=
  (fn_runc_eq 1 (fn_ev 1 (n + 2000) d) (fn_lk fn_d102) [110, 122, 134, 200] (m + 17) 122 [(0, .ref 0), (1, .int l1), (2, .int l2), (3, .int l3), (4, .int l4), (5, .int l5), (6, .int l6)] [] x).trans (fc_Model_request_at122 (fn_ev 1 (n + 2000) d) (fn_run 1 (fn_ev 1 (n + 2000) d) (fn_lk fn_d102)) m l1 l2 l3 l4 l5 l6 x)
set_option maxRecDepth 20000 in
theorem fc_Model_request_at122_0 (cf : Nat → List Value → fn_M → Option fn_R) (K : Nat → fn_K) (m : Nat) (l1 l2 l3 l4 l5 : Int32) (x : fn_M) : fn_runc 1 cf (fn_lk fn_d102) [110, 122, 134, 200] K (m + 17) 122 [(0, .ref 0), (1, .int l1), (2, .int l2), (3, .int l3), (4, .int l4), (5, .int l5), (6, .int 0)] [] x =
  (if l3 = 4 then
    (if l1 < 0 ∨ 5 ≤ l1.toNatClampNeg then
      none
      else
      K (m + 9) 134 [(0, .ref 0), (1, .int l1), (2, .int l2), (3, .int l3), (4, .int l4), (5, .int l5), (6, .int 0)] [] (fn_w x 5 l1.toNatClampNeg 0))
    else
    K (m + 14) 134 [(0, .ref 0), (1, .int l1), (2, .int l2), (3, .int l3), (4, .int l4), (5, .int l5), (6, .int 0)] [] x) := rfl
theorem ft_Model_request_at122_0 (n d m : Nat) (l1 l2 l3 l4 l5 : Int32) (x : fn_M) : fn_run 1 (fn_ev 1 (n + 2000) d) (fn_lk fn_d102) (m + 17) 122 [(0, .ref 0), (1, .int l1), (2, .int l2), (3, .int l3), (4, .int l4), (5, .int l5), (6, .int 0)] [] x =
  (if l3 = 4 then
    (if l1 < 0 ∨ 5 ≤ l1.toNatClampNeg then
      none
      else
      fn_run 1 (fn_ev 1 (n + 2000) d) (fn_lk fn_d102) (m + 9) 134 [(0, .ref 0), (1, .int l1), (2, .int l2), (3, .int l3), (4, .int l4), (5, .int l5), (6, .int 0)] [] (fn_w x 5 l1.toNatClampNeg 0))
    else
    fn_run 1 (fn_ev 1 (n + 2000) d) (fn_lk fn_d102) (m + 14) 134 [(0, .ref 0), (1, .int l1), (2, .int l2), (3, .int l3), (4, .int l4), (5, .int l5), (6, .int 0)] [] x) :=
  (fn_runc_eq 1 (fn_ev 1 (n + 2000) d) (fn_lk fn_d102) [110, 122, 134, 200] (m + 17) 122 [(0, .ref 0), (1, .int l1), (2, .int l2), (3, .int l3), (4, .int l4), (5, .int l5), (6, .int 0)] [] x).trans (fc_Model_request_at122_0 (fn_ev 1 (n + 2000) d) (fn_run 1 (fn_ev 1 (n + 2000) d) (fn_lk fn_d102)) m l1 l2 l3 l4 l5 x)
set_option maxRecDepth 20000 in
theorem fc_Model_request_at134 (cf : Nat → List Value → fn_M → Option fn_R) (K : Nat → fn_K) (m : Nat) (l1 l2 l3 l4 l5 l6 : Int32) (x : fn_M) : fn_runc 1 cf (fn_lk fn_d102) [110, 122, 134, 200] K (m + 9) 134 [(0, .ref 0), (1, .int l1), (2, .int l2), (3, .int l3), (4, .int l4), (5, .int l5), (6, .int l6)] [] x =
  (fn_bv (cf 87 [.ref 0, .int l1, .int l5, .int 1, .int l3, .int 0] x) (fun y1 =>
    K (m + 1) 200 [(0, .ref 0), (1, .int l1), (2, .int l2), (3, .int l3), (4, .int l4), (5, .int l5), (6, .int l6)] [] y1)) := rfl
theorem ft_Model_request_at134 (n d m : Nat) (l1 l2 l3 l4 l5 l6 : Int32) (x : fn_M) : fn_run 1 (fn_ev 1 (n + 2000) d) (fn_lk fn_d102) (m + 9) 134 [(0, .ref 0), (1, .int l1), (2, .int l2), (3, .int l3), (4, .int l4), (5, .int l5), (6, .int l6)] [] x =
  (fn_bv (fn_ev 1 (n + 2000) d 87 [.ref 0, .int l1, .int l5, .int 1, .int l3, .int 0] x) (fun y1 =>
    fn_run 1 (fn_ev 1 (n + 2000) d) (fn_lk fn_d102) (m + 1) 200 [(0, .ref 0), (1, .int l1), (2, .int l2), (3, .int l3), (4, .int l4), (5, .int l5), (6, .int l6)] [] y1)) :=
  (fn_runc_eq 1 (fn_ev 1 (n + 2000) d) (fn_lk fn_d102) [110, 122, 134, 200] (m + 9) 134 [(0, .ref 0), (1, .int l1), (2, .int l2), (3, .int l3), (4, .int l4), (5, .int l5), (6, .int l6)] [] x).trans (fc_Model_request_at134 (fn_ev 1 (n + 2000) d) (fn_run 1 (fn_ev 1 (n + 2000) d) (fn_lk fn_d102)) m l1 l2 l3 l4 l5 l6 x)
set_option maxRecDepth 20000 in
theorem fc_Model_request_at134_0 (cf : Nat → List Value → fn_M → Option fn_R) (K : Nat → fn_K) (m : Nat) (l1 l2 l3 l4 l5 : Int32) (x : fn_M) : fn_runc 1 cf (fn_lk fn_d102) [110, 122, 134, 200] K (m + 9) 134 [(0, .ref 0), (1, .int l1), (2, .int l2), (3, .int l3), (4, .int l4), (5, .int l5), (6, .int 0)] [] x =
  (fn_bv (cf 87 [.ref 0, .int l1, .int l5, .int 1, .int l3, .int 0] x) (fun y1 =>
    K (m + 1) 200 [(0, .ref 0), (1, .int l1), (2, .int l2), (3, .int l3), (4, .int l4), (5, .int l5), (6, .int 0)] [] y1)) := rfl
theorem ft_Model_request_at134_0 (n d m : Nat) (l1 l2 l3 l4 l5 : Int32) (x : fn_M) : fn_run 1 (fn_ev 1 (n + 2000) d) (fn_lk fn_d102) (m + 9) 134 [(0, .ref 0), (1, .int l1), (2, .int l2), (3, .int l3), (4, .int l4), (5, .int l5), (6, .int 0)] [] x =
  (fn_bv (fn_ev 1 (n + 2000) d 87 [.ref 0, .int l1, .int l5, .int 1, .int l3, .int 0] x) (fun y1 =>
    fn_run 1 (fn_ev 1 (n + 2000) d) (fn_lk fn_d102) (m + 1) 200 [(0, .ref 0), (1, .int l1), (2, .int l2), (3, .int l3), (4, .int l4), (5, .int l5), (6, .int 0)] [] y1)) :=
  (fn_runc_eq 1 (fn_ev 1 (n + 2000) d) (fn_lk fn_d102) [110, 122, 134, 200] (m + 9) 134 [(0, .ref 0), (1, .int l1), (2, .int l2), (3, .int l3), (4, .int l4), (5, .int l5), (6, .int 0)] [] x).trans (fc_Model_request_at134_0 (fn_ev 1 (n + 2000) d) (fn_run 1 (fn_ev 1 (n + 2000) d) (fn_lk fn_d102)) m l1 l2 l3 l4 l5 x)
set_option maxRecDepth 20000 in
theorem fc_Model_request_at200 (cf : Nat → List Value → fn_M → Option fn_R) (K : Nat → fn_K) (m : Nat) (l1 l2 l3 l4 l5 l6 : Int32) (x : fn_M) : fn_runc 1 cf (fn_lk fn_d102) [110, 122, 134, 200] K (m + 1) 200 [(0, .ref 0), (1, .int l1), (2, .int l2), (3, .int l3), (4, .int l4), (5, .int l5), (6, .int l6)] [] x =
  some (x, none) := rfl
theorem ft_Model_request_at200 (n d m : Nat) (l1 l2 l3 l4 l5 l6 : Int32) (x : fn_M) : fn_run 1 (fn_ev 1 (n + 2000) d) (fn_lk fn_d102) (m + 1) 200 [(0, .ref 0), (1, .int l1), (2, .int l2), (3, .int l3), (4, .int l4), (5, .int l5), (6, .int l6)] [] x =
  some (x, none) :=
  (fn_runc_eq 1 (fn_ev 1 (n + 2000) d) (fn_lk fn_d102) [110, 122, 134, 200] (m + 1) 200 [(0, .ref 0), (1, .int l1), (2, .int l2), (3, .int l3), (4, .int l4), (5, .int l5), (6, .int l6)] [] x).trans (fc_Model_request_at200 (fn_ev 1 (n + 2000) d) (fn_run 1 (fn_ev 1 (n + 2000) d) (fn_lk fn_d102)) m l1 l2 l3 l4 l5 l6 x)
set_option maxRecDepth 20000 in
theorem fc_Model_request_at200_0 (cf : Nat → List Value → fn_M → Option fn_R) (K : Nat → fn_K) (m : Nat) (l1 l2 l3 l4 l5 : Int32) (x : fn_M) : fn_runc 1 cf (fn_lk fn_d102) [110, 122, 134, 200] K (m + 1) 200 [(0, .ref 0), (1, .int l1), (2, .int l2), (3, .int l3), (4, .int l4), (5, .int l5), (6, .int 0)] [] x =
  some (x, none) := rfl
theorem ft_Model_request_at200_0 (n d m : Nat) (l1 l2 l3 l4 l5 : Int32) (x : fn_M) : fn_run 1 (fn_ev 1 (n + 2000) d) (fn_lk fn_d102) (m + 1) 200 [(0, .ref 0), (1, .int l1), (2, .int l2), (3, .int l3), (4, .int l4), (5, .int l5), (6, .int 0)] [] x =
  some (x, none) :=
  (fn_runc_eq 1 (fn_ev 1 (n + 2000) d) (fn_lk fn_d102) [110, 122, 134, 200] (m + 1) 200 [(0, .ref 0), (1, .int l1), (2, .int l2), (3, .int l3), (4, .int l4), (5, .int l5), (6, .int 0)] [] x).trans (fc_Model_request_at200_0 (fn_ev 1 (n + 2000) d) (fn_run 1 (fn_ev 1 (n + 2000) d) (fn_lk fn_d102)) m l1 l2 l3 l4 l5 x)
set_option maxRecDepth 20000 in
theorem fc_Model_request_at200_6 (cf : Nat → List Value → fn_M → Option fn_R) (K : Nat → fn_K) (m : Nat) (l1 l2 l3 l4 l5 : Int32) (x : fn_M) : fn_runc 1 cf (fn_lk fn_d102) [110, 122, 134, 200] K (m + 1) 200 [(0, .ref 0), (1, .int l1), (2, .int l2), (3, .int l3), (4, .int l4), (5, .int l5), (6, .int 6)] [] x =
  some (x, none) := rfl
theorem ft_Model_request_at200_6 (n d m : Nat) (l1 l2 l3 l4 l5 : Int32) (x : fn_M) : fn_run 1 (fn_ev 1 (n + 2000) d) (fn_lk fn_d102) (m + 1) 200 [(0, .ref 0), (1, .int l1), (2, .int l2), (3, .int l3), (4, .int l4), (5, .int l5), (6, .int 6)] [] x =
  some (x, none) :=
  (fn_runc_eq 1 (fn_ev 1 (n + 2000) d) (fn_lk fn_d102) [110, 122, 134, 200] (m + 1) 200 [(0, .ref 0), (1, .int l1), (2, .int l2), (3, .int l3), (4, .int l4), (5, .int l5), (6, .int 6)] [] x).trans (fc_Model_request_at200_6 (fn_ev 1 (n + 2000) d) (fn_run 1 (fn_ev 1 (n + 2000) d) (fn_lk fn_d102)) m l1 l2 l3 l4 l5 x)
set_option maxRecDepth 20000 in
theorem fc_Model_more (cf : Nat → List Value → fn_M → Option fn_R) (K : Nat → fn_K) (m : Nat) (a1 a2 a3 : Int32) (x : fn_M) : fn_runc 1 cf (fn_lk fn_d103) [75] K (m + 32) 0 [(0, .ref 0), (1, .int a1), (2, .int a2), (3, .int a3)] [] x =
  (if a1 < 0 ∨ 5 ≤ a1.toNatClampNeg then
    none
    else
    (if (x 7 a1.toNatClampNeg) < 0 then
      (if a1 < 0 ∨ 5 ≤ a1.toNatClampNeg then
        none
        else
        (fn_bv (cf 87 [.ref 0, .int a1, .int a2, .int 9, .int 16, .int 5] (fn_w x 7 a1.toNatClampNeg (-1))) (fun y1 =>
          some (y1, none))))
      else
      (if a1 < 0 ∨ 5 ≤ a1.toNatClampNeg then
        none
        else
        (if a3 = (x 8 a1.toNatClampNeg) then
          (fn_bi (cf 93 [.ref 0, .int a1] x) (fun y2 v3 =>
            (if a1 < 0 ∨ 5 ≤ a1.toNatClampNeg then
            none
            else
            (if (v3 - (y2 7 a1.toNatClampNeg)) ≤ 4 then
              K (m + 1) 75 [(0, .ref 0), (1, .int a1), (2, .int a2), (3, .int a3), (4, .int (v3 - (y2 7 a1.toNatClampNeg))), (5, .int 0), (6, .int ((v3 - (y2 7 a1.toNatClampNeg)) - 1))] [] y2
              else
              K (m + 0) 75 [(0, .ref 0), (1, .int a1), (2, .int a2), (3, .int a3), (4, .int 4), (5, .int 0), (6, .int 3)] [] y2))))
          else
          (if a1 < 0 ∨ 5 ≤ a1.toNatClampNeg then
            none
            else
            (fn_bv (cf 87 [.ref 0, .int a1, .int a2, .int 9, .int 16, .int 5] (fn_w x 7 a1.toNatClampNeg (-1))) (fun y4 =>
              some (y4, none)))))))) := rfl
theorem ft_Model_more (n d : Nat) (a1 a2 a3 : Int32) (x : fn_M) : fn_ev 1 (n + 2000) (d + 1) 103 [.ref 0, .int a1, .int a2, .int a3] x =
  (if a1 < 0 ∨ 5 ≤ a1.toNatClampNeg then
    none
    else
    (if (x 7 a1.toNatClampNeg) < 0 then
      (if a1 < 0 ∨ 5 ≤ a1.toNatClampNeg then
        none
        else
        (fn_bv (fn_ev 1 (n + 2000) d 87 [.ref 0, .int a1, .int a2, .int 9, .int 16, .int 5] (fn_w x 7 a1.toNatClampNeg (-1))) (fun y1 =>
          some (y1, none))))
      else
      (if a1 < 0 ∨ 5 ≤ a1.toNatClampNeg then
        none
        else
        (if a3 = (x 8 a1.toNatClampNeg) then
          (fn_bi (fn_ev 1 (n + 2000) d 93 [.ref 0, .int a1] x) (fun y2 v3 =>
            (if a1 < 0 ∨ 5 ≤ a1.toNatClampNeg then
            none
            else
            (if (v3 - (y2 7 a1.toNatClampNeg)) ≤ 4 then
              fn_run 1 (fn_ev 1 (n + 2000) d) (fn_lk fn_d103) (n + 1969) 75 [(0, .ref 0), (1, .int a1), (2, .int a2), (3, .int a3), (4, .int (v3 - (y2 7 a1.toNatClampNeg))), (5, .int 0), (6, .int ((v3 - (y2 7 a1.toNatClampNeg)) - 1))] [] y2
              else
              fn_run 1 (fn_ev 1 (n + 2000) d) (fn_lk fn_d103) (n + 1968) 75 [(0, .ref 0), (1, .int a1), (2, .int a2), (3, .int a3), (4, .int 4), (5, .int 0), (6, .int 3)] [] y2))))
          else
          (if a1 < 0 ∨ 5 ≤ a1.toNatClampNeg then
            none
            else
            (fn_bv (fn_ev 1 (n + 2000) d 87 [.ref 0, .int a1, .int a2, .int 9, .int 16, .int 5] (fn_w x 7 a1.toNatClampNeg (-1))) (fun y4 =>
              some (y4, none)))))))) :=
  fn_ev_t (dd := fn_d103) (lo := [(0, .ref 0), (1, .int a1), (2, .int a2), (3, .int a3)]) (sp := [75]) rfl rfl rfl (fc_Model_more (fn_ev 1 (n + 2000) d) (fn_run 1 (fn_ev 1 (n + 2000) d) (fn_lk fn_d103)) (n + 1968) a1 a2 a3 x)
set_option maxRecDepth 20000 in
theorem fc_Model_more_at75 (cf : Nat → List Value → fn_M → Option fn_R) (K : Nat → fn_K) (m : Nat) (l1 l2 l3 l4 l5 l6 : Int32) (x : fn_M) : fn_runc 1 cf (fn_lk fn_d103) [75] K (m + 48) 75 [(0, .ref 0), (1, .int l1), (2, .int l2), (3, .int l3), (4, .int l4), (5, .int l5), (6, .int l6)] [] x =
  (if l6 < 0 then
    (if l1 < 0 ∨ 5 ≤ l1.toNatClampNeg then
      none
      else
      (fn_bv (cf 87 [.ref 0, .int l1, .int l2, .int 4, .int ((x 8 l1.toNatClampNeg) + (2 * l4)), .int l5] x) (fun y1 =>
        (if l1 < 0 ∨ 5 ≤ l1.toNatClampNeg then
        none
        else
        (if l1 < 0 ∨ 5 ≤ l1.toNatClampNeg then
          none
          else
          (if l1 < 0 ∨ 5 ≤ l1.toNatClampNeg then
            none
            else
            (if l1 < 0 ∨ 5 ≤ l1.toNatClampNeg then
              none
              else
              (if l1 < 0 ∨ 5 ≤ l1.toNatClampNeg then
                none
                else
                (fn_bi (cf 93 [.ref 0, .int l1] (fn_w (fn_w y1 8 l1.toNatClampNeg (1 - (y1 8 l1.toNatClampNeg))) 7 l1.toNatClampNeg ((y1 7 l1.toNatClampNeg) + l4))) (fun y2 v3 =>
                  (if ((fn_w (fn_w y1 8 l1.toNatClampNeg (1 - (y1 8 l1.toNatClampNeg))) 7 l1.toNatClampNeg ((y1 7 l1.toNatClampNeg) + l4)) 7 l1.toNatClampNeg) = v3 then
                  (if l1 < 0 ∨ 5 ≤ l1.toNatClampNeg then
                    none
                    else
                    some ((fn_w y2 7 l1.toNatClampNeg (-1)), none))
                  else
                  some (y2, none))))))))))))
    else
    (if l1 < 0 ∨ 5 ≤ l1.toNatClampNeg then
      none
      else
      (fn_bi (cf 94 [.ref 0, .int l1, .int ((x 7 l1.toNatClampNeg) + l6)] x) (fun y4 v5 =>
        K (m + 30) 75 [(0, .ref 0), (1, .int l1), (2, .int l2), (3, .int l3), (4, .int l4), (5, .int ((l5 * 256) + v5)), (6, .int (l6 + (-1)))] [] y4)))) := rfl
theorem ft_Model_more_at75 (n d m : Nat) (l1 l2 l3 l4 l5 l6 : Int32) (x : fn_M) : fn_run 1 (fn_ev 1 (n + 2000) d) (fn_lk fn_d103) (m + 48) 75 [(0, .ref 0), (1, .int l1), (2, .int l2), (3, .int l3), (4, .int l4), (5, .int l5), (6, .int l6)] [] x =
  (if l6 < 0 then
    (if l1 < 0 ∨ 5 ≤ l1.toNatClampNeg then
      none
      else
      (fn_bv (fn_ev 1 (n + 2000) d 87 [.ref 0, .int l1, .int l2, .int 4, .int ((x 8 l1.toNatClampNeg) + (2 * l4)), .int l5] x) (fun y1 =>
        (if l1 < 0 ∨ 5 ≤ l1.toNatClampNeg then
        none
        else
        (if l1 < 0 ∨ 5 ≤ l1.toNatClampNeg then
          none
          else
          (if l1 < 0 ∨ 5 ≤ l1.toNatClampNeg then
            none
            else
            (if l1 < 0 ∨ 5 ≤ l1.toNatClampNeg then
              none
              else
              (if l1 < 0 ∨ 5 ≤ l1.toNatClampNeg then
                none
                else
                (fn_bi (fn_ev 1 (n + 2000) d 93 [.ref 0, .int l1] (fn_w (fn_w y1 8 l1.toNatClampNeg (1 - (y1 8 l1.toNatClampNeg))) 7 l1.toNatClampNeg ((y1 7 l1.toNatClampNeg) + l4))) (fun y2 v3 =>
                  (if ((fn_w (fn_w y1 8 l1.toNatClampNeg (1 - (y1 8 l1.toNatClampNeg))) 7 l1.toNatClampNeg ((y1 7 l1.toNatClampNeg) + l4)) 7 l1.toNatClampNeg) = v3 then
                  (if l1 < 0 ∨ 5 ≤ l1.toNatClampNeg then
                    none
                    else
                    some ((fn_w y2 7 l1.toNatClampNeg (-1)), none))
                  else
                  some (y2, none))))))))))))
    else
    (if l1 < 0 ∨ 5 ≤ l1.toNatClampNeg then
      none
      else
      (fn_bi (fn_ev 1 (n + 2000) d 94 [.ref 0, .int l1, .int ((x 7 l1.toNatClampNeg) + l6)] x) (fun y4 v5 =>
        fn_run 1 (fn_ev 1 (n + 2000) d) (fn_lk fn_d103) (m + 30) 75 [(0, .ref 0), (1, .int l1), (2, .int l2), (3, .int l3), (4, .int l4), (5, .int ((l5 * 256) + v5)), (6, .int (l6 + (-1)))] [] y4)))) :=
  (fn_runc_eq 1 (fn_ev 1 (n + 2000) d) (fn_lk fn_d103) [75] (m + 48) 75 [(0, .ref 0), (1, .int l1), (2, .int l2), (3, .int l3), (4, .int l4), (5, .int l5), (6, .int l6)] [] x).trans (fc_Model_more_at75 (fn_ev 1 (n + 2000) d) (fn_run 1 (fn_ev 1 (n + 2000) d) (fn_lk fn_d103)) m l1 l2 l3 l4 l5 l6 x)
set_option maxRecDepth 20000 in
theorem fc_Model_step (cf : Nat → List Value → fn_M → Option fn_R) (K : Nat → fn_K) (m : Nat) (a1 : Int32) (x : fn_M) : fn_runc 1 cf (fn_lk fn_d104) [57, 151, 192] K (m + 120) 0 [(0, .ref 0), (1, .int a1)] [] x =
  (fn_bi (cf 86 [.ref 0, .int a1, .int 2] x) (fun y1 v2 =>
    (if v2 ≤ 0 then
    K (m + 115) 57 [(0, .ref 0), (1, .int a1)] [] y1
    else
    (if a1 < 0 ∨ 5 ≤ a1.toNatClampNeg then
      none
      else
      (fn_bi (cf 86 [.ref 0, .int a1, .int 2] y1) (fun y3 v4 =>
        (if (y1 0 0) < ((y1 9 a1.toNatClampNeg) + v4) then
        K (m + 103) 57 [(0, .ref 0), (1, .int a1)] [] y3
        else
        (if a1 < 0 ∨ 5 ≤ a1.toNatClampNeg then
          none
          else
          (fn_bv (cf 87 [.ref 0, .int a1, .int (1792 + a1), .int (y3 1 a1.toNatClampNeg), .int 0, .int 0] y3) (fun y5 =>
            (if a1 < 0 ∨ 5 ≤ a1.toNatClampNeg then
            none
            else
            K (m + 85) 57 [(0, .ref 0), (1, .int a1)] [] (fn_w y5 9 a1.toNatClampNeg (y5 0 0))))))))))))) := rfl
theorem ft_Model_step (n d : Nat) (a1 : Int32) (x : fn_M) : fn_ev 1 (n + 2000) (d + 1) 104 [.ref 0, .int a1] x =
  (fn_bi (fn_ev 1 (n + 2000) d 86 [.ref 0, .int a1, .int 2] x) (fun y1 v2 =>
    (if v2 ≤ 0 then
    fn_run 1 (fn_ev 1 (n + 2000) d) (fn_lk fn_d104) (n + 1995) 57 [(0, .ref 0), (1, .int a1)] [] y1
    else
    (if a1 < 0 ∨ 5 ≤ a1.toNatClampNeg then
      none
      else
      (fn_bi (fn_ev 1 (n + 2000) d 86 [.ref 0, .int a1, .int 2] y1) (fun y3 v4 =>
        (if (y1 0 0) < ((y1 9 a1.toNatClampNeg) + v4) then
        fn_run 1 (fn_ev 1 (n + 2000) d) (fn_lk fn_d104) (n + 1983) 57 [(0, .ref 0), (1, .int a1)] [] y3
        else
        (if a1 < 0 ∨ 5 ≤ a1.toNatClampNeg then
          none
          else
          (fn_bv (fn_ev 1 (n + 2000) d 87 [.ref 0, .int a1, .int (1792 + a1), .int (y3 1 a1.toNatClampNeg), .int 0, .int 0] y3) (fun y5 =>
            (if a1 < 0 ∨ 5 ≤ a1.toNatClampNeg then
            none
            else
            fn_run 1 (fn_ev 1 (n + 2000) d) (fn_lk fn_d104) (n + 1965) 57 [(0, .ref 0), (1, .int a1)] [] (fn_w y5 9 a1.toNatClampNeg (y5 0 0))))))))))))) :=
  fn_ev_t (dd := fn_d104) (lo := [(0, .ref 0), (1, .int a1)]) (sp := [57, 151, 192]) rfl rfl rfl (fc_Model_step (fn_ev 1 (n + 2000) d) (fn_run 1 (fn_ev 1 (n + 2000) d) (fn_lk fn_d104)) (n + 1880) a1 x)
set_option maxRecDepth 20000 in
theorem fc_Model_step_at57 (cf : Nat → List Value → fn_M → Option fn_R) (K : Nat → fn_K) (m : Nat) (l1 : Int32) (x : fn_M) : fn_runc 1 cf (fn_lk fn_d104) [57, 151, 192] K (m + 85) 57 [(0, .ref 0), (1, .int l1)] [] x =
  (fn_bi (cf 86 [.ref 0, .int l1, .int 3] x) (fun y1 v2 =>
    (if v2 ≤ 0 then
    K (m + 80) 151 [(0, .ref 0), (1, .int l1)] [] y1
    else
    (if l1 < 0 ∨ 5 ≤ l1.toNatClampNeg then
      none
      else
      (if (y1 6 l1.toNatClampNeg) < 0 then
        K (m + 75) 151 [(0, .ref 0), (1, .int l1)] [] y1
        else
        (if l1 < 0 ∨ 5 ≤ l1.toNatClampNeg then
          none
          else
          (fn_bi (cf 86 [.ref 0, .int l1, .int 3] y1) (fun y3 v4 =>
            (if (y1 0 0) < ((y1 6 l1.toNatClampNeg) + (v4 - v4 / 100 * 100)) then
            K (m + 61) 151 [(0, .ref 0), (1, .int l1)] [] y3
            else
            (if l1 < 0 ∨ 5 ≤ l1.toNatClampNeg then
              none
              else
              (if ((16 * l1) + 1) < 0 ∨ 80 ≤ ((16 * l1) + 1).toNatClampNeg then
                none
                else
                (if ((16 * l1) + 1) < 0 ∨ 80 ≤ ((16 * l1) + 1).toNatClampNeg then
                  none
                  else
                  (fn_bv (cf 87 [.ref 0, .int l1, .int (128 + l1), .int 1, .int 0, .int 0] (fn_w (fn_w y3 6 l1.toNatClampNeg (-1)) 2 ((16 * l1) + 1).toNatClampNeg ((y3 2 ((16 * l1) + 1).toNatClampNeg) ||| 1))) (fun y5 =>
                    (if l1 < 0 ∨ 5 ≤ l1.toNatClampNeg then
                    none
                    else
                    (if (y5 1 l1.toNatClampNeg) = 5 then
                      (if l1 < 0 ∨ 5 ≤ l1.toNatClampNeg then
                        none
                        else
                        K (m + 24) 151 [(0, .ref 0), (1, .int l1)] [] (fn_w y5 1 l1.toNatClampNeg 127))
                      else
                      K (m + 29) 151 [(0, .ref 0), (1, .int l1)] [] y5)))))))))))))))) := rfl
theorem ft_Model_step_at57 (n d m : Nat) (l1 : Int32) (x : fn_M) : fn_run 1 (fn_ev 1 (n + 2000) d) (fn_lk fn_d104) (m + 85) 57 [(0, .ref 0), (1, .int l1)] [] x =
  (fn_bi (fn_ev 1 (n + 2000) d 86 [.ref 0, .int l1, .int 3] x) (fun y1 v2 =>
    (if v2 ≤ 0 then
    fn_run 1 (fn_ev 1 (n + 2000) d) (fn_lk fn_d104) (m + 80) 151 [(0, .ref 0), (1, .int l1)] [] y1
    else
    (if l1 < 0 ∨ 5 ≤ l1.toNatClampNeg then
      none
      else
      (if (y1 6 l1.toNatClampNeg) < 0 then
        fn_run 1 (fn_ev 1 (n + 2000) d) (fn_lk fn_d104) (m + 75) 151 [(0, .ref 0), (1, .int l1)] [] y1
        else
        (if l1 < 0 ∨ 5 ≤ l1.toNatClampNeg then
          none
          else
          (fn_bi (fn_ev 1 (n + 2000) d 86 [.ref 0, .int l1, .int 3] y1) (fun y3 v4 =>
            (if (y1 0 0) < ((y1 6 l1.toNatClampNeg) + (v4 - v4 / 100 * 100)) then
            fn_run 1 (fn_ev 1 (n + 2000) d) (fn_lk fn_d104) (m + 61) 151 [(0, .ref 0), (1, .int l1)] [] y3
            else
            (if l1 < 0 ∨ 5 ≤ l1.toNatClampNeg then
              none
              else
              (if ((16 * l1) + 1) < 0 ∨ 80 ≤ ((16 * l1) + 1).toNatClampNeg then
                none
                else
                (if ((16 * l1) + 1) < 0 ∨ 80 ≤ ((16 * l1) + 1).toNatClampNeg then
                  none
                  else
                  (fn_bv (fn_ev 1 (n + 2000) d 87 [.ref 0, .int l1, .int (128 + l1), .int 1, .int 0, .int 0] (fn_w (fn_w y3 6 l1.toNatClampNeg (-1)) 2 ((16 * l1) + 1).toNatClampNeg ((y3 2 ((16 * l1) + 1).toNatClampNeg) ||| 1))) (fun y5 =>
                    (if l1 < 0 ∨ 5 ≤ l1.toNatClampNeg then
                    none
                    else
                    (if (y5 1 l1.toNatClampNeg) = 5 then
                      (if l1 < 0 ∨ 5 ≤ l1.toNatClampNeg then
                        none
                        else
                        fn_run 1 (fn_ev 1 (n + 2000) d) (fn_lk fn_d104) (m + 24) 151 [(0, .ref 0), (1, .int l1)] [] (fn_w y5 1 l1.toNatClampNeg 127))
                      else
                      fn_run 1 (fn_ev 1 (n + 2000) d) (fn_lk fn_d104) (m + 29) 151 [(0, .ref 0), (1, .int l1)] [] y5)))))))))))))))) :=
  (fn_runc_eq 1 (fn_ev 1 (n + 2000) d) (fn_lk fn_d104) [57, 151, 192] (m + 85) 57 [(0, .ref 0), (1, .int l1)] [] x).trans (fc_Model_step_at57 (fn_ev 1 (n + 2000) d) (fn_run 1 (fn_ev 1 (n + 2000) d) (fn_lk fn_d104)) m l1 x)
set_option maxRecDepth 20000 in
theorem fc_Model_step_at151 (cf : Nat → List Value → fn_M → Option fn_R) (K : Nat → fn_K) (m : Nat) (l1 : Int32) (x : fn_M) : fn_runc 1 cf (fn_lk fn_d104) [57, 151, 192] K (m + 24) 151 [(0, .ref 0), (1, .int l1)] [] x =
  (if l1 < 0 ∨ 5 ≤ l1.toNatClampNeg then
    none
    else
    (if (x 1 l1.toNatClampNeg) = 5 then
      (fn_bi (cf 86 [.ref 0, .int l1, .int 4] x) (fun y1 v2 =>
        (if v2 = 0 then
        (if l1 < 0 ∨ 5 ≤ l1.toNatClampNeg then
          none
          else
          (if (y1 4 l1.toNatClampNeg) = 0 then
            K (m + 8) 192 [(0, .ref 0), (1, .int l1)] [] y1
            else
            (fn_bi (cf 96 [.ref 0, .int l1] y1) (fun y3 v4 =>
              (if v4 = 0 then
              K (m + 4) 192 [(0, .ref 0), (1, .int l1)] [] y3
              else
              (fn_bv (cf 95 [.ref 0, .int l1] y3) (fun y5 =>
                K (m + 1) 192 [(0, .ref 0), (1, .int l1)] [] y5)))))))
        else
        K (m + 13) 192 [(0, .ref 0), (1, .int l1)] [] y1)))
      else
      K (m + 18) 192 [(0, .ref 0), (1, .int l1)] [] x)) := rfl
theorem ft_Model_step_at151 (n d m : Nat) (l1 : Int32) (x : fn_M) : fn_run 1 (fn_ev 1 (n + 2000) d) (fn_lk fn_d104) (m + 24) 151 [(0, .ref 0), (1, .int l1)] [] x =
  (if l1 < 0 ∨ 5 ≤ l1.toNatClampNeg then
    none
    else
    (if (x 1 l1.toNatClampNeg) = 5 then
      (fn_bi (fn_ev 1 (n + 2000) d 86 [.ref 0, .int l1, .int 4] x) (fun y1 v2 =>
        (if v2 = 0 then
        (if l1 < 0 ∨ 5 ≤ l1.toNatClampNeg then
          none
          else
          (if (y1 4 l1.toNatClampNeg) = 0 then
            fn_run 1 (fn_ev 1 (n + 2000) d) (fn_lk fn_d104) (m + 8) 192 [(0, .ref 0), (1, .int l1)] [] y1
            else
            (fn_bi (fn_ev 1 (n + 2000) d 96 [.ref 0, .int l1] y1) (fun y3 v4 =>
              (if v4 = 0 then
              fn_run 1 (fn_ev 1 (n + 2000) d) (fn_lk fn_d104) (m + 4) 192 [(0, .ref 0), (1, .int l1)] [] y3
              else
              (fn_bv (fn_ev 1 (n + 2000) d 95 [.ref 0, .int l1] y3) (fun y5 =>
                fn_run 1 (fn_ev 1 (n + 2000) d) (fn_lk fn_d104) (m + 1) 192 [(0, .ref 0), (1, .int l1)] [] y5)))))))
        else
        fn_run 1 (fn_ev 1 (n + 2000) d) (fn_lk fn_d104) (m + 13) 192 [(0, .ref 0), (1, .int l1)] [] y1)))
      else
      fn_run 1 (fn_ev 1 (n + 2000) d) (fn_lk fn_d104) (m + 18) 192 [(0, .ref 0), (1, .int l1)] [] x)) :=
  (fn_runc_eq 1 (fn_ev 1 (n + 2000) d) (fn_lk fn_d104) [57, 151, 192] (m + 24) 151 [(0, .ref 0), (1, .int l1)] [] x).trans (fc_Model_step_at151 (fn_ev 1 (n + 2000) d) (fn_run 1 (fn_ev 1 (n + 2000) d) (fn_lk fn_d104)) m l1 x)
set_option maxRecDepth 20000 in
theorem fc_Model_step_at192 (cf : Nat → List Value → fn_M → Option fn_R) (K : Nat → fn_K) (m : Nat) (l1 : Int32) (x : fn_M) : fn_runc 1 cf (fn_lk fn_d104) [57, 151, 192] K (m + 1) 192 [(0, .ref 0), (1, .int l1)] [] x =
  some (x, none) := rfl
theorem ft_Model_step_at192 (n d m : Nat) (l1 : Int32) (x : fn_M) : fn_run 1 (fn_ev 1 (n + 2000) d) (fn_lk fn_d104) (m + 1) 192 [(0, .ref 0), (1, .int l1)] [] x =
  some (x, none) :=
  (fn_runc_eq 1 (fn_ev 1 (n + 2000) d) (fn_lk fn_d104) [57, 151, 192] (m + 1) 192 [(0, .ref 0), (1, .int l1)] [] x).trans (fc_Model_step_at192 (fn_ev 1 (n + 2000) d) (fn_run 1 (fn_ev 1 (n + 2000) d) (fn_lk fn_d104)) m l1 x)
set_option maxRecDepth 20000 in
theorem fc_Model_note (cf : Nat → List Value → fn_M → Option fn_R) (K : Nat → fn_K) (m : Nat) (a1 a2 a3 : Int32) (x : fn_M) : fn_runc 1 cf (fn_lk fn_d105) [] K (m + 25) 0 [(0, .ref 0), (1, .int a1), (2, .int a2), (3, .int a3)] [] x =
  (if (x 0 40) = 80 then
    some (x, none)
    else
    (if (x 0 40) < 0 ∨ 80 ≤ (x 0 40).toNatClampNeg then
      none
      else
      some ((fn_w (fn_w x 23 (x 0 40).toNatClampNeg (((1000 * a1) + (100 * a2)) + a3)) 0 40 ((x 0 40) + 1)), none))) := rfl
theorem ft_Model_note (n d : Nat) (a1 a2 a3 : Int32) (x : fn_M) : fn_ev 1 (n + 2000) (d + 1) 105 [.ref 0, .int a1, .int a2, .int a3] x =
  (if (x 0 40) = 80 then
    some (x, none)
    else
    (if (x 0 40) < 0 ∨ 80 ≤ (x 0 40).toNatClampNeg then
      none
      else
      some ((fn_w (fn_w x 23 (x 0 40).toNatClampNeg (((1000 * a1) + (100 * a2)) + a3)) 0 40 ((x 0 40) + 1)), none))) :=
  fn_ev_t (dd := fn_d105) (lo := [(0, .ref 0), (1, .int a1), (2, .int a2), (3, .int a3)]) (sp := []) rfl rfl rfl (fc_Model_note (fn_ev 1 (n + 2000) d) (fn_run 1 (fn_ev 1 (n + 2000) d) (fn_lk fn_d105)) (n + 1975) a1 a2 a3 x)
set_option maxRecDepth 20000 in
theorem fc_Model_toMaster (cf : Nat → List Value → fn_M → Option fn_R) (K : Nat → fn_K) (m : Nat) (a1 a2 a3 a4 : Int32) (x : fn_M) : fn_runc 1 cf (fn_lk fn_d106) [43, 63, 78, 100] K (m + 50) 0 [(0, .ref 0), (1, .int a1), (2, .int a2), (3, .int a3), (4, .int a4)] [] x =
  (fn_bi (cf 90 [.int a1, .int 1792] x) (fun y1 v2 =>
    (fn_bi (cf 90 [.int a1, .int 128] y1) (fun y3 v4 =>
    (fn_bi (cf 90 [.int a1, .int 1408] y3) (fun y5 v6 =>
    (if v4 ≤ 0 then
    K (m + 36) 43 [(0, .ref 0), (1, .int a1), (2, .int a2), (3, .int a3), (4, .int a4), (5, .int v2), (6, .int v4), (7, .int v6)] [] y5
    else
    (fn_bv (cf 105 [.ref 0, .int 5, .int v4, .int (a2 &&& 63)] y5) (fun y7 =>
      K (m + 29) 43 [(0, .ref 0), (1, .int a1), (2, .int a2), (3, .int a3), (4, .int a4), (5, .int v2), (6, .int v4), (7, .int v6)] [] y7))))))))) := rfl
theorem ft_Model_toMaster (n d : Nat) (a1 a2 a3 a4 : Int32) (x : fn_M) : fn_ev 1 (n + 2000) (d + 1) 106 [.ref 0, .int a1, .int a2, .int a3, .int a4] x =
  (fn_bi (fn_ev 1 (n + 2000) d 90 [.int a1, .int 1792] x) (fun y1 v2 =>
    (fn_bi (fn_ev 1 (n + 2000) d 90 [.int a1, .int 128] y1) (fun y3 v4 =>
    (fn_bi (fn_ev 1 (n + 2000) d 90 [.int a1, .int 1408] y3) (fun y5 v6 =>
    (if v4 ≤ 0 then
    fn_run 1 (fn_ev 1 (n + 2000) d) (fn_lk fn_d106) (n + 1986) 43 [(0, .ref 0), (1, .int a1), (2, .int a2), (3, .int a3), (4, .int a4), (5, .int v2), (6, .int v4), (7, .int v6)] [] y5
    else
    (fn_bv (fn_ev 1 (n + 2000) d 105 [.ref 0, .int 5, .int v4, .int (a2 &&& 63)] y5) (fun y7 =>
      fn_run 1 (fn_ev 1 (n + 2000) d) (fn_lk fn_d106) (n + 1979) 43 [(0, .ref 0), (1, .int a1), (2, .int a2), (3, .int a3), (4, .int a4), (5, .int v2), (6, .int v4), (7, .int v6)] [] y7))))))))) :=
  fn_ev_t (dd := fn_d106) (lo := [(0, .ref 0), (1, .int a1), (2, .int a2), (3, .int a3), (4, .int a4)]) (sp := [43, 63, 78, 100]) rfl rfl rfl (fc_Model_toMaster (fn_ev 1 (n + 2000) d) (fn_run 1 (fn_ev 1 (n + 2000) d) (fn_lk fn_d106)) (n + 1950) a1 a2 a3 a4 x)
set_option maxRecDepth 20000 in
theorem fc_Model_toMaster_at43 (cf : Nat → List Value → fn_M → Option fn_R) (K : Nat → fn_K) (m : Nat) (l1 l2 l3 l4 l5 l6 l7 : Int32) (x : fn_M) : fn_runc 1 cf (fn_lk fn_d106) [43, 63, 78, 100] K (m + 29) 43 [(0, .ref 0), (1, .int l1), (2, .int l2), (3, .int l3), (4, .int l4), (5, .int l5), (6, .int l6), (7, .int l7)] [] x =
  (if l5 ≤ 0 then
    K (m + 27) 63 [(0, .ref 0), (1, .int l1), (2, .int l2), (3, .int l3), (4, .int l4), (5, .int l5), (6, .int l6), (7, .int l7)] [] x
    else
    (if l2 = 0 then
      K (m + 25) 63 [(0, .ref 0), (1, .int l1), (2, .int l2), (3, .int l3), (4, .int l4), (5, .int l5), (6, .int l6), (7, .int l7)] [] x
      else
      (if l5 < 0 ∨ 5 ≤ l5.toNatClampNeg then
        none
        else
        K (m + 19) 63 [(0, .ref 0), (1, .int l1), (2, .int l2), (3, .int l3), (4, .int l4), (5, .int l5), (6, .int l6), (7, .int l7)] [] (fn_w x 21 l5.toNatClampNeg (x 0 0))))) := rfl
theorem ft_Model_toMaster_at43 (n d m : Nat) (l1 l2 l3 l4 l5 l6 l7 : Int32) (x : fn_M) : fn_run 1 (fn_ev 1 (n + 2000) d) (fn_lk fn_d106) (m + 29) 43 [(0, .ref 0), (1, .int l1), (2, .int l2), (3, .int l3), (4, .int l4), (5, .int l5), (6, .int l6), (7, .int l7)] [] x =
  (if l5 ≤ 0 then
    fn_run 1 (fn_ev 1 (n + 2000) d) (fn_lk fn_d106) (m + 27) 63 [(0, .ref 0), (1, .int l1), (2, .int l2), (3, .int l3), (4, .int l4), (5, .int l5), (6, .int l6), (7, .int l7)] [] x
    else
    (if l2 = 0 then
      fn_run 1 (fn_ev 1 (n + 2000) d) (fn_lk fn_d106) (m + 25) 63 [(0, .ref 0), (1, .int l1), (2, .int l2), (3, .int l3), (4, .int l4), (5, .int l5), (6, .int l6), (7, .int l7)] [] x
      else
      (if l5 < 0 ∨ 5 ≤ l5.toNatClampNeg then
        none
        else
        fn_run 1 (fn_ev 1 (n + 2000) d) (fn_lk fn_d106) (m + 19) 63 [(0, .ref 0), (1, .int l1), (2, .int l2), (3, .int l3), (4, .int l4), (5, .int l5), (6, .int l6), (7, .int l7)] [] (fn_w x 21 l5.toNatClampNeg (x 0 0))))) :=
  (fn_runc_eq 1 (fn_ev 1 (n + 2000) d) (fn_lk fn_d106) [43, 63, 78, 100] (m + 29) 43 [(0, .ref 0), (1, .int l1), (2, .int l2), (3, .int l3), (4, .int l4), (5, .int l5), (6, .int l6), (7, .int l7)] [] x).trans (fc_Model_toMaster_at43 (fn_ev 1 (n + 2000) d) (fn_run 1 (fn_ev 1 (n + 2000) d) (fn_lk fn_d106)) m l1 l2 l3 l4 l5 l6 l7 x)
set_option maxRecDepth 20000 in
theorem fc_Model_toMaster_at63 (cf : Nat → List Value → fn_M → Option fn_R) (K : Nat → fn_K) (m : Nat) (l1 l2 l3 l4 l5 l6 l7 : Int32) (x : fn_M) : fn_runc 1 cf (fn_lk fn_d106) [43, 63, 78, 100] K (m + 19) 63 [(0, .ref 0), (1, .int l1), (2, .int l2), (3, .int l3), (4, .int l4), (5, .int l5), (6, .int l6), (7, .int l7)] [] x =
  (if l5 ≤ 0 then
    K (m + 17) 78 [(0, .ref 0), (1, .int l1), (2, .int l2), (3, .int l3), (4, .int l4), (5, .int l5), (6, .int l6), (7, .int l7)] [] x
    else
    (if l2 = 0 then
      (fn_bv (cf 107 [.ref 0, .int l5] x) (fun y1 =>
        K (m + 12) 78 [(0, .ref 0), (1, .int l1), (2, .int l2), (3, .int l3), (4, .int l4), (5, .int l5), (6, .int l6), (7, .int l7)] [] y1))
      else
      K (m + 15) 78 [(0, .ref 0), (1, .int l1), (2, .int l2), (3, .int l3), (4, .int l4), (5, .int l5), (6, .int l6), (7, .int l7)] [] x)) := rfl
theorem ft_Model_toMaster_at63 (n d m : Nat) (l1 l2 l3 l4 l5 l6 l7 : Int32) (x : fn_M) : fn_run 1 (fn_ev 1 (n + 2000) d) (fn_lk fn_d106) (m + 19) 63 [(0, .ref 0), (1, .int l1), (2, .int l2), (3, .int l3), (4, .int l4), (5, .int l5), (6, .int l6), (7, .int l7)] [] x =
  (if l5 ≤ 0 then
    fn_run 1 (fn_ev 1 (n + 2000) d) (fn_lk fn_d106) (m + 17) 78 [(0, .ref 0), (1, .int l1), (2, .int l2), (3, .int l3), (4, .int l4), (5, .int l5), (6, .int l6), (7, .int l7)] [] x
    else
    (if l2 = 0 then
      (fn_bv (fn_ev 1 (n + 2000) d 107 [.ref 0, .int l5] x) (fun y1 =>
        fn_run 1 (fn_ev 1 (n + 2000) d) (fn_lk fn_d106) (m + 12) 78 [(0, .ref 0), (1, .int l1), (2, .int l2), (3, .int l3), (4, .int l4), (5, .int l5), (6, .int l6), (7, .int l7)] [] y1))
      else
      fn_run 1 (fn_ev 1 (n + 2000) d) (fn_lk fn_d106) (m + 15) 78 [(0, .ref 0), (1, .int l1), (2, .int l2), (3, .int l3), (4, .int l4), (5, .int l5), (6, .int l6), (7, .int l7)] [] x)) :=
  (fn_runc_eq 1 (fn_ev 1 (n + 2000) d) (fn_lk fn_d106) [43, 63, 78, 100] (m + 19) 63 [(0, .ref 0), (1, .int l1), (2, .int l2), (3, .int l3), (4, .int l4), (5, .int l5), (6, .int l6), (7, .int l7)] [] x).trans (fc_Model_toMaster_at63 (fn_ev 1 (n + 2000) d) (fn_run 1 (fn_ev 1 (n + 2000) d) (fn_lk fn_d106)) m l1 l2 l3 l4 l5 l6 l7 x)
set_option maxRecDepth 20000 in
theorem fc_Model_toMaster_at78 (cf : Nat → List Value → fn_M → Option fn_R) (K : Nat → fn_K) (m : Nat) (l1 l2 l3 l4 l5 l6 l7 : Int32) (x : fn_M) : fn_runc 1 cf (fn_lk fn_d106) [43, 63, 78, 100] K (m + 12) 78 [(0, .ref 0), (1, .int l1), (2, .int l2), (3, .int l3), (4, .int l4), (5, .int l5), (6, .int l6), (7, .int l7)] [] x =
  (if l7 ≤ 0 then
    K (m + 10) 100 [(0, .ref 0), (1, .int l1), (2, .int l2), (3, .int l3), (4, .int l4), (5, .int l5), (6, .int l6), (7, .int l7)] [] x
    else
    (if (x 0 27) = l7 then
      (fn_bv (cf 110 [.ref 0, .int l2, .int l3, .int l4] x) (fun y1 =>
        K (m + 1) 100 [(0, .ref 0), (1, .int l1), (2, .int l2), (3, .int l3), (4, .int l4), (5, .int l5), (6, .int l6), (7, .int l7)] [] y1))
      else
      K (m + 6) 100 [(0, .ref 0), (1, .int l1), (2, .int l2), (3, .int l3), (4, .int l4), (5, .int l5), (6, .int l6), (7, .int l7)] [] x)) := rfl
theorem ft_Model_toMaster_at78 (n d m : Nat) (l1 l2 l3 l4 l5 l6 l7 : Int32) (x : fn_M) : fn_run 1 (fn_ev 1 (n + 2000) d) (fn_lk fn_d106) (m + 12) 78 [(0, .ref 0), (1, .int l1), (2, .int l2), (3, .int l3), (4, .int l4), (5, .int l5), (6, .int l6), (7, .int l7)] [] x =
  (if l7 ≤ 0 then
    fn_run 1 (fn_ev 1 (n + 2000) d) (fn_lk fn_d106) (m + 10) 100 [(0, .ref 0), (1, .int l1), (2, .int l2), (3, .int l3), (4, .int l4), (5, .int l5), (6, .int l6), (7, .int l7)] [] x
    else
    (if (x 0 27) = l7 then
      (fn_bv (fn_ev 1 (n + 2000) d 110 [.ref 0, .int l2, .int l3, .int l4] x) (fun y1 =>
        fn_run 1 (fn_ev 1 (n + 2000) d) (fn_lk fn_d106) (m + 1) 100 [(0, .ref 0), (1, .int l1), (2, .int l2), (3, .int l3), (4, .int l4), (5, .int l5), (6, .int l6), (7, .int l7)] [] y1))
      else
      fn_run 1 (fn_ev 1 (n + 2000) d) (fn_lk fn_d106) (m + 6) 100 [(0, .ref 0), (1, .int l1), (2, .int l2), (3, .int l3), (4, .int l4), (5, .int l5), (6, .int l6), (7, .int l7)] [] x)) :=
  (fn_runc_eq 1 (fn_ev 1 (n + 2000) d) (fn_lk fn_d106) [43, 63, 78, 100] (m + 12) 78 [(0, .ref 0), (1, .int l1), (2, .int l2), (3, .int l3), (4, .int l4), (5, .int l5), (6, .int l6), (7, .int l7)] [] x).trans (fc_Model_toMaster_at78 (fn_ev 1 (n + 2000) d) (fn_run 1 (fn_ev 1 (n + 2000) d) (fn_lk fn_d106)) m l1 l2 l3 l4 l5 l6 l7 x)
set_option maxRecDepth 20000 in
theorem fc_Model_toMaster_at100 (cf : Nat → List Value → fn_M → Option fn_R) (K : Nat → fn_K) (m : Nat) (l1 l2 l3 l4 l5 l6 l7 : Int32) (x : fn_M) : fn_runc 1 cf (fn_lk fn_d106) [43, 63, 78, 100] K (m + 1) 100 [(0, .ref 0), (1, .int l1), (2, .int l2), (3, .int l3), (4, .int l4), (5, .int l5), (6, .int l6), (7, .int l7)] [] x =
  some (x, none) := rfl
theorem ft_Model_toMaster_at100 (n d m : Nat) (l1 l2 l3 l4 l5 l6 l7 : Int32) (x : fn_M) : fn_run 1 (fn_ev 1 (n + 2000) d) (fn_lk fn_d106) (m + 1) 100 [(0, .ref 0), (1, .int l1), (2, .int l2), (3, .int l3), (4, .int l4), (5, .int l5), (6, .int l6), (7, .int l7)] [] x =
  some (x, none) :=
  (fn_runc_eq 1 (fn_ev 1 (n + 2000) d) (fn_lk fn_d106) [43, 63, 78, 100] (m + 1) 100 [(0, .ref 0), (1, .int l1), (2, .int l2), (3, .int l3), (4, .int l4), (5, .int l5), (6, .int l6), (7, .int l7)] [] x).trans (fc_Model_toMaster_at100 (fn_ev 1 (n + 2000) d) (fn_run 1 (fn_ev 1 (n + 2000) d) (fn_lk fn_d106)) m l1 l2 l3 l4 l5 l6 l7 x)
set_option maxRecDepth 20000 in
theorem fc_Model_booted (cf : Nat → List Value → fn_M → Option fn_R) (K : Nat → fn_K) (m : Nat) (a1 : Int32) (x : fn_M) : fn_runc 1 cf (fn_lk fn_d107) [] K (m + 31) 0 [(0, .ref 0), (1, .int a1)] [] x =
  (fn_bv (cf 105 [.ref 0, .int 1, .int a1, .int 0] x) (fun y1 =>
    (if a1 < 0 ∨ 5 ≤ a1.toNatClampNeg then
    none
    else
    (if a1 < 0 ∨ 5 ≤ a1.toNatClampNeg then
      none
      else
      (if 0 ≤ (y1 15 a1.toNatClampNeg) then
        (if (y1 0 31) = 0 then
          (if a1 < 0 ∨ 5 ≤ a1.toNatClampNeg then
            none
            else
            some ((fn_w (fn_w y1 21 a1.toNatClampNeg (-1)) 20 a1.toNatClampNeg 1), none))
          else
          (if (y1 0 27) = a1 then
            (if a1 < 0 ∨ 5 ≤ a1.toNatClampNeg then
              none
              else
              some ((fn_w (fn_w (fn_w y1 21 a1.toNatClampNeg (-1)) 0 27 0) 20 a1.toNatClampNeg 1), none))
            else
            (if a1 < 0 ∨ 5 ≤ a1.toNatClampNeg then
              none
              else
              some ((fn_w (fn_w y1 21 a1.toNatClampNeg (-1)) 20 a1.toNatClampNeg 1), none))))
        else
        some ((fn_w y1 21 a1.toNatClampNeg (-1)), none)))))) := rfl
theorem ft_Model_booted (n d : Nat) (a1 : Int32) (x : fn_M) : fn_ev 1 (n + 2000) (d + 1) 107 [.ref 0, .int a1] x =
  (fn_bv (fn_ev 1 (n + 2000) d 105 [.ref 0, .int 1, .int a1, .int 0] x) (fun y1 =>
    (if a1 < 0 ∨ 5 ≤ a1.toNatClampNeg then
    none
    else
    (if a1 < 0 ∨ 5 ≤ a1.toNatClampNeg then
      none
      else
      (if 0 ≤ (y1 15 a1.toNatClampNeg) then
        (if (y1 0 31) = 0 then
          (if a1 < 0 ∨ 5 ≤ a1.toNatClampNeg then
            none
            else
            some ((fn_w (fn_w y1 21 a1.toNatClampNeg (-1)) 20 a1.toNatClampNeg 1), none))
          else
          (if (y1 0 27) = a1 then
            (if a1 < 0 ∨ 5 ≤ a1.toNatClampNeg then
              none
              else
              some ((fn_w (fn_w (fn_w y1 21 a1.toNatClampNeg (-1)) 0 27 0) 20 a1.toNatClampNeg 1), none))
            else
            (if a1 < 0 ∨ 5 ≤ a1.toNatClampNeg then
              none
              else
              some ((fn_w (fn_w y1 21 a1.toNatClampNeg (-1)) 20 a1.toNatClampNeg 1), none))))
        else
        some ((fn_w y1 21 a1.toNatClampNeg (-1)), none)))))) :=
  fn_ev_t (dd := fn_d107) (lo := [(0, .ref 0), (1, .int a1)]) (sp := []) rfl rfl rfl (fc_Model_booted (fn_ev 1 (n + 2000) d) (fn_run 1 (fn_ev 1 (n + 2000) d) (fn_lk fn_d107)) (n + 1969) a1 x)
set_option maxRecDepth 20000 in
theorem fc_Model_begin (cf : Nat → List Value → fn_M → Option fn_R) (K : Nat → fn_K) (m : Nat) (a1 a2 a3 a4 a5 : Int32) (x : fn_M) : fn_runc 1 cf (fn_lk fn_d108) [] K (m + 24) 0 [(0, .ref 0), (1, .int a1), (2, .int a2), (3, .int a3), (4, .int a4), (5, .int a5)] [] x =
  (if a3 = 0 ∨ a3 = 1 then
    (if a5 = 0 ∨ a5 = 1 then
      (if a3 = 0 then
        (fn_bv (cf 109 [.ref 0, .int 2, .int a2, .int a4] (fn_w (fn_w (fn_w (fn_w (fn_w x 0 27 a1) 0 28 a2) 0 29 a3) 0 31 a5) 0 35 0)) (fun y1 =>
          some (y1, none)))
        else
        (fn_bv (cf 109 [.ref 0, .int 1, .int a2, .int a4] (fn_w (fn_w (fn_w (fn_w (fn_w x 0 27 a1) 0 28 a2) 0 29 a3) 0 31 a5) 0 35 0)) (fun y2 =>
          some (y2, none))))
      else
      none)
    else
    none) := rfl
theorem ft_Model_begin (n d : Nat) (a1 a2 a3 a4 a5 : Int32) (x : fn_M) : fn_ev 1 (n + 2000) (d + 1) 108 [.ref 0, .int a1, .int a2, .int a3, .int a4, .int a5] x =
  (if a3 = 0 ∨ a3 = 1 then
    (if a5 = 0 ∨ a5 = 1 then
      (if a3 = 0 then
        (fn_bv (fn_ev 1 (n + 2000) d 109 [.ref 0, .int 2, .int a2, .int a4] (fn_w (fn_w (fn_w (fn_w (fn_w x 0 27 a1) 0 28 a2) 0 29 a3) 0 31 a5) 0 35 0)) (fun y1 =>
          some (y1, none)))
        else
        (fn_bv (fn_ev 1 (n + 2000) d 109 [.ref 0, .int 1, .int a2, .int a4] (fn_w (fn_w (fn_w (fn_w (fn_w x 0 27 a1) 0 28 a2) 0 29 a3) 0 31 a5) 0 35 0)) (fun y2 =>
          some (y2, none))))
      else
      none)
    else
    none) :=
  fn_ev_t (dd := fn_d108) (lo := [(0, .ref 0), (1, .int a1), (2, .int a2), (3, .int a3), (4, .int a4), (5, .int a5)]) (sp := []) rfl rfl rfl (fc_Model_begin (fn_ev 1 (n + 2000) d) (fn_run 1 (fn_ev 1 (n + 2000) d) (fn_lk fn_d108)) (n + 1976) a1 a2 a3 a4 a5 x)
set_option maxRecDepth 20000 in
theorem fc_Model_ask (cf : Nat → List Value → fn_M → Option fn_R) (K : Nat → fn_K) (m : Nat) (a1 a2 a3 : Int32) (x : fn_M) : fn_runc 1 cf (fn_lk fn_d109) [] K (m + 17) 0 [(0, .ref 0), (1, .int a1), (2, .int a2), (3, .int a3)] [] x =
  (fn_bv (cf 87 [.ref 0, .int 0, .int (1536 + (x 0 27)), .int a1, .int a2, .int a3] x) (fun y1 =>
    some ((fn_w y1 0 30 ((y1 0 0) + 5)), none))) := rfl
theorem ft_Model_ask (n d : Nat) (a1 a2 a3 : Int32) (x : fn_M) : fn_ev 1 (n + 2000) (d + 1) 109 [.ref 0, .int a1, .int a2, .int a3] x =
  (fn_bv (fn_ev 1 (n + 2000) d 87 [.ref 0, .int 0, .int (1536 + (x 0 27)), .int a1, .int a2, .int a3] x) (fun y1 =>
    some ((fn_w y1 0 30 ((y1 0 0) + 5)), none))) :=
  fn_ev_t (dd := fn_d109) (lo := [(0, .ref 0), (1, .int a1), (2, .int a2), (3, .int a3)]) (sp := []) rfl rfl rfl (fc_Model_ask (fn_ev 1 (n + 2000) d) (fn_run 1 (fn_ev 1 (n + 2000) d) (fn_lk fn_d109)) (n + 1983) a1 a2 a3 x)
set_option maxRecDepth 20000 in
theorem fc_Model_answered (cf : Nat → List Value → fn_M → Option fn_R) (K : Nat → fn_K) (m : Nat) (a1 a2 a3 : Int32) (x : fn_M) : fn_runc 1 cf (fn_lk fn_d110) [35, 61, 87, 134, 162] K (m + 53) 0 [(0, .ref 0), (1, .int a1), (2, .int a2), (3, .int a3)] [] x =
  (if a2 = (x 0 28) then
    (if a1 = 9 then
      (fn_bv (cf 112 [.ref 0, .int a3, .int 0] x) (fun y1 =>
        K (m + 36) 162 [(0, .ref 0), (1, .int a1), (2, .int a2), (3, .int a3), (4, .int 1)] [] y1))
      else
      K (m + 43) 35 [(0, .ref 0), (1, .int a1), (2, .int a2), (3, .int a3), (4, .int 1)] [] x)
    else
    (if a1 = 9 then
      K (m + 42) 35 [(0, .ref 0), (1, .int a1), (2, .int a2), (3, .int a3), (4, .int 0)] [] x
      else
      K (m + 44) 35 [(0, .ref 0), (1, .int a1), (2, .int a2), (3, .int a3), (4, .int 0)] [] x)) := rfl
theorem ft_Model_answered (n d : Nat) (a1 a2 a3 : Int32) (x : fn_M) : fn_ev 1 (n + 2000) (d + 1) 110 [.ref 0, .int a1, .int a2, .int a3] x =
  (if a2 = (x 0 28) then
    (if a1 = 9 then
      (fn_bv (fn_ev 1 (n + 2000) d 112 [.ref 0, .int a3, .int 0] x) (fun y1 =>
        fn_run 1 (fn_ev 1 (n + 2000) d) (fn_lk fn_d110) (n + 1983) 162 [(0, .ref 0), (1, .int a1), (2, .int a2), (3, .int a3), (4, .int 1)] [] y1))
      else
      fn_run 1 (fn_ev 1 (n + 2000) d) (fn_lk fn_d110) (n + 1990) 35 [(0, .ref 0), (1, .int a1), (2, .int a2), (3, .int a3), (4, .int 1)] [] x)
    else
    (if a1 = 9 then
      fn_run 1 (fn_ev 1 (n + 2000) d) (fn_lk fn_d110) (n + 1989) 35 [(0, .ref 0), (1, .int a1), (2, .int a2), (3, .int a3), (4, .int 0)] [] x
      else
      fn_run 1 (fn_ev 1 (n + 2000) d) (fn_lk fn_d110) (n + 1991) 35 [(0, .ref 0), (1, .int a1), (2, .int a2), (3, .int a3), (4, .int 0)] [] x)) :=
  fn_ev_t (dd := fn_d110) (lo := [(0, .ref 0), (1, .int a1), (2, .int a2), (3, .int a3)]) (sp := [35, 61, 87, 134, 162]) rfl rfl rfl (fc_Model_answered (fn_ev 1 (n + 2000) d) (fn_run 1 (fn_ev 1 (n + 2000) d) (fn_lk fn_d110)) (n + 1947) a1 a2 a3 x)
set_option maxRecDepth 20000 in
theorem fc_Model_answered_at35_0 (cf : Nat → List Value → fn_M → Option fn_R) (K : Nat → fn_K) (m : Nat) (l1 l2 l3 : Int32) (x : fn_M) : fn_runc 1 cf (fn_lk fn_d110) [35, 61, 87, 134, 162] K (m + 32) 35 [(0, .ref 0), (1, .int l1), (2, .int l2), (3, .int l3), (4, .int 0)] [] x =
  (if l1 = 1 then
    K (m + 27) 61 [(0, .ref 0), (1, .int l1), (2, .int l2), (3, .int l3), (4, .int 0)] [] x
    else
    K (m + 29) 61 [(0, .ref 0), (1, .int l1), (2, .int l2), (3, .int l3), (4, .int 0)] [] x) := rfl
theorem ft_Model_answered_at35_0 (n d m : Nat) (l1 l2 l3 : Int32) (x : fn_M) : fn_run 1 (fn_ev 1 (n + 2000) d) (fn_lk fn_d110) (m + 32) 35 [(0, .ref 0), (1, .int l1), (2, .int l2), (3, .int l3), (4, .int 0)] [] x =
  (if l1 = 1 then
    fn_run 1 (fn_ev 1 (n + 2000) d) (fn_lk fn_d110) (m + 27) 61 [(0, .ref 0), (1, .int l1), (2, .int l2), (3, .int l3), (4, .int 0)] [] x
    else
    fn_run 1 (fn_ev 1 (n + 2000) d) (fn_lk fn_d110) (m + 29) 61 [(0, .ref 0), (1, .int l1), (2, .int l2), (3, .int l3), (4, .int 0)] [] x) :=
  (fn_runc_eq 1 (fn_ev 1 (n + 2000) d) (fn_lk fn_d110) [35, 61, 87, 134, 162] (m + 32) 35 [(0, .ref 0), (1, .int l1), (2, .int l2), (3, .int l3), (4, .int 0)] [] x).trans (fc_Model_answered_at35_0 (fn_ev 1 (n + 2000) d) (fn_run 1 (fn_ev 1 (n + 2000) d) (fn_lk fn_d110)) m l1 l2 l3 x)
set_option maxRecDepth 20000 in
theorem fc_Model_answered_at35_1 (cf : Nat → List Value → fn_M → Option fn_R) (K : Nat → fn_K) (m : Nat) (l1 l2 l3 : Int32) (x : fn_M) : fn_runc 1 cf (fn_lk fn_d110) [35, 61, 87, 134, 162] K (m + 43) 35 [(0, .ref 0), (1, .int l1), (2, .int l2), (3, .int l3), (4, .int 1)] [] x =
  (if l1 = 1 then
    (if (x 0 29) = 0 then
      K (m + 35) 61 [(0, .ref 0), (1, .int l1), (2, .int l2), (3, .int l3), (4, .int 1)] [] x
      else
      (fn_bv (cf 112 [.ref 0, .int 0, .int 0] x) (fun y1 =>
        K (m + 30) 162 [(0, .ref 0), (1, .int l1), (2, .int l2), (3, .int l3), (4, .int 1)] [] y1)))
    else
    K (m + 40) 61 [(0, .ref 0), (1, .int l1), (2, .int l2), (3, .int l3), (4, .int 1)] [] x) := rfl
theorem ft_Model_answered_at35_1 (n d m : Nat) (l1 l2 l3 : Int32) (x : fn_M) : fn_run 1 (fn_ev 1 (n + 2000) d) (fn_lk fn_d110) (m + 43) 35 [(0, .ref 0), (1, .int l1), (2, .int l2), (3, .int l3), (4, .int 1)] [] x =
  (if l1 = 1 then
    (if (x 0 29) = 0 then
      fn_run 1 (fn_ev 1 (n + 2000) d) (fn_lk fn_d110) (m + 35) 61 [(0, .ref 0), (1, .int l1), (2, .int l2), (3, .int l3), (4, .int 1)] [] x
      else
      (fn_bv (fn_ev 1 (n + 2000) d 112 [.ref 0, .int 0, .int 0] x) (fun y1 =>
        fn_run 1 (fn_ev 1 (n + 2000) d) (fn_lk fn_d110) (m + 30) 162 [(0, .ref 0), (1, .int l1), (2, .int l2), (3, .int l3), (4, .int 1)] [] y1)))
    else
    fn_run 1 (fn_ev 1 (n + 2000) d) (fn_lk fn_d110) (m + 40) 61 [(0, .ref 0), (1, .int l1), (2, .int l2), (3, .int l3), (4, .int 1)] [] x) :=
  (fn_runc_eq 1 (fn_ev 1 (n + 2000) d) (fn_lk fn_d110) [35, 61, 87, 134, 162] (m + 43) 35 [(0, .ref 0), (1, .int l1), (2, .int l2), (3, .int l3), (4, .int 1)] [] x).trans (fc_Model_answered_at35_1 (fn_ev 1 (n + 2000) d) (fn_run 1 (fn_ev 1 (n + 2000) d) (fn_lk fn_d110)) m l1 l2 l3 x)
set_option maxRecDepth 20000 in
theorem fc_Model_answered_at61_0 (cf : Nat → List Value → fn_M → Option fn_R) (K : Nat → fn_K) (m : Nat) (l1 l2 l3 : Int32) (x : fn_M) : fn_runc 1 cf (fn_lk fn_d110) [35, 61, 87, 134, 162] K (m + 27) 61 [(0, .ref 0), (1, .int l1), (2, .int l2), (3, .int l3), (4, .int 0)] [] x =
  (if l1 = 2 then
    K (m + 22) 87 [(0, .ref 0), (1, .int l1), (2, .int l2), (3, .int l3), (4, .int 0)] [] x
    else
    K (m + 24) 87 [(0, .ref 0), (1, .int l1), (2, .int l2), (3, .int l3), (4, .int 0)] [] x) := rfl
theorem ft_Model_answered_at61_0 (n d m : Nat) (l1 l2 l3 : Int32) (x : fn_M) : fn_run 1 (fn_ev 1 (n + 2000) d) (fn_lk fn_d110) (m + 27) 61 [(0, .ref 0), (1, .int l1), (2, .int l2), (3, .int l3), (4, .int 0)] [] x =
  (if l1 = 2 then
    fn_run 1 (fn_ev 1 (n + 2000) d) (fn_lk fn_d110) (m + 22) 87 [(0, .ref 0), (1, .int l1), (2, .int l2), (3, .int l3), (4, .int 0)] [] x
    else
    fn_run 1 (fn_ev 1 (n + 2000) d) (fn_lk fn_d110) (m + 24) 87 [(0, .ref 0), (1, .int l1), (2, .int l2), (3, .int l3), (4, .int 0)] [] x) :=
  (fn_runc_eq 1 (fn_ev 1 (n + 2000) d) (fn_lk fn_d110) [35, 61, 87, 134, 162] (m + 27) 61 [(0, .ref 0), (1, .int l1), (2, .int l2), (3, .int l3), (4, .int 0)] [] x).trans (fc_Model_answered_at61_0 (fn_ev 1 (n + 2000) d) (fn_run 1 (fn_ev 1 (n + 2000) d) (fn_lk fn_d110)) m l1 l2 l3 x)
set_option maxRecDepth 20000 in
theorem fc_Model_answered_at61_1 (cf : Nat → List Value → fn_M → Option fn_R) (K : Nat → fn_K) (m : Nat) (l1 l2 l3 : Int32) (x : fn_M) : fn_runc 1 cf (fn_lk fn_d110) [35, 61, 87, 134, 162] K (m + 35) 61 [(0, .ref 0), (1, .int l1), (2, .int l2), (3, .int l3), (4, .int 1)] [] x =
  (if l1 = 2 then
    (if (x 0 29) = 0 then
      (fn_bv (cf 112 [.ref 0, .int 0, .int l3] x) (fun y1 =>
        K (m + 22) 162 [(0, .ref 0), (1, .int l1), (2, .int l2), (3, .int l3), (4, .int 1)] [] y1))
      else
      K (m + 27) 87 [(0, .ref 0), (1, .int l1), (2, .int l2), (3, .int l3), (4, .int 1)] [] x)
    else
    K (m + 32) 87 [(0, .ref 0), (1, .int l1), (2, .int l2), (3, .int l3), (4, .int 1)] [] x) := rfl
theorem ft_Model_answered_at61_1 (n d m : Nat) (l1 l2 l3 : Int32) (x : fn_M) : fn_run 1 (fn_ev 1 (n + 2000) d) (fn_lk fn_d110) (m + 35) 61 [(0, .ref 0), (1, .int l1), (2, .int l2), (3, .int l3), (4, .int 1)] [] x =
  (if l1 = 2 then
    (if (x 0 29) = 0 then
      (fn_bv (fn_ev 1 (n + 2000) d 112 [.ref 0, .int 0, .int l3] x) (fun y1 =>
        fn_run 1 (fn_ev 1 (n + 2000) d) (fn_lk fn_d110) (m + 22) 162 [(0, .ref 0), (1, .int l1), (2, .int l2), (3, .int l3), (4, .int 1)] [] y1))
      else
      fn_run 1 (fn_ev 1 (n + 2000) d) (fn_lk fn_d110) (m + 27) 87 [(0, .ref 0), (1, .int l1), (2, .int l2), (3, .int l3), (4, .int 1)] [] x)
    else
    fn_run 1 (fn_ev 1 (n + 2000) d) (fn_lk fn_d110) (m + 32) 87 [(0, .ref 0), (1, .int l1), (2, .int l2), (3, .int l3), (4, .int 1)] [] x) :=
  (fn_runc_eq 1 (fn_ev 1 (n + 2000) d) (fn_lk fn_d110) [35, 61, 87, 134, 162] (m + 35) 61 [(0, .ref 0), (1, .int l1), (2, .int l2), (3, .int l3), (4, .int 1)] [] x).trans (fc_Model_answered_at61_1 (fn_ev 1 (n + 2000) d) (fn_run 1 (fn_ev 1 (n + 2000) d) (fn_lk fn_d110)) m l1 l2 l3 x)
set_option maxRecDepth 20000 in
theorem fc_Model_answered_at87_0 (cf : Nat → List Value → fn_M → Option fn_R) (K : Nat → fn_K) (m : Nat) (l1 l2 l3 : Int32) (x : fn_M) : fn_runc 1 cf (fn_lk fn_d110) [35, 61, 87, 134, 162] K (m + 22) 87 [(0, .ref 0), (1, .int l1), (2, .int l2), (3, .int l3), (4, .int 0)] [] x =
  (if l1 = 3 then
    K (m + 17) 134 [(0, .ref 0), (1, .int l1), (2, .int l2), (3, .int l3), (4, .int 0)] [] x
    else
    K (m + 19) 134 [(0, .ref 0), (1, .int l1), (2, .int l2), (3, .int l3), (4, .int 0)] [] x) := rfl
theorem ft_Model_answered_at87_0 (n d m : Nat) (l1 l2 l3 : Int32) (x : fn_M) : fn_run 1 (fn_ev 1 (n + 2000) d) (fn_lk fn_d110) (m + 22) 87 [(0, .ref 0), (1, .int l1), (2, .int l2), (3, .int l3), (4, .int 0)] [] x =
  (if l1 = 3 then
    fn_run 1 (fn_ev 1 (n + 2000) d) (fn_lk fn_d110) (m + 17) 134 [(0, .ref 0), (1, .int l1), (2, .int l2), (3, .int l3), (4, .int 0)] [] x
    else
    fn_run 1 (fn_ev 1 (n + 2000) d) (fn_lk fn_d110) (m + 19) 134 [(0, .ref 0), (1, .int l1), (2, .int l2), (3, .int l3), (4, .int 0)] [] x) :=
  (fn_runc_eq 1 (fn_ev 1 (n + 2000) d) (fn_lk fn_d110) [35, 61, 87, 134, 162] (m + 22) 87 [(0, .ref 0), (1, .int l1), (2, .int l2), (3, .int l3), (4, .int 0)] [] x).trans (fc_Model_answered_at87_0 (fn_ev 1 (n + 2000) d) (fn_run 1 (fn_ev 1 (n + 2000) d) (fn_lk fn_d110)) m l1 l2 l3 x)
set_option maxRecDepth 20000 in
theorem fc_Model_answered_at87_1 (cf : Nat → List Value → fn_M → Option fn_R) (K : Nat → fn_K) (m : Nat) (l1 l2 l3 : Int32) (x : fn_M) : fn_runc 1 cf (fn_lk fn_d110) [35, 61, 87, 134, 162] K (m + 27) 87 [(0, .ref 0), (1, .int l1), (2, .int l2), (3, .int l3), (4, .int 1)] [] x =
  (if l1 = 3 then
    (if (x 0 29) = 0 then
      (fn_bv (cf 109 [.ref 0, .int 3, .int 0, .int 0] (fn_w (fn_w (fn_w (fn_w x 0 36 l3) 0 35 1) 0 38 0) 0 37 0)) (fun y1 =>
        K (m + 1) 162 [(0, .ref 0), (1, .int l1), (2, .int l2), (3, .int l3), (4, .int 1)] [] y1))
      else
      K (m + 19) 134 [(0, .ref 0), (1, .int l1), (2, .int l2), (3, .int l3), (4, .int 1)] [] x)
    else
    K (m + 24) 134 [(0, .ref 0), (1, .int l1), (2, .int l2), (3, .int l3), (4, .int 1)] [] x) := rfl
theorem ft_Model_answered_at87_1 (n d m : Nat) (l1 l2 l3 : Int32) (x : fn_M) : fn_run 1 (fn_ev 1 (n + 2000) d) (fn_lk fn_d110) (m + 27) 87 [(0, .ref 0), (1, .int l1), (2, .int l2), (3, .int l3), (4, .int 1)] [] x =
  (if l1 = 3 then
    (if (x 0 29) = 0 then
      (fn_bv (fn_ev 1 (n + 2000) d 109 [.ref 0, .int 3, .int 0, .int 0] (fn_w (fn_w (fn_w (fn_w x 0 36 l3) 0 35 1) 0 38 0) 0 37 0)) (fun y1 =>
        fn_run 1 (fn_ev 1 (n + 2000) d) (fn_lk fn_d110) (m + 1) 162 [(0, .ref 0), (1, .int l1), (2, .int l2), (3, .int l3), (4, .int 1)] [] y1))
      else
      fn_run 1 (fn_ev 1 (n + 2000) d) (fn_lk fn_d110) (m + 19) 134 [(0, .ref 0), (1, .int l1), (2, .int l2), (3, .int l3), (4, .int 1)] [] x)
    else
    fn_run 1 (fn_ev 1 (n + 2000) d) (fn_lk fn_d110) (m + 24) 134 [(0, .ref 0), (1, .int l1), (2, .int l2), (3, .int l3), (4, .int 1)] [] x) :=
  (fn_runc_eq 1 (fn_ev 1 (n + 2000) d) (fn_lk fn_d110) [35, 61, 87, 134, 162] (m + 27) 87 [(0, .ref 0), (1, .int l1), (2, .int l2), (3, .int l3), (4, .int 1)] [] x).trans (fc_Model_answered_at87_1 (fn_ev 1 (n + 2000) d) (fn_run 1 (fn_ev 1 (n + 2000) d) (fn_lk fn_d110)) m l1 l2 l3 x)
set_option maxRecDepth 20000 in
theorem fc_Model_answered_at134_0 (cf : Nat → List Value → fn_M → Option fn_R) (K : Nat → fn_K) (m : Nat) (l1 l2 l3 : Int32) (x : fn_M) : fn_runc 1 cf (fn_lk fn_d110) [35, 61, 87, 134, 162] K (m + 17) 134 [(0, .ref 0), (1, .int l1), (2, .int l2), (3, .int l3), (4, .int 0)] [] x =
  (if l1 = 4 then
    (if (x 0 35) = 0 then
      K (m + 11) 162 [(0, .ref 0), (1, .int l1), (2, .int l2), (3, .int l3), (4, .int 0)] [] x
      else
      (if (l2 &&& 1) = (x 0 37) then
        (fn_bv (cf 111 [.ref 0, .int l2, .int l3] x) (fun y1 =>
          K (m + 1) 162 [(0, .ref 0), (1, .int l1), (2, .int l2), (3, .int l3), (4, .int 0)] [] y1))
        else
        K (m + 5) 162 [(0, .ref 0), (1, .int l1), (2, .int l2), (3, .int l3), (4, .int 0)] [] x))
    else
    K (m + 14) 162 [(0, .ref 0), (1, .int l1), (2, .int l2), (3, .int l3), (4, .int 0)] [] x) := rfl
theorem ft_Model_answered_at134_0 (n d m : Nat) (l1 l2 l3 : Int32) (x : fn_M) : fn_run 1 (fn_ev 1 (n + 2000) d) (fn_lk fn_d110) (m + 17) 134 [(0, .ref 0), (1, .int l1), (2, .int l2), (3, .int l3), (4, .int 0)] [] x =
  (if l1 = 4 then
    (if (x 0 35) = 0 then
      fn_run 1 (fn_ev 1 (n + 2000) d) (fn_lk fn_d110) (m + 11) 162 [(0, .ref 0), (1, .int l1), (2, .int l2), (3, .int l3), (4, .int 0)] [] x
      else
      (if (l2 &&& 1) = (x 0 37) then
        (fn_bv (fn_ev 1 (n + 2000) d 111 [.ref 0, .int l2, .int l3] x) (fun y1 =>
          fn_run 1 (fn_ev 1 (n + 2000) d) (fn_lk fn_d110) (m + 1) 162 [(0, .ref 0), (1, .int l1), (2, .int l2), (3, .int l3), (4, .int 0)] [] y1))
        else
        fn_run 1 (fn_ev 1 (n + 2000) d) (fn_lk fn_d110) (m + 5) 162 [(0, .ref 0), (1, .int l1), (2, .int l2), (3, .int l3), (4, .int 0)] [] x))
    else
    fn_run 1 (fn_ev 1 (n + 2000) d) (fn_lk fn_d110) (m + 14) 162 [(0, .ref 0), (1, .int l1), (2, .int l2), (3, .int l3), (4, .int 0)] [] x) :=
  (fn_runc_eq 1 (fn_ev 1 (n + 2000) d) (fn_lk fn_d110) [35, 61, 87, 134, 162] (m + 17) 134 [(0, .ref 0), (1, .int l1), (2, .int l2), (3, .int l3), (4, .int 0)] [] x).trans (fc_Model_answered_at134_0 (fn_ev 1 (n + 2000) d) (fn_run 1 (fn_ev 1 (n + 2000) d) (fn_lk fn_d110)) m l1 l2 l3 x)
set_option maxRecDepth 20000 in
theorem fc_Model_answered_at134_1 (cf : Nat → List Value → fn_M → Option fn_R) (K : Nat → fn_K) (m : Nat) (l1 l2 l3 : Int32) (x : fn_M) : fn_runc 1 cf (fn_lk fn_d110) [35, 61, 87, 134, 162] K (m + 17) 134 [(0, .ref 0), (1, .int l1), (2, .int l2), (3, .int l3), (4, .int 1)] [] x =
  (if l1 = 4 then
    (if (x 0 35) = 0 then
      K (m + 11) 162 [(0, .ref 0), (1, .int l1), (2, .int l2), (3, .int l3), (4, .int 1)] [] x
      else
      (if (l2 &&& 1) = (x 0 37) then
        (fn_bv (cf 111 [.ref 0, .int l2, .int l3] x) (fun y1 =>
          K (m + 1) 162 [(0, .ref 0), (1, .int l1), (2, .int l2), (3, .int l3), (4, .int 1)] [] y1))
        else
        K (m + 5) 162 [(0, .ref 0), (1, .int l1), (2, .int l2), (3, .int l3), (4, .int 1)] [] x))
    else
    K (m + 14) 162 [(0, .ref 0), (1, .int l1), (2, .int l2), (3, .int l3), (4, .int 1)] [] x) := rfl
theorem ft_Model_answered_at134_1 (n d m : Nat) (l1 l2 l3 : Int32) (x : fn_M) : fn_run 1 (fn_ev 1 (n + 2000) d) (fn_lk fn_d110) (m + 17) 134 [(0, .ref 0), (1, .int l1), (2, .int l2), (3, .int l3), (4, .int 1)] [] x =
  (if l1 = 4 then
    (if (x 0 35) = 0 then
      fn_run 1 (fn_ev 1 (n + 2000) d) (fn_lk fn_d110) (m + 11) 162 [(0, .ref 0), (1, .int l1), (2, .int l2), (3, .int l3), (4, .int 1)] [] x
      else
      (if (l2 &&& 1) = (x 0 37) then
        (fn_bv (fn_ev 1 (n + 2000) d 111 [.ref 0, .int l2, .int l3] x) (fun y1 =>
          fn_run 1 (fn_ev 1 (n + 2000) d) (fn_lk fn_d110) (m + 1) 162 [(0, .ref 0), (1, .int l1), (2, .int l2), (3, .int l3), (4, .int 1)] [] y1))
        else
        fn_run 1 (fn_ev 1 (n + 2000) d) (fn_lk fn_d110) (m + 5) 162 [(0, .ref 0), (1, .int l1), (2, .int l2), (3, .int l3), (4, .int 1)] [] x))
    else
    fn_run 1 (fn_ev 1 (n + 2000) d) (fn_lk fn_d110) (m + 14) 162 [(0, .ref 0), (1, .int l1), (2, .int l2), (3, .int l3), (4, .int 1)] [] x) :=
  (fn_runc_eq 1 (fn_ev 1 (n + 2000) d) (fn_lk fn_d110) [35, 61, 87, 134, 162] (m + 17) 134 [(0, .ref 0), (1, .int l1), (2, .int l2), (3, .int l3), (4, .int 1)] [] x).trans (fc_Model_answered_at134_1 (fn_ev 1 (n + 2000) d) (fn_run 1 (fn_ev 1 (n + 2000) d) (fn_lk fn_d110)) m l1 l2 l3 x)
set_option maxRecDepth 20000 in
theorem fc_Model_answered_at162_0 (cf : Nat → List Value → fn_M → Option fn_R) (K : Nat → fn_K) (m : Nat) (l1 l2 l3 : Int32) (x : fn_M) : fn_runc 1 cf (fn_lk fn_d110) [35, 61, 87, 134, 162] K (m + 1) 162 [(0, .ref 0), (1, .int l1), (2, .int l2), (3, .int l3), (4, .int 0)] [] x =
  some (x, none) := rfl
theorem ft_Model_answered_at162_0 (n d m : Nat) (l1 l2 l3 : Int32) (x : fn_M) : fn_run 1 (fn_ev 1 (n + 2000) d) (fn_lk fn_d110) (m + 1) 162 [(0, .ref 0), (1, .int l1), (2, .int l2), (3, .int l3), (4, .int 0)] [] x =
  some (x, none) :=
  (fn_runc_eq 1 (fn_ev 1 (n + 2000) d) (fn_lk fn_d110) [35, 61, 87, 134, 162] (m + 1) 162 [(0, .ref 0), (1, .int l1), (2, .int l2), (3, .int l3), (4, .int 0)] [] x).trans (fc_Model_answered_at162_0 (fn_ev 1 (n + 2000) d) (fn_run 1 (fn_ev 1 (n + 2000) d) (fn_lk fn_d110)) m l1 l2 l3 x)
set_option maxRecDepth 20000 in
theorem fc_Model_answered_at162_1 (cf : Nat → List Value → fn_M → Option fn_R) (K : Nat → fn_K) (m : Nat) (l1 l2 l3 : Int32) (x : fn_M) : fn_runc 1 cf (fn_lk fn_d110) [35, 61, 87, 134, 162] K (m + 1) 162 [(0, .ref 0), (1, .int l1), (2, .int l2), (3, .int l3), (4, .int 1)] [] x =
  some (x, none) := rfl
theorem ft_Model_answered_at162_1 (n d m : Nat) (l1 l2 l3 : Int32) (x : fn_M) : fn_run 1 (fn_ev 1 (n + 2000) d) (fn_lk fn_d110) (m + 1) 162 [(0, .ref 0), (1, .int l1), (2, .int l2), (3, .int l3), (4, .int 1)] [] x =
  some (x, none) :=
  (fn_runc_eq 1 (fn_ev 1 (n + 2000) d) (fn_lk fn_d110) [35, 61, 87, 134, 162] (m + 1) 162 [(0, .ref 0), (1, .int l1), (2, .int l2), (3, .int l3), (4, .int 1)] [] x).trans (fc_Model_answered_at162_1 (fn_ev 1 (n + 2000) d) (fn_run 1 (fn_ev 1 (n + 2000) d) (fn_lk fn_d110)) m l1 l2 l3 x)
set_option maxRecDepth 20000 in
theorem fc_Model_collect (cf : Nat → List Value → fn_M → Option fn_R) (K : Nat → fn_K) (m : Nat) (a1 a2 : Int32) (x : fn_M) : fn_runc 1 cf (fn_lk fn_d111) [21] K (m + 14) 0 [(0, .ref 0), (1, .int a1), (2, .int a2)] [] x =
  (if ((a1 >>> (1 &&& 31)) &&& 7) ≤ 4 then
    K (m + 1) 21 [(0, .ref 0), (1, .int a1), (2, .int a2), (3, .int ((a1 >>> (1 &&& 31)) &&& 7)), (4, .int 0)] [] x
    else
    K (m + 0) 21 [(0, .ref 0), (1, .int a1), (2, .int a2), (3, .int 4), (4, .int 0)] [] x) := rfl
theorem ft_Model_collect (n d : Nat) (a1 a2 : Int32) (x : fn_M) : fn_ev 1 (n + 2000) (d + 1) 111 [.ref 0, .int a1, .int a2] x =
  (if ((a1 >>> (1 &&& 31)) &&& 7) ≤ 4 then
    fn_run 1 (fn_ev 1 (n + 2000) d) (fn_lk fn_d111) (n + 1987) 21 [(0, .ref 0), (1, .int a1), (2, .int a2), (3, .int ((a1 >>> (1 &&& 31)) &&& 7)), (4, .int 0)] [] x
    else
    fn_run 1 (fn_ev 1 (n + 2000) d) (fn_lk fn_d111) (n + 1986) 21 [(0, .ref 0), (1, .int a1), (2, .int a2), (3, .int 4), (4, .int 0)] [] x) :=
  fn_ev_t (dd := fn_d111) (lo := [(0, .ref 0), (1, .int a1), (2, .int a2)]) (sp := [21]) rfl rfl rfl (fc_Model_collect (fn_ev 1 (n + 2000) d) (fn_run 1 (fn_ev 1 (n + 2000) d) (fn_lk fn_d111)) (n + 1986) a1 a2 x)
set_option maxRecDepth 20000 in
theorem fc_Model_collect_at21 (cf : Nat → List Value → fn_M → Option fn_R) (K : Nat → fn_K) (m : Nat) (l1 l2 l3 l4 : Int32) (x : fn_M) : fn_runc 1 cf (fn_lk fn_d111) [21] K (m + 28) 21 [(0, .ref 0), (1, .int l1), (2, .int l2), (3, .int l3), (4, .int l4)] [] x =
  (if l3 ≤ l4 then
    (if (x 0 36) ≤ (x 0 38) then
      (fn_bv (cf 112 [.ref 0, .int 0, .int (x 0 38)] x) (fun y1 =>
        some (y1, none)))
      else
      (if 2 ≤ l1 then
        (fn_bv (cf 109 [.ref 0, .int 3, .int (1 - (x 0 37)), .int 0] (fn_w x 0 37 (1 - (x 0 37)))) (fun y2 =>
          some (y2, none)))
        else
        (fn_bv (cf 112 [.ref 0, .int 0, .int (x 0 38)] x) (fun y3 =>
          some (y3, none)))))
    else
    (if 12 ≤ (x 0 38) then
      (if (x 0 36) ≤ (x 0 38) then
        (fn_bv (cf 112 [.ref 0, .int 0, .int (x 0 38)] x) (fun y4 =>
          some (y4, none)))
        else
        (if 2 ≤ l1 then
          (fn_bv (cf 109 [.ref 0, .int 3, .int (1 - (x 0 37)), .int 0] (fn_w x 0 37 (1 - (x 0 37)))) (fun y5 =>
            some (y5, none)))
          else
          (fn_bv (cf 112 [.ref 0, .int 0, .int (x 0 38)] x) (fun y6 =>
            some (y6, none)))))
      else
      (if (x 0 38) < 0 ∨ 12 ≤ (x 0 38).toNatClampNeg then
        none
        else
        K (m + 1) 21 [(0, .ref 0), (1, .int l1), (2, .int l2), (3, .int l3), (4, .int (l4 + 1))] [] (fn_w (fn_w x 22 (x 0 38).toNatClampNeg ((l2 >>> ((8 * l4) &&& 31)) &&& 255)) 0 38 ((x 0 38) + 1))))) := rfl
theorem ft_Model_collect_at21 (n d m : Nat) (l1 l2 l3 l4 : Int32) (x : fn_M) : fn_run 1 (fn_ev 1 (n + 2000) d) (fn_lk fn_d111) (m + 28) 21 [(0, .ref 0), (1, .int l1), (2, .int l2), (3, .int l3), (4, .int l4)] [] x =
  (if l3 ≤ l4 then
    (if (x 0 36) ≤ (x 0 38) then
      (fn_bv (fn_ev 1 (n + 2000) d 112 [.ref 0, .int 0, .int (x 0 38)] x) (fun y1 =>
        some (y1, none)))
      else
      (if 2 ≤ l1 then
        (fn_bv (fn_ev 1 (n + 2000) d 109 [.ref 0, .int 3, .int (1 - (x 0 37)), .int 0] (fn_w x 0 37 (1 - (x 0 37)))) (fun y2 =>
          some (y2, none)))
        else
        (fn_bv (fn_ev 1 (n + 2000) d 112 [.ref 0, .int 0, .int (x 0 38)] x) (fun y3 =>
          some (y3, none)))))
    else
    (if 12 ≤ (x 0 38) then
      (if (x 0 36) ≤ (x 0 38) then
        (fn_bv (fn_ev 1 (n + 2000) d 112 [.ref 0, .int 0, .int (x 0 38)] x) (fun y4 =>
          some (y4, none)))
        else
        (if 2 ≤ l1 then
          (fn_bv (fn_ev 1 (n + 2000) d 109 [.ref 0, .int 3, .int (1 - (x 0 37)), .int 0] (fn_w x 0 37 (1 - (x 0 37)))) (fun y5 =>
            some (y5, none)))
          else
          (fn_bv (fn_ev 1 (n + 2000) d 112 [.ref 0, .int 0, .int (x 0 38)] x) (fun y6 =>
            some (y6, none)))))
      else
      (if (x 0 38) < 0 ∨ 12 ≤ (x 0 38).toNatClampNeg then
        none
        else
        fn_run 1 (fn_ev 1 (n + 2000) d) (fn_lk fn_d111) (m + 1) 21 [(0, .ref 0), (1, .int l1), (2, .int l2), (3, .int l3), (4, .int (l4 + 1))] [] (fn_w (fn_w x 22 (x 0 38).toNatClampNeg ((l2 >>> ((8 * l4) &&& 31)) &&& 255)) 0 38 ((x 0 38) + 1))))) :=
  (fn_runc_eq 1 (fn_ev 1 (n + 2000) d) (fn_lk fn_d111) [21] (m + 28) 21 [(0, .ref 0), (1, .int l1), (2, .int l2), (3, .int l3), (4, .int l4)] [] x).trans (fc_Model_collect_at21 (fn_ev 1 (n + 2000) d) (fn_run 1 (fn_ev 1 (n + 2000) d) (fn_lk fn_d111)) m l1 l2 l3 l4 x)
set_option maxRecDepth 20000 in
theorem fc_Model_over (cf : Nat → List Value → fn_M → Option fn_R) (K : Nat → fn_K) (m : Nat) (a1 a2 : Int32) (x : fn_M) : fn_runc 1 cf (fn_lk fn_d112) [] K (m + 27) 0 [(0, .ref 0), (1, .int a1), (2, .int a2)] [] x =
  (if (x 0 31) = 0 then
    some ((fn_w (fn_w (fn_w (fn_w (fn_w x 0 27 0) 0 31 0) 0 35 0) 0 33 a1) 0 34 a2), none)
    else
    (fn_bv (cf 114 [.ref 0, .int (x 0 27)] (fn_w (fn_w (fn_w (fn_w (fn_w x 0 27 0) 0 31 0) 0 35 0) 0 33 a1) 0 34 a2)) (fun y1 =>
      some (y1, none)))) := rfl
theorem ft_Model_over (n d : Nat) (a1 a2 : Int32) (x : fn_M) : fn_ev 1 (n + 2000) (d + 1) 112 [.ref 0, .int a1, .int a2] x =
  (if (x 0 31) = 0 then
    some ((fn_w (fn_w (fn_w (fn_w (fn_w x 0 27 0) 0 31 0) 0 35 0) 0 33 a1) 0 34 a2), none)
    else
    (fn_bv (fn_ev 1 (n + 2000) d 114 [.ref 0, .int (x 0 27)] (fn_w (fn_w (fn_w (fn_w (fn_w x 0 27 0) 0 31 0) 0 35 0) 0 33 a1) 0 34 a2)) (fun y1 =>
      some (y1, none)))) :=
  fn_ev_t (dd := fn_d112) (lo := [(0, .ref 0), (1, .int a1), (2, .int a2)]) (sp := []) rfl rfl rfl (fc_Model_over (fn_ev 1 (n + 2000) d) (fn_run 1 (fn_ev 1 (n + 2000) d) (fn_lk fn_d112)) (n + 1973) a1 a2 x)
set_option maxRecDepth 20000 in
theorem fc_Model_fails (cf : Nat → List Value → fn_M → Option fn_R) (K : Nat → fn_K) (m : Nat) (a1 a2 : Int32) (x : fn_M) : fn_runc 1 cf (fn_lk fn_d113) [] K (m + 11) 0 [(0, .ref 0), (1, .int a1), (2, .int a2)] [] x =
  (if a1 < 0 ∨ 5 ≤ a1.toNatClampNeg then
    none
    else
    (fn_bv (cf 105 [.ref 0, .int 3, .int a1, .int a2] (fn_w x 20 a1.toNatClampNeg a2)) (fun y1 =>
      some (y1, none)))) := rfl
theorem ft_Model_fails (n d : Nat) (a1 a2 : Int32) (x : fn_M) : fn_ev 1 (n + 2000) (d + 1) 113 [.ref 0, .int a1, .int a2] x =
  (if a1 < 0 ∨ 5 ≤ a1.toNatClampNeg then
    none
    else
    (fn_bv (fn_ev 1 (n + 2000) d 105 [.ref 0, .int 3, .int a1, .int a2] (fn_w x 20 a1.toNatClampNeg a2)) (fun y1 =>
      some (y1, none)))) :=
  fn_ev_t (dd := fn_d113) (lo := [(0, .ref 0), (1, .int a1), (2, .int a2)]) (sp := []) rfl rfl rfl (fc_Model_fails (fn_ev 1 (n + 2000) d) (fn_run 1 (fn_ev 1 (n + 2000) d) (fn_lk fn_d113)) (n + 1989) a1 a2 x)
set_option maxRecDepth 20000 in
theorem fc_Model_lead (cf : Nat → List Value → fn_M → Option fn_R) (K : Nat → fn_K) (m : Nat) (x : fn_M) : fn_runc 1 cf (fn_lk fn_d115) [30, 89, 120, 143, 171] K (m + 244) 0 [(0, .ref 0)] [] x =
  (if (x 0 19) ≤ 0 then
    K (m + 241) 30 [(0, .ref 0)] [] x
    else
    (if (x 0 19) = 0 then
      none
      else
      (if ((x 0 0) - (x 0 0) / (x 0 19) * (x 0 19)) = 0 then
        (fn_bv (cf 87 [.ref 0, .int 0, .int 128, .int 0, .int 0, .int 0] x) (fun y1 =>
          K (m + 228) 30 [(0, .ref 0)] [] y1))
        else
        K (m + 235) 30 [(0, .ref 0)] [] x))) := rfl
theorem ft_Model_lead (n d : Nat) (x : fn_M) : fn_ev 1 (n + 2000) (d + 1) 115 [.ref 0] x =
  (if (x 0 19) ≤ 0 then
    fn_run 1 (fn_ev 1 (n + 2000) d) (fn_lk fn_d115) (n + 1997) 30 [(0, .ref 0)] [] x
    else
    (if (x 0 19) = 0 then
      none
      else
      (if ((x 0 0) - (x 0 0) / (x 0 19) * (x 0 19)) = 0 then
        (fn_bv (fn_ev 1 (n + 2000) d 87 [.ref 0, .int 0, .int 128, .int 0, .int 0, .int 0] x) (fun y1 =>
          fn_run 1 (fn_ev 1 (n + 2000) d) (fn_lk fn_d115) (n + 1984) 30 [(0, .ref 0)] [] y1))
        else
        fn_run 1 (fn_ev 1 (n + 2000) d) (fn_lk fn_d115) (n + 1991) 30 [(0, .ref 0)] [] x))) :=
  fn_ev_t (dd := fn_d115) (lo := [(0, .ref 0)]) (sp := [30, 89, 120, 143, 171]) rfl rfl rfl (fc_Model_lead (fn_ev 1 (n + 2000) d) (fn_run 1 (fn_ev 1 (n + 2000) d) (fn_lk fn_d115)) (n + 1756) x)
set_option maxRecDepth 20000 in
theorem fc_Model_lead_at30 (cf : Nat → List Value → fn_M → Option fn_R) (K : Nat → fn_K) (m : Nat) (x : fn_M) : fn_runc 1 cf (fn_lk fn_d115) [30, 89, 120, 143, 171] K (m + 228) 30 [(0, .ref 0)] [] x =
  (if (x 16 1) ≤ 0 then
    K (m + 218) 89 [(0, .ref 0), (1, .int 1)] [] x
    else
    (if (x 21 1) < 0 then
      K (m + 213) 89 [(0, .ref 0), (1, .int 1)] [] x
      else
      (if (x 0 0) < ((x 21 1) + (x 16 1)) then
        K (m + 201) 89 [(0, .ref 0), (1, .int 1)] [] x
        else
        (fn_bv (cf 105 [.ref 0, .int 4, .int 1, .int 0] (fn_w x 21 1 (-1))) (fun y1 =>
          K (m + 191) 89 [(0, .ref 0), (1, .int 1)] [] y1))))) := rfl
theorem ft_Model_lead_at30 (n d m : Nat) (x : fn_M) : fn_run 1 (fn_ev 1 (n + 2000) d) (fn_lk fn_d115) (m + 228) 30 [(0, .ref 0)] [] x =
  (if (x 16 1) ≤ 0 then
    fn_run 1 (fn_ev 1 (n + 2000) d) (fn_lk fn_d115) (m + 218) 89 [(0, .ref 0), (1, .int 1)] [] x
    else
    (if (x 21 1) < 0 then
      fn_run 1 (fn_ev 1 (n + 2000) d) (fn_lk fn_d115) (m + 213) 89 [(0, .ref 0), (1, .int 1)] [] x
      else
      (if (x 0 0) < ((x 21 1) + (x 16 1)) then
        fn_run 1 (fn_ev 1 (n + 2000) d) (fn_lk fn_d115) (m + 201) 89 [(0, .ref 0), (1, .int 1)] [] x
        else
        (fn_bv (fn_ev 1 (n + 2000) d 105 [.ref 0, .int 4, .int 1, .int 0] (fn_w x 21 1 (-1))) (fun y1 =>
          fn_run 1 (fn_ev 1 (n + 2000) d) (fn_lk fn_d115) (m + 191) 89 [(0, .ref 0), (1, .int 1)] [] y1))))) :=
  (fn_runc_eq 1 (fn_ev 1 (n + 2000) d) (fn_lk fn_d115) [30, 89, 120, 143, 171] (m + 228) 30 [(0, .ref 0)] [] x).trans (fc_Model_lead_at30 (fn_ev 1 (n + 2000) d) (fn_run 1 (fn_ev 1 (n + 2000) d) (fn_lk fn_d115)) m x)
set_option maxRecDepth 20000 in
theorem fc_Model_lead_at89_1 (cf : Nat → List Value → fn_M → Option fn_R) (K : Nat → fn_K) (m : Nat) (x : fn_M) : fn_runc 1 cf (fn_lk fn_d115) [30, 89, 120, 143, 171] K (m + 191) 89 [(0, .ref 0), (1, .int 1)] [] x =
  (if (x 16 2) ≤ 0 then
    K (m + 181) 89 [(0, .ref 0), (1, .int 2)] [] x
    else
    (if (x 21 2) < 0 then
      K (m + 176) 89 [(0, .ref 0), (1, .int 2)] [] x
      else
      (if (x 0 0) < ((x 21 2) + (x 16 2)) then
        K (m + 164) 89 [(0, .ref 0), (1, .int 2)] [] x
        else
        (fn_bv (cf 105 [.ref 0, .int 4, .int 2, .int 0] (fn_w x 21 2 (-1))) (fun y1 =>
          K (m + 154) 89 [(0, .ref 0), (1, .int 2)] [] y1))))) := rfl
theorem ft_Model_lead_at89_1 (n d m : Nat) (x : fn_M) : fn_run 1 (fn_ev 1 (n + 2000) d) (fn_lk fn_d115) (m + 191) 89 [(0, .ref 0), (1, .int 1)] [] x =
  (if (x 16 2) ≤ 0 then
    fn_run 1 (fn_ev 1 (n + 2000) d) (fn_lk fn_d115) (m + 181) 89 [(0, .ref 0), (1, .int 2)] [] x
    else
    (if (x 21 2) < 0 then
      fn_run 1 (fn_ev 1 (n + 2000) d) (fn_lk fn_d115) (m + 176) 89 [(0, .ref 0), (1, .int 2)] [] x
      else
      (if (x 0 0) < ((x 21 2) + (x 16 2)) then
        fn_run 1 (fn_ev 1 (n + 2000) d) (fn_lk fn_d115) (m + 164) 89 [(0, .ref 0), (1, .int 2)] [] x
        else
        (fn_bv (fn_ev 1 (n + 2000) d 105 [.ref 0, .int 4, .int 2, .int 0] (fn_w x 21 2 (-1))) (fun y1 =>
          fn_run 1 (fn_ev 1 (n + 2000) d) (fn_lk fn_d115) (m + 154) 89 [(0, .ref 0), (1, .int 2)] [] y1))))) :=
  (fn_runc_eq 1 (fn_ev 1 (n + 2000) d) (fn_lk fn_d115) [30, 89, 120, 143, 171] (m + 191) 89 [(0, .ref 0), (1, .int 1)] [] x).trans (fc_Model_lead_at89_1 (fn_ev 1 (n + 2000) d) (fn_run 1 (fn_ev 1 (n + 2000) d) (fn_lk fn_d115)) m x)
set_option maxRecDepth 20000 in
theorem fc_Model_lead_at89_2 (cf : Nat → List Value → fn_M → Option fn_R) (K : Nat → fn_K) (m : Nat) (x : fn_M) : fn_runc 1 cf (fn_lk fn_d115) [30, 89, 120, 143, 171] K (m + 154) 89 [(0, .ref 0), (1, .int 2)] [] x =
  (if (x 16 3) ≤ 0 then
    K (m + 144) 89 [(0, .ref 0), (1, .int 3)] [] x
    else
    (if (x 21 3) < 0 then
      K (m + 139) 89 [(0, .ref 0), (1, .int 3)] [] x
      else
      (if (x 0 0) < ((x 21 3) + (x 16 3)) then
        K (m + 127) 89 [(0, .ref 0), (1, .int 3)] [] x
        else
        (fn_bv (cf 105 [.ref 0, .int 4, .int 3, .int 0] (fn_w x 21 3 (-1))) (fun y1 =>
          K (m + 117) 89 [(0, .ref 0), (1, .int 3)] [] y1))))) := rfl
theorem ft_Model_lead_at89_2 (n d m : Nat) (x : fn_M) : fn_run 1 (fn_ev 1 (n + 2000) d) (fn_lk fn_d115) (m + 154) 89 [(0, .ref 0), (1, .int 2)] [] x =
  (if (x 16 3) ≤ 0 then
    fn_run 1 (fn_ev 1 (n + 2000) d) (fn_lk fn_d115) (m + 144) 89 [(0, .ref 0), (1, .int 3)] [] x
    else
    (if (x 21 3) < 0 then
      fn_run 1 (fn_ev 1 (n + 2000) d) (fn_lk fn_d115) (m + 139) 89 [(0, .ref 0), (1, .int 3)] [] x
      else
      (if (x 0 0) < ((x 21 3) + (x 16 3)) then
        fn_run 1 (fn_ev 1 (n + 2000) d) (fn_lk fn_d115) (m + 127) 89 [(0, .ref 0), (1, .int 3)] [] x
        else
        (fn_bv (fn_ev 1 (n + 2000) d 105 [.ref 0, .int 4, .int 3, .int 0] (fn_w x 21 3 (-1))) (fun y1 =>
          fn_run 1 (fn_ev 1 (n + 2000) d) (fn_lk fn_d115) (m + 117) 89 [(0, .ref 0), (1, .int 3)] [] y1))))) :=
  (fn_runc_eq 1 (fn_ev 1 (n + 2000) d) (fn_lk fn_d115) [30, 89, 120, 143, 171] (m + 154) 89 [(0, .ref 0), (1, .int 2)] [] x).trans (fc_Model_lead_at89_2 (fn_ev 1 (n + 2000) d) (fn_run 1 (fn_ev 1 (n + 2000) d) (fn_lk fn_d115)) m x)
set_option maxRecDepth 20000 in
theorem fc_Model_lead_at89_3 (cf : Nat → List Value → fn_M → Option fn_R) (K : Nat → fn_K) (m : Nat) (x : fn_M) : fn_runc 1 cf (fn_lk fn_d115) [30, 89, 120, 143, 171] K (m + 117) 89 [(0, .ref 0), (1, .int 3)] [] x =
  (if (x 16 4) ≤ 0 then
    K (m + 107) 89 [(0, .ref 0), (1, .int 4)] [] x
    else
    (if (x 21 4) < 0 then
      K (m + 102) 89 [(0, .ref 0), (1, .int 4)] [] x
      else
      (if (x 0 0) < ((x 21 4) + (x 16 4)) then
        K (m + 90) 89 [(0, .ref 0), (1, .int 4)] [] x
        else
        (fn_bv (cf 105 [.ref 0, .int 4, .int 4, .int 0] (fn_w x 21 4 (-1))) (fun y1 =>
          K (m + 80) 89 [(0, .ref 0), (1, .int 4)] [] y1))))) := rfl
theorem ft_Model_lead_at89_3 (n d m : Nat) (x : fn_M) : fn_run 1 (fn_ev 1 (n + 2000) d) (fn_lk fn_d115) (m + 117) 89 [(0, .ref 0), (1, .int 3)] [] x =
  (if (x 16 4) ≤ 0 then
    fn_run 1 (fn_ev 1 (n + 2000) d) (fn_lk fn_d115) (m + 107) 89 [(0, .ref 0), (1, .int 4)] [] x
    else
    (if (x 21 4) < 0 then
      fn_run 1 (fn_ev 1 (n + 2000) d) (fn_lk fn_d115) (m + 102) 89 [(0, .ref 0), (1, .int 4)] [] x
      else
      (if (x 0 0) < ((x 21 4) + (x 16 4)) then
        fn_run 1 (fn_ev 1 (n + 2000) d) (fn_lk fn_d115) (m + 90) 89 [(0, .ref 0), (1, .int 4)] [] x
        else
        (fn_bv (fn_ev 1 (n + 2000) d 105 [.ref 0, .int 4, .int 4, .int 0] (fn_w x 21 4 (-1))) (fun y1 =>
          fn_run 1 (fn_ev 1 (n + 2000) d) (fn_lk fn_d115) (m + 80) 89 [(0, .ref 0), (1, .int 4)] [] y1))))) :=
  (fn_runc_eq 1 (fn_ev 1 (n + 2000) d) (fn_lk fn_d115) [30, 89, 120, 143, 171] (m + 117) 89 [(0, .ref 0), (1, .int 3)] [] x).trans (fc_Model_lead_at89_3 (fn_ev 1 (n + 2000) d) (fn_run 1 (fn_ev 1 (n + 2000) d) (fn_lk fn_d115)) m x)
set_option maxRecDepth 20000 in
theorem fc_Model_lead_at89_4 (cf : Nat → List Value → fn_M → Option fn_R) (K : Nat → fn_K) (m : Nat) (x : fn_M) : fn_runc 1 cf (fn_lk fn_d115) [30, 89, 120, 143, 171] K (m + 80) 89 [(0, .ref 0), (1, .int 4)] [] x =
  (if (x 0 27) ≤ 0 then
    K (m + 72) 120 [(0, .ref 0), (1, .int 5)] [] x
    else
    (if (x 0 0) < (x 0 30) then
      K (m + 67) 120 [(0, .ref 0), (1, .int 5)] [] x
      else
      (fn_bv (cf 112 [.ref 0, .int 7, .int 0] x) (fun y1 =>
        K (m + 63) 120 [(0, .ref 0), (1, .int 5)] [] y1)))) := rfl
theorem ft_Model_lead_at89_4 (n d m : Nat) (x : fn_M) : fn_run 1 (fn_ev 1 (n + 2000) d) (fn_lk fn_d115) (m + 80) 89 [(0, .ref 0), (1, .int 4)] [] x =
  (if (x 0 27) ≤ 0 then
    fn_run 1 (fn_ev 1 (n + 2000) d) (fn_lk fn_d115) (m + 72) 120 [(0, .ref 0), (1, .int 5)] [] x
    else
    (if (x 0 0) < (x 0 30) then
      fn_run 1 (fn_ev 1 (n + 2000) d) (fn_lk fn_d115) (m + 67) 120 [(0, .ref 0), (1, .int 5)] [] x
      else
      (fn_bv (fn_ev 1 (n + 2000) d 112 [.ref 0, .int 7, .int 0] x) (fun y1 =>
        fn_run 1 (fn_ev 1 (n + 2000) d) (fn_lk fn_d115) (m + 63) 120 [(0, .ref 0), (1, .int 5)] [] y1)))) :=
  (fn_runc_eq 1 (fn_ev 1 (n + 2000) d) (fn_lk fn_d115) [30, 89, 120, 143, 171] (m + 80) 89 [(0, .ref 0), (1, .int 4)] [] x).trans (fc_Model_lead_at89_4 (fn_ev 1 (n + 2000) d) (fn_run 1 (fn_ev 1 (n + 2000) d) (fn_lk fn_d115)) m x)
set_option maxRecDepth 20000 in
theorem fc_Model_lead_at120_5 (cf : Nat → List Value → fn_M → Option fn_R) (K : Nat → fn_K) (m : Nat) (x : fn_M) : fn_runc 1 cf (fn_lk fn_d115) [30, 89, 120, 143, 171] K (m + 63) 120 [(0, .ref 0), (1, .int 5)] [] x =
  (if (x 20 1) = 1 then
    K (m + 52) 143 [(0, .ref 0), (1, .int 1)] [] x
    else
    (if (x 20 2) = 1 then
      K (m + 41) 143 [(0, .ref 0), (1, .int 2)] [] x
      else
      (if (x 20 3) = 1 then
        K (m + 30) 143 [(0, .ref 0), (1, .int 3)] [] x
        else
        (if (x 20 4) = 1 then
          K (m + 19) 143 [(0, .ref 0), (1, .int 4)] [] x
          else
          K (m + 14) 143 [(0, .ref 0), (1, .int 5)] [] x)))) := rfl
theorem ft_Model_lead_at120_5 (n d m : Nat) (x : fn_M) : fn_run 1 (fn_ev 1 (n + 2000) d) (fn_lk fn_d115) (m + 63) 120 [(0, .ref 0), (1, .int 5)] [] x =
  (if (x 20 1) = 1 then
    fn_run 1 (fn_ev 1 (n + 2000) d) (fn_lk fn_d115) (m + 52) 143 [(0, .ref 0), (1, .int 1)] [] x
    else
    (if (x 20 2) = 1 then
      fn_run 1 (fn_ev 1 (n + 2000) d) (fn_lk fn_d115) (m + 41) 143 [(0, .ref 0), (1, .int 2)] [] x
      else
      (if (x 20 3) = 1 then
        fn_run 1 (fn_ev 1 (n + 2000) d) (fn_lk fn_d115) (m + 30) 143 [(0, .ref 0), (1, .int 3)] [] x
        else
        (if (x 20 4) = 1 then
          fn_run 1 (fn_ev 1 (n + 2000) d) (fn_lk fn_d115) (m + 19) 143 [(0, .ref 0), (1, .int 4)] [] x
          else
          fn_run 1 (fn_ev 1 (n + 2000) d) (fn_lk fn_d115) (m + 14) 143 [(0, .ref 0), (1, .int 5)] [] x)))) :=
  (fn_runc_eq 1 (fn_ev 1 (n + 2000) d) (fn_lk fn_d115) [30, 89, 120, 143, 171] (m + 63) 120 [(0, .ref 0), (1, .int 5)] [] x).trans (fc_Model_lead_at120_5 (fn_ev 1 (n + 2000) d) (fn_run 1 (fn_ev 1 (n + 2000) d) (fn_lk fn_d115)) m x)
set_option maxRecDepth 20000 in
theorem fc_Model_lead_at143_1 (cf : Nat → List Value → fn_M → Option fn_R) (K : Nat → fn_K) (m : Nat) (x : fn_M) : fn_runc 1 cf (fn_lk fn_d115) [30, 89, 120, 143, 171] K (m + 19) 143 [(0, .ref 0), (1, .int 1)] [] x =
  (if (x 0 27) = 0 then
    (fn_bv (cf 108 [.ref 0, .int 1, .int 0, .int 0, .int 0, .int 1] (fn_w x 20 1 2)) (fun y1 =>
      K (m + 1) 171 [(0, .ref 0), (1, .int 1)] [] y1))
    else
    K (m + 16) 171 [(0, .ref 0), (1, .int 1)] [] x) := rfl
theorem ft_Model_lead_at143_1 (n d m : Nat) (x : fn_M) : fn_run 1 (fn_ev 1 (n + 2000) d) (fn_lk fn_d115) (m + 19) 143 [(0, .ref 0), (1, .int 1)] [] x =
  (if (x 0 27) = 0 then
    (fn_bv (fn_ev 1 (n + 2000) d 108 [.ref 0, .int 1, .int 0, .int 0, .int 0, .int 1] (fn_w x 20 1 2)) (fun y1 =>
      fn_run 1 (fn_ev 1 (n + 2000) d) (fn_lk fn_d115) (m + 1) 171 [(0, .ref 0), (1, .int 1)] [] y1))
    else
    fn_run 1 (fn_ev 1 (n + 2000) d) (fn_lk fn_d115) (m + 16) 171 [(0, .ref 0), (1, .int 1)] [] x) :=
  (fn_runc_eq 1 (fn_ev 1 (n + 2000) d) (fn_lk fn_d115) [30, 89, 120, 143, 171] (m + 19) 143 [(0, .ref 0), (1, .int 1)] [] x).trans (fc_Model_lead_at143_1 (fn_ev 1 (n + 2000) d) (fn_run 1 (fn_ev 1 (n + 2000) d) (fn_lk fn_d115)) m x)
set_option maxRecDepth 20000 in
theorem fc_Model_lead_at143_2 (cf : Nat → List Value → fn_M → Option fn_R) (K : Nat → fn_K) (m : Nat) (x : fn_M) : fn_runc 1 cf (fn_lk fn_d115) [30, 89, 120, 143, 171] K (m + 19) 143 [(0, .ref 0), (1, .int 2)] [] x =
  (if (x 0 27) = 0 then
    (fn_bv (cf 108 [.ref 0, .int 2, .int 0, .int 0, .int 0, .int 1] (fn_w x 20 2 2)) (fun y1 =>
      K (m + 1) 171 [(0, .ref 0), (1, .int 2)] [] y1))
    else
    K (m + 16) 171 [(0, .ref 0), (1, .int 2)] [] x) := rfl
theorem ft_Model_lead_at143_2 (n d m : Nat) (x : fn_M) : fn_run 1 (fn_ev 1 (n + 2000) d) (fn_lk fn_d115) (m + 19) 143 [(0, .ref 0), (1, .int 2)] [] x =
  (if (x 0 27) = 0 then
    (fn_bv (fn_ev 1 (n + 2000) d 108 [.ref 0, .int 2, .int 0, .int 0, .int 0, .int 1] (fn_w x 20 2 2)) (fun y1 =>
      fn_run 1 (fn_ev 1 (n + 2000) d) (fn_lk fn_d115) (m + 1) 171 [(0, .ref 0), (1, .int 2)] [] y1))
    else
    fn_run 1 (fn_ev 1 (n + 2000) d) (fn_lk fn_d115) (m + 16) 171 [(0, .ref 0), (1, .int 2)] [] x) :=
  (fn_runc_eq 1 (fn_ev 1 (n + 2000) d) (fn_lk fn_d115) [30, 89, 120, 143, 171] (m + 19) 143 [(0, .ref 0), (1, .int 2)] [] x).trans (fc_Model_lead_at143_2 (fn_ev 1 (n + 2000) d) (fn_run 1 (fn_ev 1 (n + 2000) d) (fn_lk fn_d115)) m x)
set_option maxRecDepth 20000 in
theorem fc_Model_lead_at143_3 (cf : Nat → List Value → fn_M → Option fn_R) (K : Nat → fn_K) (m : Nat) (x : fn_M) : fn_runc 1 cf (fn_lk fn_d115) [30, 89, 120, 143, 171] K (m + 19) 143 [(0, .ref 0), (1, .int 3)] [] x =
  (if (x 0 27) = 0 then
    (fn_bv (cf 108 [.ref 0, .int 3, .int 0, .int 0, .int 0, .int 1] (fn_w x 20 3 2)) (fun y1 =>
      K (m + 1) 171 [(0, .ref 0), (1, .int 3)] [] y1))
    else
    K (m + 16) 171 [(0, .ref 0), (1, .int 3)] [] x) := rfl
theorem ft_Model_lead_at143_3 (n d m : Nat) (x : fn_M) : fn_run 1 (fn_ev 1 (n + 2000) d) (fn_lk fn_d115) (m + 19) 143 [(0, .ref 0), (1, .int 3)] [] x =
  (if (x 0 27) = 0 then
    (fn_bv (fn_ev 1 (n + 2000) d 108 [.ref 0, .int 3, .int 0, .int 0, .int 0, .int 1] (fn_w x 20 3 2)) (fun y1 =>
      fn_run 1 (fn_ev 1 (n + 2000) d) (fn_lk fn_d115) (m + 1) 171 [(0, .ref 0), (1, .int 3)] [] y1))
    else
    fn_run 1 (fn_ev 1 (n + 2000) d) (fn_lk fn_d115) (m + 16) 171 [(0, .ref 0), (1, .int 3)] [] x) :=
  (fn_runc_eq 1 (fn_ev 1 (n + 2000) d) (fn_lk fn_d115) [30, 89, 120, 143, 171] (m + 19) 143 [(0, .ref 0), (1, .int 3)] [] x).trans (fc_Model_lead_at143_3 (fn_ev 1 (n + 2000) d) (fn_run 1 (fn_ev 1 (n + 2000) d) (fn_lk fn_d115)) m x)
set_option maxRecDepth 20000 in
theorem fc_Model_lead_at143_4 (cf : Nat → List Value → fn_M → Option fn_R) (K : Nat → fn_K) (m : Nat) (x : fn_M) : fn_runc 1 cf (fn_lk fn_d115) [30, 89, 120, 143, 171] K (m + 19) 143 [(0, .ref 0), (1, .int 4)] [] x =
  (if (x 0 27) = 0 then
    (fn_bv (cf 108 [.ref 0, .int 4, .int 0, .int 0, .int 0, .int 1] (fn_w x 20 4 2)) (fun y1 =>
      K (m + 1) 171 [(0, .ref 0), (1, .int 4)] [] y1))
    else
    K (m + 16) 171 [(0, .ref 0), (1, .int 4)] [] x) := rfl
theorem ft_Model_lead_at143_4 (n d m : Nat) (x : fn_M) : fn_run 1 (fn_ev 1 (n + 2000) d) (fn_lk fn_d115) (m + 19) 143 [(0, .ref 0), (1, .int 4)] [] x =
  (if (x 0 27) = 0 then
    (fn_bv (fn_ev 1 (n + 2000) d 108 [.ref 0, .int 4, .int 0, .int 0, .int 0, .int 1] (fn_w x 20 4 2)) (fun y1 =>
      fn_run 1 (fn_ev 1 (n + 2000) d) (fn_lk fn_d115) (m + 1) 171 [(0, .ref 0), (1, .int 4)] [] y1))
    else
    fn_run 1 (fn_ev 1 (n + 2000) d) (fn_lk fn_d115) (m + 16) 171 [(0, .ref 0), (1, .int 4)] [] x) :=
  (fn_runc_eq 1 (fn_ev 1 (n + 2000) d) (fn_lk fn_d115) [30, 89, 120, 143, 171] (m + 19) 143 [(0, .ref 0), (1, .int 4)] [] x).trans (fc_Model_lead_at143_4 (fn_ev 1 (n + 2000) d) (fn_run 1 (fn_ev 1 (n + 2000) d) (fn_lk fn_d115)) m x)
set_option maxRecDepth 20000 in
theorem fc_Model_lead_at143_5 (cf : Nat → List Value → fn_M → Option fn_R) (K : Nat → fn_K) (m : Nat) (x : fn_M) : fn_runc 1 cf (fn_lk fn_d115) [30, 89, 120, 143, 171] K (m + 7) 143 [(0, .ref 0), (1, .int 5)] [] x =
  (if (x 0 27) = 0 then
    K (m + 1) 171 [(0, .ref 0), (1, .int 5)] [] x
    else
    K (m + 4) 171 [(0, .ref 0), (1, .int 5)] [] x) := rfl
theorem ft_Model_lead_at143_5 (n d m : Nat) (x : fn_M) : fn_run 1 (fn_ev 1 (n + 2000) d) (fn_lk fn_d115) (m + 7) 143 [(0, .ref 0), (1, .int 5)] [] x =
  (if (x 0 27) = 0 then
    fn_run 1 (fn_ev 1 (n + 2000) d) (fn_lk fn_d115) (m + 1) 171 [(0, .ref 0), (1, .int 5)] [] x
    else
    fn_run 1 (fn_ev 1 (n + 2000) d) (fn_lk fn_d115) (m + 4) 171 [(0, .ref 0), (1, .int 5)] [] x) :=
  (fn_runc_eq 1 (fn_ev 1 (n + 2000) d) (fn_lk fn_d115) [30, 89, 120, 143, 171] (m + 7) 143 [(0, .ref 0), (1, .int 5)] [] x).trans (fc_Model_lead_at143_5 (fn_ev 1 (n + 2000) d) (fn_run 1 (fn_ev 1 (n + 2000) d) (fn_lk fn_d115)) m x)
set_option maxRecDepth 20000 in
theorem fc_Model_lead_at171_1 (cf : Nat → List Value → fn_M → Option fn_R) (K : Nat → fn_K) (m : Nat) (x : fn_M) : fn_runc 1 cf (fn_lk fn_d115) [30, 89, 120, 143, 171] K (m + 1) 171 [(0, .ref 0), (1, .int 1)] [] x =
  some (x, none) := rfl
theorem ft_Model_lead_at171_1 (n d m : Nat) (x : fn_M) : fn_run 1 (fn_ev 1 (n + 2000) d) (fn_lk fn_d115) (m + 1) 171 [(0, .ref 0), (1, .int 1)] [] x =
  some (x, none) :=
  (fn_runc_eq 1 (fn_ev 1 (n + 2000) d) (fn_lk fn_d115) [30, 89, 120, 143, 171] (m + 1) 171 [(0, .ref 0), (1, .int 1)] [] x).trans (fc_Model_lead_at171_1 (fn_ev 1 (n + 2000) d) (fn_run 1 (fn_ev 1 (n + 2000) d) (fn_lk fn_d115)) m x)
set_option maxRecDepth 20000 in
theorem fc_Model_lead_at171_2 (cf : Nat → List Value → fn_M → Option fn_R) (K : Nat → fn_K) (m : Nat) (x : fn_M) : fn_runc 1 cf (fn_lk fn_d115) [30, 89, 120, 143, 171] K (m + 1) 171 [(0, .ref 0), (1, .int 2)] [] x =
  some (x, none) := rfl
theorem ft_Model_lead_at171_2 (n d m : Nat) (x : fn_M) : fn_run 1 (fn_ev 1 (n + 2000) d) (fn_lk fn_d115) (m + 1) 171 [(0, .ref 0), (1, .int 2)] [] x =
  some (x, none) :=
  (fn_runc_eq 1 (fn_ev 1 (n + 2000) d) (fn_lk fn_d115) [30, 89, 120, 143, 171] (m + 1) 171 [(0, .ref 0), (1, .int 2)] [] x).trans (fc_Model_lead_at171_2 (fn_ev 1 (n + 2000) d) (fn_run 1 (fn_ev 1 (n + 2000) d) (fn_lk fn_d115)) m x)
set_option maxRecDepth 20000 in
theorem fc_Model_lead_at171_3 (cf : Nat → List Value → fn_M → Option fn_R) (K : Nat → fn_K) (m : Nat) (x : fn_M) : fn_runc 1 cf (fn_lk fn_d115) [30, 89, 120, 143, 171] K (m + 1) 171 [(0, .ref 0), (1, .int 3)] [] x =
  some (x, none) := rfl
theorem ft_Model_lead_at171_3 (n d m : Nat) (x : fn_M) : fn_run 1 (fn_ev 1 (n + 2000) d) (fn_lk fn_d115) (m + 1) 171 [(0, .ref 0), (1, .int 3)] [] x =
  some (x, none) :=
  (fn_runc_eq 1 (fn_ev 1 (n + 2000) d) (fn_lk fn_d115) [30, 89, 120, 143, 171] (m + 1) 171 [(0, .ref 0), (1, .int 3)] [] x).trans (fc_Model_lead_at171_3 (fn_ev 1 (n + 2000) d) (fn_run 1 (fn_ev 1 (n + 2000) d) (fn_lk fn_d115)) m x)
set_option maxRecDepth 20000 in
theorem fc_Model_lead_at171_4 (cf : Nat → List Value → fn_M → Option fn_R) (K : Nat → fn_K) (m : Nat) (x : fn_M) : fn_runc 1 cf (fn_lk fn_d115) [30, 89, 120, 143, 171] K (m + 1) 171 [(0, .ref 0), (1, .int 4)] [] x =
  some (x, none) := rfl
theorem ft_Model_lead_at171_4 (n d m : Nat) (x : fn_M) : fn_run 1 (fn_ev 1 (n + 2000) d) (fn_lk fn_d115) (m + 1) 171 [(0, .ref 0), (1, .int 4)] [] x =
  some (x, none) :=
  (fn_runc_eq 1 (fn_ev 1 (n + 2000) d) (fn_lk fn_d115) [30, 89, 120, 143, 171] (m + 1) 171 [(0, .ref 0), (1, .int 4)] [] x).trans (fc_Model_lead_at171_4 (fn_ev 1 (n + 2000) d) (fn_run 1 (fn_ev 1 (n + 2000) d) (fn_lk fn_d115)) m x)
set_option maxRecDepth 20000 in
theorem fc_Model_lead_at171_5 (cf : Nat → List Value → fn_M → Option fn_R) (K : Nat → fn_K) (m : Nat) (x : fn_M) : fn_runc 1 cf (fn_lk fn_d115) [30, 89, 120, 143, 171] K (m + 1) 171 [(0, .ref 0), (1, .int 5)] [] x =
  some (x, none) := rfl
theorem ft_Model_lead_at171_5 (n d m : Nat) (x : fn_M) : fn_run 1 (fn_ev 1 (n + 2000) d) (fn_lk fn_d115) (m + 1) 171 [(0, .ref 0), (1, .int 5)] [] x =
  some (x, none) :=
  (fn_runc_eq 1 (fn_ev 1 (n + 2000) d) (fn_lk fn_d115) [30, 89, 120, 143, 171] (m + 1) 171 [(0, .ref 0), (1, .int 5)] [] x).trans (fc_Model_lead_at171_5 (fn_ev 1 (n + 2000) d) (fn_run 1 (fn_ev 1 (n + 2000) d) (fn_lk fn_d115)) m x)
set_option maxRecDepth 20000 in
theorem fc_Model_power (cf : Nat → List Value → fn_M → Option fn_R) (K : Nat → fn_K) (m : Nat) (a1 a2 : Int32) (x : fn_M) : fn_runc 1 cf (fn_lk fn_d116) [52] K (m + 24) 0 [(0, .ref 0), (1, .int a1), (2, .int a2)] [] x =
  (fn_bi (cf 84 [.int a1] x) (fun y1 v2 =>
    (if v2 = 0 then
    some (y1, some (.int 0))
    else
    (if a1 < 0 ∨ 5 ≤ a1.toNatClampNeg then
      none
      else
      (if (y1 1 a1.toNatClampNeg) = 0 then
        (if 0 = a2 then
          some (y1, some (.int 0))
          else
          (if a2 = 0 then
            (if a1 < 0 ∨ 5 ≤ a1.toNatClampNeg then
              none
              else
              K (m + 1) 52 [(0, .ref 0), (1, .int a1), (2, .int a2), (3, .int ((y1 0 10) - 1))] [] (fn_w y1 1 a1.toNatClampNeg 0))
            else
            (fn_bv (cf 91 [.ref 0, .int a1] y1) (fun y3 =>
              some (y3, some (.int 1))))))
        else
        (if 1 = a2 then
          some (y1, some (.int 0))
          else
          (if a2 = 0 then
            (if a1 < 0 ∨ 5 ≤ a1.toNatClampNeg then
              none
              else
              K (m + 0) 52 [(0, .ref 0), (1, .int a1), (2, .int a2), (3, .int ((y1 0 10) - 1))] [] (fn_w y1 1 a1.toNatClampNeg 0))
            else
            (fn_bv (cf 91 [.ref 0, .int a1] y1) (fun y4 =>
              some (y4, some (.int 1))))))))))) := rfl
theorem ft_Model_power (n d : Nat) (a1 a2 : Int32) (x : fn_M) : fn_ev 1 (n + 2000) (d + 1) 116 [.ref 0, .int a1, .int a2] x =
  (fn_bi (fn_ev 1 (n + 2000) d 84 [.int a1] x) (fun y1 v2 =>
    (if v2 = 0 then
    some (y1, some (.int 0))
    else
    (if a1 < 0 ∨ 5 ≤ a1.toNatClampNeg then
      none
      else
      (if (y1 1 a1.toNatClampNeg) = 0 then
        (if 0 = a2 then
          some (y1, some (.int 0))
          else
          (if a2 = 0 then
            (if a1 < 0 ∨ 5 ≤ a1.toNatClampNeg then
              none
              else
              fn_run 1 (fn_ev 1 (n + 2000) d) (fn_lk fn_d116) (n + 1977) 52 [(0, .ref 0), (1, .int a1), (2, .int a2), (3, .int ((y1 0 10) - 1))] [] (fn_w y1 1 a1.toNatClampNeg 0))
            else
            (fn_bv (fn_ev 1 (n + 2000) d 91 [.ref 0, .int a1] y1) (fun y3 =>
              some (y3, some (.int 1))))))
        else
        (if 1 = a2 then
          some (y1, some (.int 0))
          else
          (if a2 = 0 then
            (if a1 < 0 ∨ 5 ≤ a1.toNatClampNeg then
              none
              else
              fn_run 1 (fn_ev 1 (n + 2000) d) (fn_lk fn_d116) (n + 1976) 52 [(0, .ref 0), (1, .int a1), (2, .int a2), (3, .int ((y1 0 10) - 1))] [] (fn_w y1 1 a1.toNatClampNeg 0))
            else
            (fn_bv (fn_ev 1 (n + 2000) d 91 [.ref 0, .int a1] y1) (fun y4 =>
              some (y4, some (.int 1))))))))))) :=
  fn_ev_t (dd := fn_d116) (lo := [(0, .ref 0), (1, .int a1), (2, .int a2)]) (sp := [52]) rfl rfl rfl (fc_Model_power (fn_ev 1 (n + 2000) d) (fn_run 1 (fn_ev 1 (n + 2000) d) (fn_lk fn_d116)) (n + 1976) a1 a2 x)
set_option maxRecDepth 20000 in
theorem fc_Model_power_at52 (cf : Nat → List Value → fn_M → Option fn_R) (K : Nat → fn_K) (m : Nat) (l1 l2 l3 : Int32) (x : fn_M) : fn_runc 1 cf (fn_lk fn_d116) [52] K (m + 13) 52 [(0, .ref 0), (1, .int l1), (2, .int l2), (3, .int l3)] [] x =
  (if l3 < 0 then
    some (x, some (.int 1))
    else
    (if l3 < 0 ∨ 24 ≤ l3.toNatClampNeg then
      none
      else
      (if (x 14 l3.toNatClampNeg) = l1 then
        (fn_bv (cf 88 [.ref 0, .int l3] x) (fun y1 =>
          K (m + 0) 52 [(0, .ref 0), (1, .int l1), (2, .int l2), (3, .int (l3 + (-1)))] [] y1))
        else
        K (m + 3) 52 [(0, .ref 0), (1, .int l1), (2, .int l2), (3, .int (l3 + (-1)))] [] x))) := rfl
theorem ft_Model_power_at52 (n d m : Nat) (l1 l2 l3 : Int32) (x : fn_M) : fn_run 1 (fn_ev 1 (n + 2000) d) (fn_lk fn_d116) (m + 13) 52 [(0, .ref 0), (1, .int l1), (2, .int l2), (3, .int l3)] [] x =
  (if l3 < 0 then
    some (x, some (.int 1))
    else
    (if l3 < 0 ∨ 24 ≤ l3.toNatClampNeg then
      none
      else
      (if (x 14 l3.toNatClampNeg) = l1 then
        (fn_bv (fn_ev 1 (n + 2000) d 88 [.ref 0, .int l3] x) (fun y1 =>
          fn_run 1 (fn_ev 1 (n + 2000) d) (fn_lk fn_d116) (m + 0) 52 [(0, .ref 0), (1, .int l1), (2, .int l2), (3, .int (l3 + (-1)))] [] y1))
        else
        fn_run 1 (fn_ev 1 (n + 2000) d) (fn_lk fn_d116) (m + 3) 52 [(0, .ref 0), (1, .int l1), (2, .int l2), (3, .int (l3 + (-1)))] [] x))) :=
  (fn_runc_eq 1 (fn_ev 1 (n + 2000) d) (fn_lk fn_d116) [52] (m + 13) 52 [(0, .ref 0), (1, .int l1), (2, .int l2), (3, .int l3)] [] x).trans (fc_Model_power_at52 (fn_ev 1 (n + 2000) d) (fn_run 1 (fn_ev 1 (n + 2000) d) (fn_lk fn_d116)) m l1 l2 l3 x)
set_option maxRecDepth 20000 in
theorem fc_Model_identify (cf : Nat → List Value → fn_M → Option fn_R) (K : Nat → fn_K) (m : Nat) (a1 a2 : Int32) (x : fn_M) : fn_runc 1 cf (fn_lk fn_d117) [] K (m + 22) 0 [(0, .ref 0), (1, .int a1), (2, .int a2)] [] x =
  (fn_bi (cf 84 [.int a1] x) (fun y1 v2 =>
    (if v2 = 0 then
    some (y1, some (.int 0))
    else
    (if a1 < 0 ∨ 5 ≤ a1.toNatClampNeg then
      none
      else
      (if (y1 1 a1.toNatClampNeg) = 0 then
        (fn_bi (cf 85 [.int a2, .int 0, .int 9999] y1) (fun y3 v4 =>
          (if v4 = 0 then
          some (y3, some (.int 0))
          else
          (if (16 * a1) < 0 ∨ 80 ≤ (16 * a1).toNatClampNeg then
            none
            else
            some ((fn_w y3 2 (16 * a1).toNatClampNeg a2), some (.int 1))))))
        else
        some (y1, some (.int 0))))))) := rfl
theorem ft_Model_identify (n d : Nat) (a1 a2 : Int32) (x : fn_M) : fn_ev 1 (n + 2000) (d + 1) 117 [.ref 0, .int a1, .int a2] x =
  (fn_bi (fn_ev 1 (n + 2000) d 84 [.int a1] x) (fun y1 v2 =>
    (if v2 = 0 then
    some (y1, some (.int 0))
    else
    (if a1 < 0 ∨ 5 ≤ a1.toNatClampNeg then
      none
      else
      (if (y1 1 a1.toNatClampNeg) = 0 then
        (fn_bi (fn_ev 1 (n + 2000) d 85 [.int a2, .int 0, .int 9999] y1) (fun y3 v4 =>
          (if v4 = 0 then
          some (y3, some (.int 0))
          else
          (if (16 * a1) < 0 ∨ 80 ≤ (16 * a1).toNatClampNeg then
            none
            else
            some ((fn_w y3 2 (16 * a1).toNatClampNeg a2), some (.int 1))))))
        else
        some (y1, some (.int 0))))))) :=
  fn_ev_t (dd := fn_d117) (lo := [(0, .ref 0), (1, .int a1), (2, .int a2)]) (sp := []) rfl rfl rfl (fc_Model_identify (fn_ev 1 (n + 2000) d) (fn_run 1 (fn_ev 1 (n + 2000) d) (fn_lk fn_d117)) (n + 1978) a1 a2 x)
set_option maxRecDepth 20000 in
theorem fc_Model_input (cf : Nat → List Value → fn_M → Option fn_R) (K : Nat → fn_K) (m : Nat) (a1 a2 a3 : Int32) (x : fn_M) : fn_runc 1 cf (fn_lk fn_d118) [] K (m + 76) 0 [(0, .ref 0), (1, .int a1), (2, .int a2), (3, .int a3)] [] x =
  (fn_bi (cf 84 [.int a1] x) (fun y1 v2 =>
    (if v2 = 0 then
    some (y1, some (.int 0))
    else
    (if a1 < 0 ∨ 5 ≤ a1.toNatClampNeg then
      none
      else
      (if (y1 1 a1.toNatClampNeg) = 0 then
        some (y1, some (.int 0))
        else
        (fn_bi (cf 85 [.int a2, .int 8, .int 11] y1) (fun y3 v4 =>
          (if v4 = 0 then
          some (y3, some (.int 0))
          else
          (fn_bi (cf 86 [.ref 0, .int a1, .int a2] y3) (fun y5 v6 =>
            (if v6 = a3 then
            (if ((16 * a1) + a2) < 0 ∨ 80 ≤ ((16 * a1) + a2).toNatClampNeg then
              none
              else
              (fn_bi (cf 86 [.ref 0, .int a1, .int 6] (fn_w y5 2 ((16 * a1) + a2).toNatClampNeg a3)) (fun y7 v8 =>
                (if (v8 / 100) = a2 then
                some (y7, some (.int 1))
                else
                (fn_bi (cf 86 [.ref 0, .int a1, .int 6] y7) (fun y9 v10 =>
                  (if (v10 - v10 / 100 * 100) = a2 then
                  some (y9, some (.int 1))
                  else
                  some (y9, some (.int 1)))))))))
            else
            (if ((16 * a1) + a2) < 0 ∨ 80 ≤ ((16 * a1) + a2).toNatClampNeg then
              none
              else
              (fn_bi (cf 86 [.ref 0, .int a1, .int 6] (fn_w y5 2 ((16 * a1) + a2).toNatClampNeg a3)) (fun y11 v12 =>
                (if (v12 / 100) = a2 then
                (if a1 < 0 ∨ 5 ≤ a1.toNatClampNeg then
                  none
                  else
                  (if (y11 1 a1.toNatClampNeg) = 5 then
                    (fn_bi (cf 86 [.ref 0, .int a1, .int 4] y11) (fun y13 v14 =>
                      (if v14 = 0 then
                      (fn_bi (cf 96 [.ref 0, .int a1] y13) (fun y15 v16 =>
                        (if v16 = 0 then
                        (if a1 < 0 ∨ 5 ≤ a1.toNatClampNeg then
                          none
                          else
                          some ((fn_w y15 4 a1.toNatClampNeg 1), some (.int 1)))
                        else
                        (fn_bv (cf 95 [.ref 0, .int a1] y15) (fun y17 =>
                          some (y17, some (.int 1)))))))
                      else
                      some (y13, some (.int 1)))))
                    else
                    some (y11, some (.int 1))))
                else
                (fn_bi (cf 86 [.ref 0, .int a1, .int 6] y11) (fun y18 v19 =>
                  (if (v19 - v19 / 100 * 100) = a2 then
                  (if a1 < 0 ∨ 5 ≤ a1.toNatClampNeg then
                    none
                    else
                    (if (y18 1 a1.toNatClampNeg) = 5 then
                      (fn_bi (cf 86 [.ref 0, .int a1, .int 4] y18) (fun y20 v21 =>
                        (if v21 = 0 then
                        (fn_bi (cf 96 [.ref 0, .int a1] y20) (fun y22 v23 =>
                          (if v23 = 0 then
                          (if a1 < 0 ∨ 5 ≤ a1.toNatClampNeg then
                            none
                            else
                            some ((fn_w y22 4 a1.toNatClampNeg 1), some (.int 1)))
                          else
                          (fn_bv (cf 95 [.ref 0, .int a1] y22) (fun y24 =>
                            some (y24, some (.int 1)))))))
                        else
                        some (y20, some (.int 1)))))
                      else
                      some (y18, some (.int 1))))
                  else
                  some (y18, some (.int 1)))))))))))))))))))) := rfl
theorem ft_Model_input (n d : Nat) (a1 a2 a3 : Int32) (x : fn_M) : fn_ev 1 (n + 2000) (d + 1) 118 [.ref 0, .int a1, .int a2, .int a3] x =
  (fn_bi (fn_ev 1 (n + 2000) d 84 [.int a1] x) (fun y1 v2 =>
    (if v2 = 0 then
    some (y1, some (.int 0))
    else
    (if a1 < 0 ∨ 5 ≤ a1.toNatClampNeg then
      none
      else
      (if (y1 1 a1.toNatClampNeg) = 0 then
        some (y1, some (.int 0))
        else
        (fn_bi (fn_ev 1 (n + 2000) d 85 [.int a2, .int 8, .int 11] y1) (fun y3 v4 =>
          (if v4 = 0 then
          some (y3, some (.int 0))
          else
          (fn_bi (fn_ev 1 (n + 2000) d 86 [.ref 0, .int a1, .int a2] y3) (fun y5 v6 =>
            (if v6 = a3 then
            (if ((16 * a1) + a2) < 0 ∨ 80 ≤ ((16 * a1) + a2).toNatClampNeg then
              none
              else
              (fn_bi (fn_ev 1 (n + 2000) d 86 [.ref 0, .int a1, .int 6] (fn_w y5 2 ((16 * a1) + a2).toNatClampNeg a3)) (fun y7 v8 =>
                (if (v8 / 100) = a2 then
                some (y7, some (.int 1))
                else
                (fn_bi (fn_ev 1 (n + 2000) d 86 [.ref 0, .int a1, .int 6] y7) (fun y9 v10 =>
                  (if (v10 - v10 / 100 * 100) = a2 then
                  some (y9, some (.int 1))
                  else
                  some (y9, some (.int 1)))))))))
            else
            (if ((16 * a1) + a2) < 0 ∨ 80 ≤ ((16 * a1) + a2).toNatClampNeg then
              none
              else
              (fn_bi (fn_ev 1 (n + 2000) d 86 [.ref 0, .int a1, .int 6] (fn_w y5 2 ((16 * a1) + a2).toNatClampNeg a3)) (fun y11 v12 =>
                (if (v12 / 100) = a2 then
                (if a1 < 0 ∨ 5 ≤ a1.toNatClampNeg then
                  none
                  else
                  (if (y11 1 a1.toNatClampNeg) = 5 then
                    (fn_bi (fn_ev 1 (n + 2000) d 86 [.ref 0, .int a1, .int 4] y11) (fun y13 v14 =>
                      (if v14 = 0 then
                      (fn_bi (fn_ev 1 (n + 2000) d 96 [.ref 0, .int a1] y13) (fun y15 v16 =>
                        (if v16 = 0 then
                        (if a1 < 0 ∨ 5 ≤ a1.toNatClampNeg then
                          none
                          else
                          some ((fn_w y15 4 a1.toNatClampNeg 1), some (.int 1)))
                        else
                        (fn_bv (fn_ev 1 (n + 2000) d 95 [.ref 0, .int a1] y15) (fun y17 =>
                          some (y17, some (.int 1)))))))
                      else
                      some (y13, some (.int 1)))))
                    else
                    some (y11, some (.int 1))))
                else
                (fn_bi (fn_ev 1 (n + 2000) d 86 [.ref 0, .int a1, .int 6] y11) (fun y18 v19 =>
                  (if (v19 - v19 / 100 * 100) = a2 then
                  (if a1 < 0 ∨ 5 ≤ a1.toNatClampNeg then
                    none
                    else
                    (if (y18 1 a1.toNatClampNeg) = 5 then
                      (fn_bi (fn_ev 1 (n + 2000) d 86 [.ref 0, .int a1, .int 4] y18) (fun y20 v21 =>
                        (if v21 = 0 then
                        (fn_bi (fn_ev 1 (n + 2000) d 96 [.ref 0, .int a1] y20) (fun y22 v23 =>
                          (if v23 = 0 then
                          (if a1 < 0 ∨ 5 ≤ a1.toNatClampNeg then
                            none
                            else
                            some ((fn_w y22 4 a1.toNatClampNeg 1), some (.int 1)))
                          else
                          (fn_bv (fn_ev 1 (n + 2000) d 95 [.ref 0, .int a1] y22) (fun y24 =>
                            some (y24, some (.int 1)))))))
                        else
                        some (y20, some (.int 1)))))
                      else
                      some (y18, some (.int 1))))
                  else
                  some (y18, some (.int 1)))))))))))))))))))) :=
  fn_ev_t (dd := fn_d118) (lo := [(0, .ref 0), (1, .int a1), (2, .int a2), (3, .int a3)]) (sp := []) rfl rfl rfl (fc_Model_input (fn_ev 1 (n + 2000) d) (fn_run 1 (fn_ev 1 (n + 2000) d) (fn_lk fn_d118)) (n + 1924) a1 a2 a3 x)
set_option maxRecDepth 20000 in
theorem fc_Model_fail (cf : Nat → List Value → fn_M → Option fn_R) (K : Nat → fn_K) (m : Nat) (a1 a2 : Int32) (x : fn_M) : fn_runc 1 cf (fn_lk fn_d119) [] K (m + 40) 0 [(0, .ref 0), (1, .int a1), (2, .int a2)] [] x =
  (fn_bi (cf 84 [.int a1] x) (fun y1 v2 =>
    (if v2 = 0 then
    some (y1, some (.int 0))
    else
    (if a1 < 0 ∨ 5 ≤ a1.toNatClampNeg then
      none
      else
      (if (y1 1 a1.toNatClampNeg) = 0 then
        some (y1, some (.int 0))
        else
        (fn_bi (cf 85 [.int a2, .int 0, .int 31] y1) (fun y3 v4 =>
          (if v4 = 0 then
          some (y3, some (.int 0))
          else
          (if a2 = 0 then
            (if ((16 * a1) + 1) < 0 ∨ 80 ≤ ((16 * a1) + 1).toNatClampNeg then
              none
              else
              (fn_bv (cf 87 [.ref 0, .int a1, .int (128 + a1), .int a2, .int 0, .int 0] (fn_w y3 2 ((16 * a1) + 1).toNatClampNeg 0)) (fun y8 =>
                some (y8, some (.int 1)))))
            else
            (fn_bi (cf 86 [.ref 0, .int a1, .int 1] y3) (fun y5 v6 =>
              (if ((16 * a1) + 1) < 0 ∨ 80 ≤ ((16 * a1) + 1).toNatClampNeg then
              none
              else
              (fn_bv (cf 87 [.ref 0, .int a1, .int (128 + a1), .int a2, .int 0, .int 0] (fn_w y5 2 ((16 * a1) + 1).toNatClampNeg (v6 ||| 2))) (fun y7 =>
                some (y7, some (.int 1)))))))))))))))) := rfl
theorem ft_Model_fail (n d : Nat) (a1 a2 : Int32) (x : fn_M) : fn_ev 1 (n + 2000) (d + 1) 119 [.ref 0, .int a1, .int a2] x =
  (fn_bi (fn_ev 1 (n + 2000) d 84 [.int a1] x) (fun y1 v2 =>
    (if v2 = 0 then
    some (y1, some (.int 0))
    else
    (if a1 < 0 ∨ 5 ≤ a1.toNatClampNeg then
      none
      else
      (if (y1 1 a1.toNatClampNeg) = 0 then
        some (y1, some (.int 0))
        else
        (fn_bi (fn_ev 1 (n + 2000) d 85 [.int a2, .int 0, .int 31] y1) (fun y3 v4 =>
          (if v4 = 0 then
          some (y3, some (.int 0))
          else
          (if a2 = 0 then
            (if ((16 * a1) + 1) < 0 ∨ 80 ≤ ((16 * a1) + 1).toNatClampNeg then
              none
              else
              (fn_bv (fn_ev 1 (n + 2000) d 87 [.ref 0, .int a1, .int (128 + a1), .int a2, .int 0, .int 0] (fn_w y3 2 ((16 * a1) + 1).toNatClampNeg 0)) (fun y8 =>
                some (y8, some (.int 1)))))
            else
            (fn_bi (fn_ev 1 (n + 2000) d 86 [.ref 0, .int a1, .int 1] y3) (fun y5 v6 =>
              (if ((16 * a1) + 1) < 0 ∨ 80 ≤ ((16 * a1) + 1).toNatClampNeg then
              none
              else
              (fn_bv (fn_ev 1 (n + 2000) d 87 [.ref 0, .int a1, .int (128 + a1), .int a2, .int 0, .int 0] (fn_w y5 2 ((16 * a1) + 1).toNatClampNeg (v6 ||| 2))) (fun y7 =>
                some (y7, some (.int 1)))))))))))))))) :=
  fn_ev_t (dd := fn_d119) (lo := [(0, .ref 0), (1, .int a1), (2, .int a2)]) (sp := []) rfl rfl rfl (fc_Model_fail (fn_ev 1 (n + 2000) d) (fn_run 1 (fn_ev 1 (n + 2000) d) (fn_lk fn_d119)) (n + 1960) a1 a2 x)
set_option maxRecDepth 20000 in
theorem fc_Model_expect (cf : Nat → List Value → fn_M → Option fn_R) (K : Nat → fn_K) (m : Nat) (a1 a2 a3 : Int32) (x : fn_M) : fn_runc 1 cf (fn_lk fn_d120) [] K (m + 30) 0 [(0, .ref 0), (1, .int a1), (2, .int a2), (3, .int a3)] [] x =
  (fn_bi (cf 84 [.int a1] x) (fun y1 v2 =>
    (if v2 = 0 then
    some (y1, some (.int 0))
    else
    (fn_bi (cf 85 [.int a2, .int (-1), .int 9999] y1) (fun y3 v4 =>
      (if v4 = 0 then
      some (y3, some (.int 0))
      else
      (fn_bi (cf 85 [.int a3, .int 0, .int 50] y3) (fun y5 v6 =>
        (if v6 = 0 then
        some (y5, some (.int 0))
        else
        (if a1 < 0 ∨ 5 ≤ a1.toNatClampNeg then
          none
          else
          (if a1 < 0 ∨ 5 ≤ a1.toNatClampNeg then
            none
            else
            (if a1 < 0 ∨ 5 ≤ a1.toNatClampNeg then
              none
              else
              some ((fn_w (fn_w (fn_w y5 15 a1.toNatClampNeg a2) 16 a1.toNatClampNeg a3) 17 a1.toNatClampNeg 0), some (.int 1)))))))))))))) := rfl
theorem ft_Model_expect (n d : Nat) (a1 a2 a3 : Int32) (x : fn_M) : fn_ev 1 (n + 2000) (d + 1) 120 [.ref 0, .int a1, .int a2, .int a3] x =
  (fn_bi (fn_ev 1 (n + 2000) d 84 [.int a1] x) (fun y1 v2 =>
    (if v2 = 0 then
    some (y1, some (.int 0))
    else
    (fn_bi (fn_ev 1 (n + 2000) d 85 [.int a2, .int (-1), .int 9999] y1) (fun y3 v4 =>
      (if v4 = 0 then
      some (y3, some (.int 0))
      else
      (fn_bi (fn_ev 1 (n + 2000) d 85 [.int a3, .int 0, .int 50] y3) (fun y5 v6 =>
        (if v6 = 0 then
        some (y5, some (.int 0))
        else
        (if a1 < 0 ∨ 5 ≤ a1.toNatClampNeg then
          none
          else
          (if a1 < 0 ∨ 5 ≤ a1.toNatClampNeg then
            none
            else
            (if a1 < 0 ∨ 5 ≤ a1.toNatClampNeg then
              none
              else
              some ((fn_w (fn_w (fn_w y5 15 a1.toNatClampNeg a2) 16 a1.toNatClampNeg a3) 17 a1.toNatClampNeg 0), some (.int 1)))))))))))))) :=
  fn_ev_t (dd := fn_d120) (lo := [(0, .ref 0), (1, .int a1), (2, .int a2), (3, .int a3)]) (sp := []) rfl rfl rfl (fc_Model_expect (fn_ev 1 (n + 2000) d) (fn_run 1 (fn_ev 1 (n + 2000) d) (fn_lk fn_d120)) (n + 1970) a1 a2 a3 x)
set_option maxRecDepth 20000 in
theorem fc_Model_configure (cf : Nat → List Value → fn_M → Option fn_R) (K : Nat → fn_K) (m : Nat) (a1 a2 a3 : Int32) (x : fn_M) : fn_runc 1 cf (fn_lk fn_d121) [] K (m + 53) 0 [(0, .ref 0), (1, .int a1), (2, .int a2), (3, .int a3)] [] x =
  (fn_bi (cf 84 [.int a1] x) (fun y1 v2 =>
    (if v2 = 0 then
    some (y1, some (.int 0))
    else
    (if a1 < 0 ∨ 5 ≤ a1.toNatClampNeg then
      none
      else
      (if (y1 15 a1.toNatClampNeg) < 0 then
        some (y1, some (.int 0))
        else
        (fn_bi (cf 85 [.int a2, .int 0, .int 16] y1) (fun y3 v4 =>
          (if v4 = 0 then
          some (y3, some (.int 0))
          else
          (if a1 < 0 ∨ 5 ≤ a1.toNatClampNeg then
            none
            else
            (if (y3 17 a1.toNatClampNeg) = 3 then
              some (y3, some (.int 0))
              else
              (if a1 < 0 ∨ 5 ≤ a1.toNatClampNeg then
                none
                else
                (if ((3 * a1) + (y3 17 a1.toNatClampNeg)) < 0 ∨ 15 ≤ ((3 * a1) + (y3 17 a1.toNatClampNeg)).toNatClampNeg then
                  none
                  else
                  (if a1 < 0 ∨ 5 ≤ a1.toNatClampNeg then
                    none
                    else
                    (if ((3 * a1) + (y3 17 a1.toNatClampNeg)) < 0 ∨ 15 ≤ ((3 * a1) + (y3 17 a1.toNatClampNeg)).toNatClampNeg then
                      none
                      else
                      (if a1 < 0 ∨ 5 ≤ a1.toNatClampNeg then
                        none
                        else
                        (if a1 < 0 ∨ 5 ≤ a1.toNatClampNeg then
                          none
                          else
                          some ((fn_w (fn_w (fn_w y3 18 ((3 * a1) + (y3 17 a1.toNatClampNeg)).toNatClampNeg a2) 19 ((3 * a1) + (y3 17 a1.toNatClampNeg)).toNatClampNeg a3) 17 a1.toNatClampNeg ((y3 17 a1.toNatClampNeg) + 1)), some (.int 1)))))))))))))))))) := rfl
theorem ft_Model_configure (n d : Nat) (a1 a2 a3 : Int32) (x : fn_M) : fn_ev 1 (n + 2000) (d + 1) 121 [.ref 0, .int a1, .int a2, .int a3] x =
  (fn_bi (fn_ev 1 (n + 2000) d 84 [.int a1] x) (fun y1 v2 =>
    (if v2 = 0 then
    some (y1, some (.int 0))
    else
    (if a1 < 0 ∨ 5 ≤ a1.toNatClampNeg then
      none
      else
      (if (y1 15 a1.toNatClampNeg) < 0 then
        some (y1, some (.int 0))
        else
        (fn_bi (fn_ev 1 (n + 2000) d 85 [.int a2, .int 0, .int 16] y1) (fun y3 v4 =>
          (if v4 = 0 then
          some (y3, some (.int 0))
          else
          (if a1 < 0 ∨ 5 ≤ a1.toNatClampNeg then
            none
            else
            (if (y3 17 a1.toNatClampNeg) = 3 then
              some (y3, some (.int 0))
              else
              (if a1 < 0 ∨ 5 ≤ a1.toNatClampNeg then
                none
                else
                (if ((3 * a1) + (y3 17 a1.toNatClampNeg)) < 0 ∨ 15 ≤ ((3 * a1) + (y3 17 a1.toNatClampNeg)).toNatClampNeg then
                  none
                  else
                  (if a1 < 0 ∨ 5 ≤ a1.toNatClampNeg then
                    none
                    else
                    (if ((3 * a1) + (y3 17 a1.toNatClampNeg)) < 0 ∨ 15 ≤ ((3 * a1) + (y3 17 a1.toNatClampNeg)).toNatClampNeg then
                      none
                      else
                      (if a1 < 0 ∨ 5 ≤ a1.toNatClampNeg then
                        none
                        else
                        (if a1 < 0 ∨ 5 ≤ a1.toNatClampNeg then
                          none
                          else
                          some ((fn_w (fn_w (fn_w y3 18 ((3 * a1) + (y3 17 a1.toNatClampNeg)).toNatClampNeg a2) 19 ((3 * a1) + (y3 17 a1.toNatClampNeg)).toNatClampNeg a3) 17 a1.toNatClampNeg ((y3 17 a1.toNatClampNeg) + 1)), some (.int 1)))))))))))))))))) :=
  fn_ev_t (dd := fn_d121) (lo := [(0, .ref 0), (1, .int a1), (2, .int a2), (3, .int a3)]) (sp := []) rfl rfl rfl (fc_Model_configure (fn_ev 1 (n + 2000) d) (fn_run 1 (fn_ev 1 (n + 2000) d) (fn_lk fn_d121)) (n + 1947) a1 a2 a3 x)
set_option maxRecDepth 20000 in
theorem fc_Model_transfer (cf : Nat → List Value → fn_M → Option fn_R) (K : Nat → fn_K) (m : Nat) (a1 a2 a3 a4 : Int32) (x : fn_M) : fn_runc 1 cf (fn_lk fn_d122) [] K (m + 23) 0 [(0, .ref 0), (1, .int a1), (2, .int a2), (3, .int a3), (4, .int a4)] [] x =
  (fn_bi (cf 84 [.int a1] x) (fun y1 v2 =>
    (if v2 = 0 then
    some (y1, some (.int 0))
    else
    (fn_bi (cf 85 [.int a2, .int 0, .int 31] y1) (fun y3 v4 =>
      (if v4 = 0 then
      some (y3, some (.int 0))
      else
      (if (y3 0 27) ≤ 0 then
        (if a3 = 0 then
          (fn_bv (cf 108 [.ref 0, .int a1, .int a2, .int a3, .int 0, .int 0] y3) (fun y5 =>
            some (y5, some (.int 1))))
          else
          (fn_bv (cf 108 [.ref 0, .int a1, .int a2, .int a3, .int a4, .int 0] y3) (fun y6 =>
            some (y6, some (.int 1)))))
        else
        some (y3, some (.int 0))))))))) := rfl
theorem ft_Model_transfer (n d : Nat) (a1 a2 a3 a4 : Int32) (x : fn_M) : fn_ev 1 (n + 2000) (d + 1) 122 [.ref 0, .int a1, .int a2, .int a3, .int a4] x =
  (fn_bi (fn_ev 1 (n + 2000) d 84 [.int a1] x) (fun y1 v2 =>
    (if v2 = 0 then
    some (y1, some (.int 0))
    else
    (fn_bi (fn_ev 1 (n + 2000) d 85 [.int a2, .int 0, .int 31] y1) (fun y3 v4 =>
      (if v4 = 0 then
      some (y3, some (.int 0))
      else
      (if (y3 0 27) ≤ 0 then
        (if a3 = 0 then
          (fn_bv (fn_ev 1 (n + 2000) d 108 [.ref 0, .int a1, .int a2, .int a3, .int 0, .int 0] y3) (fun y5 =>
            some (y5, some (.int 1))))
          else
          (fn_bv (fn_ev 1 (n + 2000) d 108 [.ref 0, .int a1, .int a2, .int a3, .int a4, .int 0] y3) (fun y6 =>
            some (y6, some (.int 1)))))
        else
        some (y3, some (.int 0))))))))) :=
  fn_ev_t (dd := fn_d122) (lo := [(0, .ref 0), (1, .int a1), (2, .int a2), (3, .int a3), (4, .int a4)]) (sp := []) rfl rfl rfl (fc_Model_transfer (fn_ev 1 (n + 2000) d) (fn_run 1 (fn_ev 1 (n + 2000) d) (fn_lk fn_d122)) (n + 1977) a1 a2 a3 a4 x)
set_option maxRecDepth 20000 in
theorem fc_Model_sync (cf : Nat → List Value → fn_M → Option fn_R) (K : Nat → fn_K) (m : Nat) (a1 : Int32) (x : fn_M) : fn_runc 1 cf (fn_lk fn_d123) [] K (m + 10) 0 [(0, .ref 0), (1, .int a1)] [] x =
  (fn_bi (cf 85 [.int a1, .int 0, .int 20] x) (fun y1 v2 =>
    (if v2 = 0 then
    some (y1, some (.int 0))
    else
    some ((fn_w y1 0 19 a1), some (.int 1))))) := rfl
theorem ft_Model_sync (n d : Nat) (a1 : Int32) (x : fn_M) : fn_ev 1 (n + 2000) (d + 1) 123 [.ref 0, .int a1] x =
  (fn_bi (fn_ev 1 (n + 2000) d 85 [.int a1, .int 0, .int 20] x) (fun y1 v2 =>
    (if v2 = 0 then
    some (y1, some (.int 0))
    else
    some ((fn_w y1 0 19 a1), some (.int 1))))) :=
  fn_ev_t (dd := fn_d123) (lo := [(0, .ref 0), (1, .int a1)]) (sp := []) rfl rfl rfl (fc_Model_sync (fn_ev 1 (n + 2000) d) (fn_run 1 (fn_ev 1 (n + 2000) d) (fn_lk fn_d123)) (n + 1990) a1 x)
set_option maxRecDepth 20000 in
theorem fc_Model_inject (cf : Nat → List Value → fn_M → Option fn_R) (K : Nat → fn_K) (m : Nat) (a1 a2 a3 a4 : Int32) (x : fn_M) : fn_runc 1 cf (fn_lk fn_d124) [] K (m + 18) 0 [(0, .ref 0), (1, .int a1), (2, .int a2), (3, .int a3), (4, .int a4)] [] x =
  (fn_bi (cf 85 [.int a1, .int 0, .int 2047] x) (fun y1 v2 =>
    (if v2 = 0 then
    some (y1, some (.int 0))
    else
    (if (y1 0 10) = 24 then
      some (y1, some (.int 0))
      else
      (fn_bv (cf 87 [.ref 0, .int 5, .int a1, .int a2, .int a3, .int a4] y1) (fun y3 =>
        some (y3, some (.int 1)))))))) := rfl
theorem ft_Model_inject (n d : Nat) (a1 a2 a3 a4 : Int32) (x : fn_M) : fn_ev 1 (n + 2000) (d + 1) 124 [.ref 0, .int a1, .int a2, .int a3, .int a4] x =
  (fn_bi (fn_ev 1 (n + 2000) d 85 [.int a1, .int 0, .int 2047] x) (fun y1 v2 =>
    (if v2 = 0 then
    some (y1, some (.int 0))
    else
    (if (y1 0 10) = 24 then
      some (y1, some (.int 0))
      else
      (fn_bv (fn_ev 1 (n + 2000) d 87 [.ref 0, .int 5, .int a1, .int a2, .int a3, .int a4] y1) (fun y3 =>
        some (y3, some (.int 1)))))))) :=
  fn_ev_t (dd := fn_d124) (lo := [(0, .ref 0), (1, .int a1), (2, .int a2), (3, .int a3), (4, .int a4)]) (sp := []) rfl rfl rfl (fc_Model_inject (fn_ev 1 (n + 2000) d) (fn_run 1 (fn_ev 1 (n + 2000) d) (fn_lk fn_d124)) (n + 1982) a1 a2 a3 a4 x)
set_option maxRecDepth 20000 in
theorem fc_Model_disturb (cf : Nat → List Value → fn_M → Option fn_R) (K : Nat → fn_K) (m : Nat) (a1 : Int32) (x : fn_M) : fn_runc 1 cf (fn_lk fn_d125) [] K (m + 10) 0 [(0, .ref 0), (1, .int a1)] [] x =
  (fn_bi (cf 85 [.int a1, .int 0, .int 9] x) (fun y1 v2 =>
    (if v2 = 0 then
    some (y1, some (.int 0))
    else
    some ((fn_w y1 0 18 a1), some (.int 1))))) := rfl
theorem ft_Model_disturb (n d : Nat) (a1 : Int32) (x : fn_M) : fn_ev 1 (n + 2000) (d + 1) 125 [.ref 0, .int a1] x =
  (fn_bi (fn_ev 1 (n + 2000) d 85 [.int a1, .int 0, .int 9] x) (fun y1 v2 =>
    (if v2 = 0 then
    some (y1, some (.int 0))
    else
    some ((fn_w y1 0 18 a1), some (.int 1))))) :=
  fn_ev_t (dd := fn_d125) (lo := [(0, .ref 0), (1, .int a1)]) (sp := []) rfl rfl rfl (fc_Model_disturb (fn_ev 1 (n + 2000) d) (fn_run 1 (fn_ev 1 (n + 2000) d) (fn_lk fn_d125)) (n + 1990) a1 x)
set_option maxRecDepth 20000 in
theorem fc_Model_tick (cf : Nat → List Value → fn_M → Option fn_R) (K : Nat → fn_K) (m : Nat) (x : fn_M) : fn_runc 1 cf (fn_lk fn_d126) [] K (m + 104) 0 [(0, .ref 0)] [] x =
  (if (x 1 1) = 0 then
    (if (x 1 2) = 0 then
      (if (x 1 3) = 0 then
        (if (x 1 4) = 0 then
          (fn_bv (cf 115 [.ref 0] (fn_w x 0 0 ((x 0 0) + 1))) (fun y1 =>
            (fn_bi (cf 89 [.ref 0] y1) (fun y2 v3 =>
            (fn_bi (cf 89 [.ref 0] y2) (fun y4 v5 =>
            (fn_bi (cf 89 [.ref 0] y4) (fun y6 v7 =>
            some (y6, some (.int (((0 + v3) + v5) + v7)))))))))))
          else
          (fn_bv (cf 104 [.ref 0, .int 4] (fn_w x 0 0 ((x 0 0) + 1))) (fun y8 =>
            (fn_bv (cf 115 [.ref 0] y8) (fun y9 =>
            (fn_bi (cf 89 [.ref 0] y9) (fun y10 v11 =>
            (fn_bi (cf 89 [.ref 0] y10) (fun y12 v13 =>
            (fn_bi (cf 89 [.ref 0] y12) (fun y14 v15 =>
            some (y14, some (.int (((0 + v11) + v13) + v15))))))))))))))
        else
        (fn_bv (cf 104 [.ref 0, .int 3] (fn_w x 0 0 ((x 0 0) + 1))) (fun y16 =>
          (if (y16 1 4) = 0 then
          (fn_bv (cf 115 [.ref 0] y16) (fun y17 =>
            (fn_bi (cf 89 [.ref 0] y17) (fun y18 v19 =>
            (fn_bi (cf 89 [.ref 0] y18) (fun y20 v21 =>
            (fn_bi (cf 89 [.ref 0] y20) (fun y22 v23 =>
            some (y22, some (.int (((0 + v19) + v21) + v23)))))))))))
          else
          (fn_bv (cf 104 [.ref 0, .int 4] y16) (fun y24 =>
            (fn_bv (cf 115 [.ref 0] y24) (fun y25 =>
            (fn_bi (cf 89 [.ref 0] y25) (fun y26 v27 =>
            (fn_bi (cf 89 [.ref 0] y26) (fun y28 v29 =>
            (fn_bi (cf 89 [.ref 0] y28) (fun y30 v31 =>
            some (y30, some (.int (((0 + v27) + v29) + v31)))))))))))))))))
      else
      (fn_bv (cf 104 [.ref 0, .int 2] (fn_w x 0 0 ((x 0 0) + 1))) (fun y32 =>
        (if (y32 1 3) = 0 then
        (if (y32 1 4) = 0 then
          (fn_bv (cf 115 [.ref 0] y32) (fun y33 =>
            (fn_bi (cf 89 [.ref 0] y33) (fun y34 v35 =>
            (fn_bi (cf 89 [.ref 0] y34) (fun y36 v37 =>
            (fn_bi (cf 89 [.ref 0] y36) (fun y38 v39 =>
            some (y38, some (.int (((0 + v35) + v37) + v39)))))))))))
          else
          (fn_bv (cf 104 [.ref 0, .int 4] y32) (fun y40 =>
            (fn_bv (cf 115 [.ref 0] y40) (fun y41 =>
            (fn_bi (cf 89 [.ref 0] y41) (fun y42 v43 =>
            (fn_bi (cf 89 [.ref 0] y42) (fun y44 v45 =>
            (fn_bi (cf 89 [.ref 0] y44) (fun y46 v47 =>
            some (y46, some (.int (((0 + v43) + v45) + v47))))))))))))))
        else
        (fn_bv (cf 104 [.ref 0, .int 3] y32) (fun y48 =>
          (if (y48 1 4) = 0 then
          (fn_bv (cf 115 [.ref 0] y48) (fun y49 =>
            (fn_bi (cf 89 [.ref 0] y49) (fun y50 v51 =>
            (fn_bi (cf 89 [.ref 0] y50) (fun y52 v53 =>
            (fn_bi (cf 89 [.ref 0] y52) (fun y54 v55 =>
            some (y54, some (.int (((0 + v51) + v53) + v55)))))))))))
          else
          (fn_bv (cf 104 [.ref 0, .int 4] y48) (fun y56 =>
            (fn_bv (cf 115 [.ref 0] y56) (fun y57 =>
            (fn_bi (cf 89 [.ref 0] y57) (fun y58 v59 =>
            (fn_bi (cf 89 [.ref 0] y58) (fun y60 v61 =>
            (fn_bi (cf 89 [.ref 0] y60) (fun y62 v63 =>
            some (y62, some (.int (((0 + v59) + v61) + v63))))))))))))))))))))
    else
    (fn_bv (cf 104 [.ref 0, .int 1] (fn_w x 0 0 ((x 0 0) + 1))) (fun y64 =>
      (if (y64 1 2) = 0 then
      (if (y64 1 3) = 0 then
        (if (y64 1 4) = 0 then
          (fn_bv (cf 115 [.ref 0] y64) (fun y65 =>
            (fn_bi (cf 89 [.ref 0] y65) (fun y66 v67 =>
            (fn_bi (cf 89 [.ref 0] y66) (fun y68 v69 =>
            (fn_bi (cf 89 [.ref 0] y68) (fun y70 v71 =>
            some (y70, some (.int (((0 + v67) + v69) + v71)))))))))))
          else
          (fn_bv (cf 104 [.ref 0, .int 4] y64) (fun y72 =>
            (fn_bv (cf 115 [.ref 0] y72) (fun y73 =>
            (fn_bi (cf 89 [.ref 0] y73) (fun y74 v75 =>
            (fn_bi (cf 89 [.ref 0] y74) (fun y76 v77 =>
            (fn_bi (cf 89 [.ref 0] y76) (fun y78 v79 =>
            some (y78, some (.int (((0 + v75) + v77) + v79))))))))))))))
        else
        (fn_bv (cf 104 [.ref 0, .int 3] y64) (fun y80 =>
          (if (y80 1 4) = 0 then
          (fn_bv (cf 115 [.ref 0] y80) (fun y81 =>
            (fn_bi (cf 89 [.ref 0] y81) (fun y82 v83 =>
            (fn_bi (cf 89 [.ref 0] y82) (fun y84 v85 =>
            (fn_bi (cf 89 [.ref 0] y84) (fun y86 v87 =>
            some (y86, some (.int (((0 + v83) + v85) + v87)))))))))))
          else
          (fn_bv (cf 104 [.ref 0, .int 4] y80) (fun y88 =>
            (fn_bv (cf 115 [.ref 0] y88) (fun y89 =>
            (fn_bi (cf 89 [.ref 0] y89) (fun y90 v91 =>
            (fn_bi (cf 89 [.ref 0] y90) (fun y92 v93 =>
            (fn_bi (cf 89 [.ref 0] y92) (fun y94 v95 =>
            some (y94, some (.int (((0 + v91) + v93) + v95)))))))))))))))))
      else
      (fn_bv (cf 104 [.ref 0, .int 2] y64) (fun y96 =>
        (if (y96 1 3) = 0 then
        (if (y96 1 4) = 0 then
          (fn_bv (cf 115 [.ref 0] y96) (fun y97 =>
            (fn_bi (cf 89 [.ref 0] y97) (fun y98 v99 =>
            (fn_bi (cf 89 [.ref 0] y98) (fun y100 v101 =>
            (fn_bi (cf 89 [.ref 0] y100) (fun y102 v103 =>
            some (y102, some (.int (((0 + v99) + v101) + v103)))))))))))
          else
          (fn_bv (cf 104 [.ref 0, .int 4] y96) (fun y104 =>
            (fn_bv (cf 115 [.ref 0] y104) (fun y105 =>
            (fn_bi (cf 89 [.ref 0] y105) (fun y106 v107 =>
            (fn_bi (cf 89 [.ref 0] y106) (fun y108 v109 =>
            (fn_bi (cf 89 [.ref 0] y108) (fun y110 v111 =>
            some (y110, some (.int (((0 + v107) + v109) + v111))))))))))))))
        else
        (fn_bv (cf 104 [.ref 0, .int 3] y96) (fun y112 =>
          (if (y112 1 4) = 0 then
          (fn_bv (cf 115 [.ref 0] y112) (fun y113 =>
            (fn_bi (cf 89 [.ref 0] y113) (fun y114 v115 =>
            (fn_bi (cf 89 [.ref 0] y114) (fun y116 v117 =>
            (fn_bi (cf 89 [.ref 0] y116) (fun y118 v119 =>
            some (y118, some (.int (((0 + v115) + v117) + v119)))))))))))
          else
          (fn_bv (cf 104 [.ref 0, .int 4] y112) (fun y120 =>
            (fn_bv (cf 115 [.ref 0] y120) (fun y121 =>
            (fn_bi (cf 89 [.ref 0] y121) (fun y122 v123 =>
            (fn_bi (cf 89 [.ref 0] y122) (fun y124 v125 =>
            (fn_bi (cf 89 [.ref 0] y124) (fun y126 v127 =>
            some (y126, some (.int (((0 + v123) + v125) + v127))))))))))))))))))))))) := rfl
theorem ft_Model_tick (n d : Nat) (x : fn_M) : fn_ev 1 (n + 2000) (d + 1) 126 [.ref 0] x =
  (if (x 1 1) = 0 then
    (if (x 1 2) = 0 then
      (if (x 1 3) = 0 then
        (if (x 1 4) = 0 then
          (fn_bv (fn_ev 1 (n + 2000) d 115 [.ref 0] (fn_w x 0 0 ((x 0 0) + 1))) (fun y1 =>
            (fn_bi (fn_ev 1 (n + 2000) d 89 [.ref 0] y1) (fun y2 v3 =>
            (fn_bi (fn_ev 1 (n + 2000) d 89 [.ref 0] y2) (fun y4 v5 =>
            (fn_bi (fn_ev 1 (n + 2000) d 89 [.ref 0] y4) (fun y6 v7 =>
            some (y6, some (.int (((0 + v3) + v5) + v7)))))))))))
          else
          (fn_bv (fn_ev 1 (n + 2000) d 104 [.ref 0, .int 4] (fn_w x 0 0 ((x 0 0) + 1))) (fun y8 =>
            (fn_bv (fn_ev 1 (n + 2000) d 115 [.ref 0] y8) (fun y9 =>
            (fn_bi (fn_ev 1 (n + 2000) d 89 [.ref 0] y9) (fun y10 v11 =>
            (fn_bi (fn_ev 1 (n + 2000) d 89 [.ref 0] y10) (fun y12 v13 =>
            (fn_bi (fn_ev 1 (n + 2000) d 89 [.ref 0] y12) (fun y14 v15 =>
            some (y14, some (.int (((0 + v11) + v13) + v15))))))))))))))
        else
        (fn_bv (fn_ev 1 (n + 2000) d 104 [.ref 0, .int 3] (fn_w x 0 0 ((x 0 0) + 1))) (fun y16 =>
          (if (y16 1 4) = 0 then
          (fn_bv (fn_ev 1 (n + 2000) d 115 [.ref 0] y16) (fun y17 =>
            (fn_bi (fn_ev 1 (n + 2000) d 89 [.ref 0] y17) (fun y18 v19 =>
            (fn_bi (fn_ev 1 (n + 2000) d 89 [.ref 0] y18) (fun y20 v21 =>
            (fn_bi (fn_ev 1 (n + 2000) d 89 [.ref 0] y20) (fun y22 v23 =>
            some (y22, some (.int (((0 + v19) + v21) + v23)))))))))))
          else
          (fn_bv (fn_ev 1 (n + 2000) d 104 [.ref 0, .int 4] y16) (fun y24 =>
            (fn_bv (fn_ev 1 (n + 2000) d 115 [.ref 0] y24) (fun y25 =>
            (fn_bi (fn_ev 1 (n + 2000) d 89 [.ref 0] y25) (fun y26 v27 =>
            (fn_bi (fn_ev 1 (n + 2000) d 89 [.ref 0] y26) (fun y28 v29 =>
            (fn_bi (fn_ev 1 (n + 2000) d 89 [.ref 0] y28) (fun y30 v31 =>
            some (y30, some (.int (((0 + v27) + v29) + v31)))))))))))))))))
      else
      (fn_bv (fn_ev 1 (n + 2000) d 104 [.ref 0, .int 2] (fn_w x 0 0 ((x 0 0) + 1))) (fun y32 =>
        (if (y32 1 3) = 0 then
        (if (y32 1 4) = 0 then
          (fn_bv (fn_ev 1 (n + 2000) d 115 [.ref 0] y32) (fun y33 =>
            (fn_bi (fn_ev 1 (n + 2000) d 89 [.ref 0] y33) (fun y34 v35 =>
            (fn_bi (fn_ev 1 (n + 2000) d 89 [.ref 0] y34) (fun y36 v37 =>
            (fn_bi (fn_ev 1 (n + 2000) d 89 [.ref 0] y36) (fun y38 v39 =>
            some (y38, some (.int (((0 + v35) + v37) + v39)))))))))))
          else
          (fn_bv (fn_ev 1 (n + 2000) d 104 [.ref 0, .int 4] y32) (fun y40 =>
            (fn_bv (fn_ev 1 (n + 2000) d 115 [.ref 0] y40) (fun y41 =>
            (fn_bi (fn_ev 1 (n + 2000) d 89 [.ref 0] y41) (fun y42 v43 =>
            (fn_bi (fn_ev 1 (n + 2000) d 89 [.ref 0] y42) (fun y44 v45 =>
            (fn_bi (fn_ev 1 (n + 2000) d 89 [.ref 0] y44) (fun y46 v47 =>
            some (y46, some (.int (((0 + v43) + v45) + v47))))))))))))))
        else
        (fn_bv (fn_ev 1 (n + 2000) d 104 [.ref 0, .int 3] y32) (fun y48 =>
          (if (y48 1 4) = 0 then
          (fn_bv (fn_ev 1 (n + 2000) d 115 [.ref 0] y48) (fun y49 =>
            (fn_bi (fn_ev 1 (n + 2000) d 89 [.ref 0] y49) (fun y50 v51 =>
            (fn_bi (fn_ev 1 (n + 2000) d 89 [.ref 0] y50) (fun y52 v53 =>
            (fn_bi (fn_ev 1 (n + 2000) d 89 [.ref 0] y52) (fun y54 v55 =>
            some (y54, some (.int (((0 + v51) + v53) + v55)))))))))))
          else
          (fn_bv (fn_ev 1 (n + 2000) d 104 [.ref 0, .int 4] y48) (fun y56 =>
            (fn_bv (fn_ev 1 (n + 2000) d 115 [.ref 0] y56) (fun y57 =>
            (fn_bi (fn_ev 1 (n + 2000) d 89 [.ref 0] y57) (fun y58 v59 =>
            (fn_bi (fn_ev 1 (n + 2000) d 89 [.ref 0] y58) (fun y60 v61 =>
            (fn_bi (fn_ev 1 (n + 2000) d 89 [.ref 0] y60) (fun y62 v63 =>
            some (y62, some (.int (((0 + v59) + v61) + v63))))))))))))))))))))
    else
    (fn_bv (fn_ev 1 (n + 2000) d 104 [.ref 0, .int 1] (fn_w x 0 0 ((x 0 0) + 1))) (fun y64 =>
      (if (y64 1 2) = 0 then
      (if (y64 1 3) = 0 then
        (if (y64 1 4) = 0 then
          (fn_bv (fn_ev 1 (n + 2000) d 115 [.ref 0] y64) (fun y65 =>
            (fn_bi (fn_ev 1 (n + 2000) d 89 [.ref 0] y65) (fun y66 v67 =>
            (fn_bi (fn_ev 1 (n + 2000) d 89 [.ref 0] y66) (fun y68 v69 =>
            (fn_bi (fn_ev 1 (n + 2000) d 89 [.ref 0] y68) (fun y70 v71 =>
            some (y70, some (.int (((0 + v67) + v69) + v71)))))))))))
          else
          (fn_bv (fn_ev 1 (n + 2000) d 104 [.ref 0, .int 4] y64) (fun y72 =>
            (fn_bv (fn_ev 1 (n + 2000) d 115 [.ref 0] y72) (fun y73 =>
            (fn_bi (fn_ev 1 (n + 2000) d 89 [.ref 0] y73) (fun y74 v75 =>
            (fn_bi (fn_ev 1 (n + 2000) d 89 [.ref 0] y74) (fun y76 v77 =>
            (fn_bi (fn_ev 1 (n + 2000) d 89 [.ref 0] y76) (fun y78 v79 =>
            some (y78, some (.int (((0 + v75) + v77) + v79))))))))))))))
        else
        (fn_bv (fn_ev 1 (n + 2000) d 104 [.ref 0, .int 3] y64) (fun y80 =>
          (if (y80 1 4) = 0 then
          (fn_bv (fn_ev 1 (n + 2000) d 115 [.ref 0] y80) (fun y81 =>
            (fn_bi (fn_ev 1 (n + 2000) d 89 [.ref 0] y81) (fun y82 v83 =>
            (fn_bi (fn_ev 1 (n + 2000) d 89 [.ref 0] y82) (fun y84 v85 =>
            (fn_bi (fn_ev 1 (n + 2000) d 89 [.ref 0] y84) (fun y86 v87 =>
            some (y86, some (.int (((0 + v83) + v85) + v87)))))))))))
          else
          (fn_bv (fn_ev 1 (n + 2000) d 104 [.ref 0, .int 4] y80) (fun y88 =>
            (fn_bv (fn_ev 1 (n + 2000) d 115 [.ref 0] y88) (fun y89 =>
            (fn_bi (fn_ev 1 (n + 2000) d 89 [.ref 0] y89) (fun y90 v91 =>
            (fn_bi (fn_ev 1 (n + 2000) d 89 [.ref 0] y90) (fun y92 v93 =>
            (fn_bi (fn_ev 1 (n + 2000) d 89 [.ref 0] y92) (fun y94 v95 =>
            some (y94, some (.int (((0 + v91) + v93) + v95)))))))))))))))))
      else
      (fn_bv (fn_ev 1 (n + 2000) d 104 [.ref 0, .int 2] y64) (fun y96 =>
        (if (y96 1 3) = 0 then
        (if (y96 1 4) = 0 then
          (fn_bv (fn_ev 1 (n + 2000) d 115 [.ref 0] y96) (fun y97 =>
            (fn_bi (fn_ev 1 (n + 2000) d 89 [.ref 0] y97) (fun y98 v99 =>
            (fn_bi (fn_ev 1 (n + 2000) d 89 [.ref 0] y98) (fun y100 v101 =>
            (fn_bi (fn_ev 1 (n + 2000) d 89 [.ref 0] y100) (fun y102 v103 =>
            some (y102, some (.int (((0 + v99) + v101) + v103)))))))))))
          else
          (fn_bv (fn_ev 1 (n + 2000) d 104 [.ref 0, .int 4] y96) (fun y104 =>
            (fn_bv (fn_ev 1 (n + 2000) d 115 [.ref 0] y104) (fun y105 =>
            (fn_bi (fn_ev 1 (n + 2000) d 89 [.ref 0] y105) (fun y106 v107 =>
            (fn_bi (fn_ev 1 (n + 2000) d 89 [.ref 0] y106) (fun y108 v109 =>
            (fn_bi (fn_ev 1 (n + 2000) d 89 [.ref 0] y108) (fun y110 v111 =>
            some (y110, some (.int (((0 + v107) + v109) + v111))))))))))))))
        else
        (fn_bv (fn_ev 1 (n + 2000) d 104 [.ref 0, .int 3] y96) (fun y112 =>
          (if (y112 1 4) = 0 then
          (fn_bv (fn_ev 1 (n + 2000) d 115 [.ref 0] y112) (fun y113 =>
            (fn_bi (fn_ev 1 (n + 2000) d 89 [.ref 0] y113) (fun y114 v115 =>
            (fn_bi (fn_ev 1 (n + 2000) d 89 [.ref 0] y114) (fun y116 v117 =>
            (fn_bi (fn_ev 1 (n + 2000) d 89 [.ref 0] y116) (fun y118 v119 =>
            some (y118, some (.int (((0 + v115) + v117) + v119)))))))))))
          else
          (fn_bv (fn_ev 1 (n + 2000) d 104 [.ref 0, .int 4] y112) (fun y120 =>
            (fn_bv (fn_ev 1 (n + 2000) d 115 [.ref 0] y120) (fun y121 =>
            (fn_bi (fn_ev 1 (n + 2000) d 89 [.ref 0] y121) (fun y122 v123 =>
            (fn_bi (fn_ev 1 (n + 2000) d 89 [.ref 0] y122) (fun y124 v125 =>
            (fn_bi (fn_ev 1 (n + 2000) d 89 [.ref 0] y124) (fun y126 v127 =>
            some (y126, some (.int (((0 + v123) + v125) + v127))))))))))))))))))))))) :=
  fn_ev_t (dd := fn_d126) (lo := [(0, .ref 0)]) (sp := []) rfl rfl rfl (fc_Model_tick (fn_ev 1 (n + 2000) d) (fn_run 1 (fn_ev 1 (n + 2000) d) (fn_lk fn_d126)) (n + 1896) x)
set_option maxRecDepth 20000 in
theorem fc_Model_object (cf : Nat → List Value → fn_M → Option fn_R) (K : Nat → fn_K) (m : Nat) (a1 a2 : Int32) (x : fn_M) : fn_runc 1 cf (fn_lk fn_d127) [] K (m + 16) 0 [(0, .ref 0), (1, .int a1), (2, .int a2)] [] x =
  (fn_bi (cf 84 [.int a1] x) (fun y1 v2 =>
    (if v2 = 0 then
    some (y1, some (.int (-1)))
    else
    (fn_bi (cf 85 [.int a2, .int 0, .int 16] y1) (fun y3 v4 =>
      (if v4 = 0 then
      some (y3, some (.int (-1)))
      else
      (if a2 = 16 then
        (fn_bi (cf 93 [.ref 0, .int a1] y3) (fun y7 v8 =>
          some (y7, some (.int v8))))
        else
        (fn_bi (cf 86 [.ref 0, .int a1, .int a2] y3) (fun y5 v6 =>
          some (y5, some (.int v6))))))))))) := rfl
theorem ft_Model_object (n d : Nat) (a1 a2 : Int32) (x : fn_M) : fn_ev 1 (n + 2000) (d + 1) 127 [.ref 0, .int a1, .int a2] x =
  (fn_bi (fn_ev 1 (n + 2000) d 84 [.int a1] x) (fun y1 v2 =>
    (if v2 = 0 then
    some (y1, some (.int (-1)))
    else
    (fn_bi (fn_ev 1 (n + 2000) d 85 [.int a2, .int 0, .int 16] y1) (fun y3 v4 =>
      (if v4 = 0 then
      some (y3, some (.int (-1)))
      else
      (if a2 = 16 then
        (fn_bi (fn_ev 1 (n + 2000) d 93 [.ref 0, .int a1] y3) (fun y7 v8 =>
          some (y7, some (.int v8))))
        else
        (fn_bi (fn_ev 1 (n + 2000) d 86 [.ref 0, .int a1, .int a2] y3) (fun y5 v6 =>
          some (y5, some (.int v6))))))))))) :=
  fn_ev_t (dd := fn_d127) (lo := [(0, .ref 0), (1, .int a1), (2, .int a2)]) (sp := []) rfl rfl rfl (fc_Model_object (fn_ev 1 (n + 2000) d) (fn_run 1 (fn_ev 1 (n + 2000) d) (fn_lk fn_d127)) (n + 1984) a1 a2 x)
set_option maxRecDepth 20000 in
theorem fc_Model_state (cf : Nat → List Value → fn_M → Option fn_R) (K : Nat → fn_K) (m : Nat) (a1 : Int32) (x : fn_M) : fn_runc 1 cf (fn_lk fn_d128) [] K (m + 9) 0 [(0, .ref 0), (1, .int a1)] [] x =
  (fn_bi (cf 84 [.int a1] x) (fun y1 v2 =>
    (if v2 = 0 then
    some (y1, some (.int (-1)))
    else
    (if a1 < 0 ∨ 5 ≤ a1.toNatClampNeg then
      none
      else
      some (y1, some (.int (y1 1 a1.toNatClampNeg))))))) := rfl
theorem ft_Model_state (n d : Nat) (a1 : Int32) (x : fn_M) : fn_ev 1 (n + 2000) (d + 1) 128 [.ref 0, .int a1] x =
  (fn_bi (fn_ev 1 (n + 2000) d 84 [.int a1] x) (fun y1 v2 =>
    (if v2 = 0 then
    some (y1, some (.int (-1)))
    else
    (if a1 < 0 ∨ 5 ≤ a1.toNatClampNeg then
      none
      else
      some (y1, some (.int (y1 1 a1.toNatClampNeg))))))) :=
  fn_ev_t (dd := fn_d128) (lo := [(0, .ref 0), (1, .int a1)]) (sp := []) rfl rfl rfl (fc_Model_state (fn_ev 1 (n + 2000) d) (fn_run 1 (fn_ev 1 (n + 2000) d) (fn_lk fn_d128)) (n + 1991) a1 x)
set_option maxRecDepth 20000 in
theorem fc_Model_phase (cf : Nat → List Value → fn_M → Option fn_R) (K : Nat → fn_K) (m : Nat) (a1 : Int32) (x : fn_M) : fn_runc 1 cf (fn_lk fn_d129) [] K (m + 9) 0 [(0, .ref 0), (1, .int a1)] [] x =
  (fn_bi (cf 84 [.int a1] x) (fun y1 v2 =>
    (if v2 = 0 then
    some (y1, some (.int (-1)))
    else
    (if a1 < 0 ∨ 5 ≤ a1.toNatClampNeg then
      none
      else
      some (y1, some (.int (y1 20 a1.toNatClampNeg))))))) := rfl
theorem ft_Model_phase (n d : Nat) (a1 : Int32) (x : fn_M) : fn_ev 1 (n + 2000) (d + 1) 129 [.ref 0, .int a1] x =
  (fn_bi (fn_ev 1 (n + 2000) d 84 [.int a1] x) (fun y1 v2 =>
    (if v2 = 0 then
    some (y1, some (.int (-1)))
    else
    (if a1 < 0 ∨ 5 ≤ a1.toNatClampNeg then
      none
      else
      some (y1, some (.int (y1 20 a1.toNatClampNeg))))))) :=
  fn_ev_t (dd := fn_d129) (lo := [(0, .ref 0), (1, .int a1)]) (sp := []) rfl rfl rfl (fc_Model_phase (fn_ev 1 (n + 2000) d) (fn_run 1 (fn_ev 1 (n + 2000) d) (fn_lk fn_d129)) (n + 1991) a1 x)
set_option maxRecDepth 20000 in
theorem fc_Model_client (cf : Nat → List Value → fn_M → Option fn_R) (K : Nat → fn_K) (m : Nat) (a1 : Int32) (x : fn_M) : fn_runc 1 cf (fn_lk fn_d130) [] K (m + 9) 0 [(0, .ref 0), (1, .int a1)] [] x =
  (if a1 = 0 then
    (if (x 0 27) ≤ 0 then
      some (x, some (.int 0))
      else
      some (x, some (.int 1)))
    else
    (if a1 = 1 then
      some (x, some (.int (x 0 33)))
      else
      (if a1 = 2 then
        some (x, some (.int (x 0 34)))
        else
        (if a1 = 3 then
          some (x, some (.int (x 0 27)))
          else
          (if a1 = 4 then
            (if (x 0 27) ≤ 0 then
              some (x, some (.int (-1)))
              else
              some (x, some (.int (x 0 28))))
            else
            some (x, some (.int (-1)))))))) := rfl
theorem ft_Model_client (n d : Nat) (a1 : Int32) (x : fn_M) : fn_ev 1 (n + 2000) (d + 1) 130 [.ref 0, .int a1] x =
  (if a1 = 0 then
    (if (x 0 27) ≤ 0 then
      some (x, some (.int 0))
      else
      some (x, some (.int 1)))
    else
    (if a1 = 1 then
      some (x, some (.int (x 0 33)))
      else
      (if a1 = 2 then
        some (x, some (.int (x 0 34)))
        else
        (if a1 = 3 then
          some (x, some (.int (x 0 27)))
          else
          (if a1 = 4 then
            (if (x 0 27) ≤ 0 then
              some (x, some (.int (-1)))
              else
              some (x, some (.int (x 0 28))))
            else
            some (x, some (.int (-1)))))))) :=
  fn_ev_t (dd := fn_d130) (lo := [(0, .ref 0), (1, .int a1)]) (sp := []) rfl rfl rfl (fc_Model_client (fn_ev 1 (n + 2000) d) (fn_run 1 (fn_ev 1 (n + 2000) d) (fn_lk fn_d130)) (n + 1991) a1 x)
set_option maxRecDepth 20000 in
theorem fc_Model_text (cf : Nat → List Value → fn_M → Option fn_R) (K : Nat → fn_K) (m : Nat) (a1 : Int32) (x : fn_M) : fn_runc 1 cf (fn_lk fn_d131) [] K (m + 12) 0 [(0, .ref 0), (1, .int a1)] [] x =
  (if a1 < 0 then
    some (x, some (.int (-1)))
    else
    (if (x 0 38) ≤ a1 then
      some (x, some (.int (-1)))
      else
      (if a1 < 0 ∨ 12 ≤ a1.toNatClampNeg then
        none
        else
        some (x, some (.int (x 22 a1.toNatClampNeg)))))) := rfl
theorem ft_Model_text (n d : Nat) (a1 : Int32) (x : fn_M) : fn_ev 1 (n + 2000) (d + 1) 131 [.ref 0, .int a1] x =
  (if a1 < 0 then
    some (x, some (.int (-1)))
    else
    (if (x 0 38) ≤ a1 then
      some (x, some (.int (-1)))
      else
      (if a1 < 0 ∨ 12 ≤ a1.toNatClampNeg then
        none
        else
        some (x, some (.int (x 22 a1.toNatClampNeg)))))) :=
  fn_ev_t (dd := fn_d131) (lo := [(0, .ref 0), (1, .int a1)]) (sp := []) rfl rfl rfl (fc_Model_text (fn_ev 1 (n + 2000) d) (fn_run 1 (fn_ev 1 (n + 2000) d) (fn_lk fn_d131)) (n + 1988) a1 x)
set_option maxRecDepth 20000 in
theorem fc_Model_report (cf : Nat → List Value → fn_M → Option fn_R) (K : Nat → fn_K) (m : Nat) (a1 : Int32) (x : fn_M) : fn_runc 1 cf (fn_lk fn_d132) [] K (m + 15) 0 [(0, .ref 0), (1, .int a1)] [] x =
  (if a1 = (-1) then
    some (x, some (.int (x 0 40)))
    else
    (if a1 < 0 then
      some (x, some (.int (-2)))
      else
      (if (x 0 40) ≤ a1 then
        some (x, some (.int (-2)))
        else
        (if a1 < 0 ∨ 80 ≤ a1.toNatClampNeg then
          none
          else
          some (x, some (.int (x 23 a1.toNatClampNeg))))))) := rfl
theorem ft_Model_report (n d : Nat) (a1 : Int32) (x : fn_M) : fn_ev 1 (n + 2000) (d + 1) 132 [.ref 0, .int a1] x =
  (if a1 = (-1) then
    some (x, some (.int (x 0 40)))
    else
    (if a1 < 0 then
      some (x, some (.int (-2)))
      else
      (if (x 0 40) ≤ a1 then
        some (x, some (.int (-2)))
        else
        (if a1 < 0 ∨ 80 ≤ a1.toNatClampNeg then
          none
          else
          some (x, some (.int (x 23 a1.toNatClampNeg))))))) :=
  fn_ev_t (dd := fn_d132) (lo := [(0, .ref 0), (1, .int a1)]) (sp := []) rfl rfl rfl (fc_Model_report (fn_ev 1 (n + 2000) d) (fn_run 1 (fn_ev 1 (n + 2000) d) (fn_lk fn_d132)) (n + 1985) a1 x)
set_option maxRecDepth 20000 in
theorem fc_Model_bus (cf : Nat → List Value → fn_M → Option fn_R) (K : Nat → fn_K) (m : Nat) (a1 a2 : Int32) (x : fn_M) : fn_runc 1 cf (fn_lk fn_d133) [] K (m + 28) 0 [(0, .ref 0), (1, .int a1), (2, .int a2)] [] x =
  (if a1 < (-1) then
    some (x, some (.int (-1)))
    else
    (if (x 0 10) ≤ a1 then
      some (x, some (.int (-1)))
      else
      (fn_bi (cf 85 [.int a2, .int 0, .int 3] x) (fun y1 v2 =>
        (if v2 = 0 then
        some (y1, some (.int (-1)))
        else
        (if 0 ≤ a1 then
          (if a2 = 0 then
            (if a1 < 0 ∨ 24 ≤ a1.toNatClampNeg then
              none
              else
              some (y1, some (.int (y1 10 a1.toNatClampNeg))))
            else
            (if a2 = 1 then
              (if a1 < 0 ∨ 24 ≤ a1.toNatClampNeg then
                none
                else
                some (y1, some (.int (y1 11 a1.toNatClampNeg))))
              else
              (if a2 = 2 then
                (if a1 < 0 ∨ 24 ≤ a1.toNatClampNeg then
                  none
                  else
                  some (y1, some (.int (y1 12 a1.toNatClampNeg))))
                else
                (if a1 < 0 ∨ 24 ≤ a1.toNatClampNeg then
                  none
                  else
                  some (y1, some (.int (y1 13 a1.toNatClampNeg)))))))
          else
          (if a2 = 0 then
            some (y1, some (.int (y1 0 10)))
            else
            (if a2 = 1 then
              some (y1, some (.int (y1 0 16)))
              else
              (if a2 = 2 then
                some (y1, some (.int (y1 0 17)))
                else
                some (y1, some (.int (y1 0 0)))))))))))) := rfl
theorem ft_Model_bus (n d : Nat) (a1 a2 : Int32) (x : fn_M) : fn_ev 1 (n + 2000) (d + 1) 133 [.ref 0, .int a1, .int a2] x =
  (if a1 < (-1) then
    some (x, some (.int (-1)))
    else
    (if (x 0 10) ≤ a1 then
      some (x, some (.int (-1)))
      else
      (fn_bi (fn_ev 1 (n + 2000) d 85 [.int a2, .int 0, .int 3] x) (fun y1 v2 =>
        (if v2 = 0 then
        some (y1, some (.int (-1)))
        else
        (if 0 ≤ a1 then
          (if a2 = 0 then
            (if a1 < 0 ∨ 24 ≤ a1.toNatClampNeg then
              none
              else
              some (y1, some (.int (y1 10 a1.toNatClampNeg))))
            else
            (if a2 = 1 then
              (if a1 < 0 ∨ 24 ≤ a1.toNatClampNeg then
                none
                else
                some (y1, some (.int (y1 11 a1.toNatClampNeg))))
              else
              (if a2 = 2 then
                (if a1 < 0 ∨ 24 ≤ a1.toNatClampNeg then
                  none
                  else
                  some (y1, some (.int (y1 12 a1.toNatClampNeg))))
                else
                (if a1 < 0 ∨ 24 ≤ a1.toNatClampNeg then
                  none
                  else
                  some (y1, some (.int (y1 13 a1.toNatClampNeg)))))))
          else
          (if a2 = 0 then
            some (y1, some (.int (y1 0 10)))
            else
            (if a2 = 1 then
              some (y1, some (.int (y1 0 16)))
              else
              (if a2 = 2 then
                some (y1, some (.int (y1 0 17)))
                else
                some (y1, some (.int (y1 0 0)))))))))))) :=
  fn_ev_t (dd := fn_d133) (lo := [(0, .ref 0), (1, .int a1), (2, .int a2)]) (sp := []) rfl rfl rfl (fc_Model_bus (fn_ev 1 (n + 2000) d) (fn_run 1 (fn_ev 1 (n + 2000) d) (fn_lk fn_d133)) (n + 1972) a1 a2 x)
