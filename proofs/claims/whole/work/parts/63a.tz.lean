set_option maxRecDepth 20000 in
theorem fy_Node_takeIdentity (cf : Nat → List Value → fn_M → Option fn_R) (K : Nat → fn_K) (m : Nat) (a1 : Int32) (x : fn_M) : fn_runc 2 cf (fn_lk fn_d27) [] K (m + 22) 0 [(0, .ref 0), (1, .int a1)] [] x =
  (fn_bv (cf 134 [.ref 8, .int 0] (fn_w x 4 0 a1)) (fun y1 =>
    (fn_br (cf 135 [.ref 8, .ref 1002] y1) (fun y2 p3 =>
    (if (fn_lc 2 p3 == 9) = true then
    (fn_br (cf 136 [.ref p3, .int (y2 0 0)] y2) (fun y4 p5 =>
      (if (fn_lc 2 p5 == 9) = true then
      (fn_br (cf 137 [.ref p5, .int 58] y4) (fun y6 p7 =>
        (if (fn_lc 2 p7 == 9) = true then
        (fn_br (cf 136 [.ref p7, .int a1] y6) (fun y8 p9 =>
          some (y8, none)) (fun y8 =>
          none))
        else
        none)) (fun y6 =>
        none))
      else
      none)) (fun y4 =>
      none))
    else
    none)) (fun y2 =>
    none)))) := rfl
theorem fz_Node_takeIdentity (n d : Nat) (a1 : Int32) (x : fn_M) : fn_ev 2 (n + 2000) (d + 1) 27 [.ref 0, .int a1] x =
  (fn_bv (fn_ev 2 (n + 2000) d 134 [.ref 8, .int 0] (fn_w x 4 0 a1)) (fun y1 =>
    (fn_br (fn_ev 2 (n + 2000) d 135 [.ref 8, .ref 1002] y1) (fun y2 p3 =>
    (if (fn_lc 2 p3 == 9) = true then
    (fn_br (fn_ev 2 (n + 2000) d 136 [.ref p3, .int (y2 0 0)] y2) (fun y4 p5 =>
      (if (fn_lc 2 p5 == 9) = true then
      (fn_br (fn_ev 2 (n + 2000) d 137 [.ref p5, .int 58] y4) (fun y6 p7 =>
        (if (fn_lc 2 p7 == 9) = true then
        (fn_br (fn_ev 2 (n + 2000) d 136 [.ref p7, .int a1] y6) (fun y8 p9 =>
          some (y8, none)) (fun y8 =>
          none))
        else
        none)) (fun y6 =>
        none))
      else
      none)) (fun y4 =>
      none))
    else
    none)) (fun y2 =>
    none)))) :=
  fn_ev_t (dd := fn_d27) (lo := [(0, .ref 0), (1, .int a1)]) (sp := []) rfl rfl rfl (fy_Node_takeIdentity (fn_ev 2 (n + 2000) d) (fn_run 2 (fn_ev 2 (n + 2000) d) (fn_lk fn_d27)) (n + 1978) a1 x)
set_option maxRecDepth 20000 in
theorem fy_SB_setLength (cf : Nat → List Value → fn_M → Option fn_R) (K : Nat → fn_K) (m : Nat) (a1 : Int32) (x : fn_M) : fn_runc 2 cf (fn_lk fn_d134) [] K (m + 4) 0 [(0, .ref 8), (1, .int a1)] [] x =
  (fn_bv (cf 140 [.ref 8, .int a1] x) (fun y1 =>
    some (y1, none))) := rfl
theorem fz_SB_setLength (n d : Nat) (a1 : Int32) (x : fn_M) : fn_ev 2 (n + 2000) (d + 1) 134 [.ref 8, .int a1] x =
  (fn_bv (fn_ev 2 (n + 2000) d 140 [.ref 8, .int a1] x) (fun y1 =>
    some (y1, none))) :=
  fn_ev_t (dd := fn_d134) (lo := [(0, .ref 8), (1, .int a1)]) (sp := []) rfl rfl rfl (fy_SB_setLength (fn_ev 2 (n + 2000) d) (fn_run 2 (fn_ev 2 (n + 2000) d) (fn_lk fn_d134)) (n + 1996) a1 x)
set_option maxRecDepth 20000 in
theorem fy_SB_appendS (cf : Nat → List Value → fn_M → Option fn_R) (K : Nat → fn_K) (m : Nat) (x : fn_M) : fn_runc 2 cf (fn_lk fn_d135) [] K (m + 6) 0 [(0, .ref 8), (1, .ref 1002)] [] x =
  (fn_br (cf 142 [.ref 8, .ref 1002] x) (fun y1 p2 =>
    some (y1, some (.ref 8))) (fun y1 =>
    none)) := rfl
theorem fz_SB_appendS (n d : Nat) (x : fn_M) : fn_ev 2 (n + 2000) (d + 1) 135 [.ref 8, .ref 1002] x =
  (fn_br (fn_ev 2 (n + 2000) d 142 [.ref 8, .ref 1002] x) (fun y1 p2 =>
    some (y1, some (.ref 8))) (fun y1 =>
    none)) :=
  fn_ev_t (dd := fn_d135) (lo := [(0, .ref 8), (1, .ref 1002)]) (sp := []) rfl rfl rfl (fy_SB_appendS (fn_ev 2 (n + 2000) d) (fn_run 2 (fn_ev 2 (n + 2000) d) (fn_lk fn_d135)) (n + 1994) x)
set_option maxRecDepth 20000 in
theorem fy_SB_appendI (cf : Nat → List Value → fn_M → Option fn_R) (K : Nat → fn_K) (m : Nat) (a1 : Int32) (x : fn_M) : fn_runc 2 cf (fn_lk fn_d136) [] K (m + 6) 0 [(0, .ref 8), (1, .int a1)] [] x =
  (fn_br (cf 145 [.ref 8, .int a1] x) (fun y1 p2 =>
    some (y1, some (.ref 8))) (fun y1 =>
    none)) := rfl
theorem fz_SB_appendI (n d : Nat) (a1 : Int32) (x : fn_M) : fn_ev 2 (n + 2000) (d + 1) 136 [.ref 8, .int a1] x =
  (fn_br (fn_ev 2 (n + 2000) d 145 [.ref 8, .int a1] x) (fun y1 p2 =>
    some (y1, some (.ref 8))) (fun y1 =>
    none)) :=
  fn_ev_t (dd := fn_d136) (lo := [(0, .ref 8), (1, .int a1)]) (sp := []) rfl rfl rfl (fy_SB_appendI (fn_ev 2 (n + 2000) d) (fn_run 2 (fn_ev 2 (n + 2000) d) (fn_lk fn_d136)) (n + 1994) a1 x)
set_option maxRecDepth 20000 in
theorem fy_SB_appendC (cf : Nat → List Value → fn_M → Option fn_R) (K : Nat → fn_K) (m : Nat) (a1 : Int32) (x : fn_M) : fn_runc 2 cf (fn_lk fn_d137) [] K (m + 6) 0 [(0, .ref 8), (1, .int a1)] [] x =
  (fn_br (cf 147 [.ref 8, .int a1] x) (fun y1 p2 =>
    some (y1, some (.ref 8))) (fun y1 =>
    none)) := rfl
theorem fz_SB_appendC (n d : Nat) (a1 : Int32) (x : fn_M) : fn_ev 2 (n + 2000) (d + 1) 137 [.ref 8, .int a1] x =
  (fn_br (fn_ev 2 (n + 2000) d 147 [.ref 8, .int a1] x) (fun y1 p2 =>
    some (y1, some (.ref 8))) (fun y1 =>
    none)) :=
  fn_ev_t (dd := fn_d137) (lo := [(0, .ref 8), (1, .int a1)]) (sp := []) rfl rfl rfl (fy_SB_appendC (fn_ev 2 (n + 2000) d) (fn_run 2 (fn_ev 2 (n + 2000) d) (fn_lk fn_d137)) (n + 1994) a1 x)
set_option maxRecDepth 20000 in
theorem fy_ASB_setLength (cf : Nat → List Value → fn_M → Option fn_R) (K : Nat → fn_K) (m : Nat) (a1 : Int32) (x : fn_M) : fn_runc 2 cf (fn_lk fn_d140) [] K (m + 20) 0 [(0, .ref 8), (1, .int a1)] [] x =
  (if 0 ≤ a1 then
    (fn_bv (cf 141 [.ref 8, .int a1] x) (fun y1 =>
      (if a1 ≤ (y1 8 3) then
      (if (y1 8 3) ≤ a1 then
        some ((fn_w y1 8 3 a1), none)
        else
        some ((fn_w (fn_w y1 8 2 1) 8 3 a1), none))
      else
      (fn_bi (cf 146 [.ref 8] y1) (fun y2 v3 =>
        (if v3 = 0 then
        none
        else
        none))))))
    else
    none) := rfl
theorem fz_ASB_setLength (n d : Nat) (a1 : Int32) (x : fn_M) : fn_ev 2 (n + 2000) (d + 1) 140 [.ref 8, .int a1] x =
  (if 0 ≤ a1 then
    (fn_bv (fn_ev 2 (n + 2000) d 141 [.ref 8, .int a1] x) (fun y1 =>
      (if a1 ≤ (y1 8 3) then
      (if (y1 8 3) ≤ a1 then
        some ((fn_w y1 8 3 a1), none)
        else
        some ((fn_w (fn_w y1 8 2 1) 8 3 a1), none))
      else
      (fn_bi (fn_ev 2 (n + 2000) d 146 [.ref 8] y1) (fun y2 v3 =>
        (if v3 = 0 then
        none
        else
        none))))))
    else
    none) :=
  fn_ev_t (dd := fn_d140) (lo := [(0, .ref 8), (1, .int a1)]) (sp := []) rfl rfl rfl (fy_ASB_setLength (fn_ev 2 (n + 2000) d) (fn_run 2 (fn_ev 2 (n + 2000) d) (fn_lk fn_d140)) (n + 1980) a1 x)
set_option maxRecDepth 20000 in
theorem fy_ASB_ensureCapacityInternal (cf : Nat → List Value → fn_M → Option fn_R) (K : Nat → fn_K) (m : Nat) (a1 : Int32) (x : fn_M) : fn_runc 2 cf (fn_lk fn_d141) [] K (m + 17) 0 [(0, .ref 8), (1, .int a1)] [] x =
  (if (a1 - (16 >>> ((x 8 1) &&& 31))) ≤ 0 then
    some (x, none)
    else
    none) := rfl
theorem fz_ASB_ensureCapacityInternal (n d : Nat) (a1 : Int32) (x : fn_M) : fn_ev 2 (n + 2000) (d + 1) 141 [.ref 8, .int a1] x =
  (if (a1 - (16 >>> ((x 8 1) &&& 31))) ≤ 0 then
    some (x, none)
    else
    none) :=
  fn_ev_t (dd := fn_d141) (lo := [(0, .ref 8), (1, .int a1)]) (sp := []) rfl rfl rfl (fy_ASB_ensureCapacityInternal (fn_ev 2 (n + 2000) d) (fn_run 2 (fn_ev 2 (n + 2000) d) (fn_lk fn_d141)) (n + 1983) a1 x)
set_option maxRecDepth 20000 in
theorem fy_ASB_appendS (cf : Nat → List Value → fn_M → Option fn_R) (K : Nat → fn_K) (m : Nat) (x : fn_M) : fn_runc 2 cf (fn_lk fn_d142) [] K (m + 24) 0 [(0, .ref 8), (1, .ref 1002)] [] x =
  (fn_bi (cf 150 [.ref 1002] x) (fun y1 v2 =>
    (fn_bv (cf 141 [.ref 8, .int ((y1 8 3) + v2)] y1) (fun y3 =>
    (fn_bv (cf 143 [.ref 8, .int (y3 8 3), .ref 1002] y3) (fun y4 =>
    some ((fn_w y4 8 3 ((y4 8 3) + v2)), some (.ref 8)))))))) := rfl
theorem fz_ASB_appendS (n d : Nat) (x : fn_M) : fn_ev 2 (n + 2000) (d + 1) 142 [.ref 8, .ref 1002] x =
  (fn_bi (fn_ev 2 (n + 2000) d 150 [.ref 1002] x) (fun y1 v2 =>
    (fn_bv (fn_ev 2 (n + 2000) d 141 [.ref 8, .int ((y1 8 3) + v2)] y1) (fun y3 =>
    (fn_bv (fn_ev 2 (n + 2000) d 143 [.ref 8, .int (y3 8 3), .ref 1002] y3) (fun y4 =>
    some ((fn_w y4 8 3 ((y4 8 3) + v2)), some (.ref 8)))))))) :=
  fn_ev_t (dd := fn_d142) (lo := [(0, .ref 8), (1, .ref 1002)]) (sp := []) rfl rfl rfl (fy_ASB_appendS (fn_ev 2 (n + 2000) d) (fn_run 2 (fn_ev 2 (n + 2000) d) (fn_lk fn_d142)) (n + 1976) x)
set_option maxRecDepth 20000 in
theorem fy_ASB_putStringAt (cf : Nat → List Value → fn_M → Option fn_R) (K : Nat → fn_K) (m : Nat) (a1 : Int32) (x : fn_M) : fn_runc 2 cf (fn_lk fn_d143) [] K (m + 11) 0 [(0, .ref 8), (1, .int a1), (2, .ref 1002)] [] x =
  (fn_bv (cf 144 [.ref 8, .ref 1002] x) (fun y1 =>
    (fn_bv (cf 152 [.ref 1002, .ref 12, .int a1, .int (y1 8 1)] y1) (fun y2 =>
    some (y2, none))))) := rfl
theorem fz_ASB_putStringAt (n d : Nat) (a1 : Int32) (x : fn_M) : fn_ev 2 (n + 2000) (d + 1) 143 [.ref 8, .int a1, .ref 1002] x =
  (fn_bv (fn_ev 2 (n + 2000) d 144 [.ref 8, .ref 1002] x) (fun y1 =>
    (fn_bv (fn_ev 2 (n + 2000) d 152 [.ref 1002, .ref 12, .int a1, .int (y1 8 1)] y1) (fun y2 =>
    some (y2, none))))) :=
  fn_ev_t (dd := fn_d143) (lo := [(0, .ref 8), (1, .int a1), (2, .ref 1002)]) (sp := []) rfl rfl rfl (fy_ASB_putStringAt (fn_ev 2 (n + 2000) d) (fn_run 2 (fn_ev 2 (n + 2000) d) (fn_lk fn_d143)) (n + 1989) a1 x)
set_option maxRecDepth 20000 in
theorem fy_ASB_inflateIfNeededFor (cf : Nat → List Value → fn_M → Option fn_R) (K : Nat → fn_K) (m : Nat) (x : fn_M) : fn_runc 2 cf (fn_lk fn_d144) [] K (m + 9) 0 [(0, .ref 8), (1, .ref 1002)] [] x =
  (fn_bi (cf 151 [.ref 1002] x) (fun y1 v2 =>
    (if (x 8 1) = v2 then
    some (y1, none)
    else
    none))) := rfl
theorem fz_ASB_inflateIfNeededFor (n d : Nat) (x : fn_M) : fn_ev 2 (n + 2000) (d + 1) 144 [.ref 8, .ref 1002] x =
  (fn_bi (fn_ev 2 (n + 2000) d 151 [.ref 1002] x) (fun y1 v2 =>
    (if (x 8 1) = v2 then
    some (y1, none)
    else
    none))) :=
  fn_ev_t (dd := fn_d144) (lo := [(0, .ref 8), (1, .ref 1002)]) (sp := []) rfl rfl rfl (fy_ASB_inflateIfNeededFor (fn_ev 2 (n + 2000) d) (fn_run 2 (fn_ev 2 (n + 2000) d) (fn_lk fn_d144)) (n + 1991) x)
set_option maxRecDepth 20000 in
theorem fy_ASB_appendI (cf : Nat → List Value → fn_M → Option fn_R) (K : Nat → fn_K) (m : Nat) (a1 : Int32) (x : fn_M) : fn_runc 2 cf (fn_lk fn_d145) [] K (m + 26) 0 [(0, .ref 8), (1, .int a1)] [] x =
  (fn_bi (cf 154 [.int a1] x) (fun y1 v2 =>
    (fn_bv (cf 141 [.ref 8, .int ((x 8 3) + v2)] y1) (fun y3 =>
    (fn_bi (cf 146 [.ref 8] y3) (fun y4 v5 =>
    (if v5 = 0 then
    none
    else
    (fn_bi (cf 155 [.int a1, .int ((x 8 3) + v2), .ref 12] y4) (fun y6 v7 =>
      some ((fn_w y6 8 3 ((x 8 3) + v2)), some (.ref 8))))))))))) := rfl
theorem fz_ASB_appendI (n d : Nat) (a1 : Int32) (x : fn_M) : fn_ev 2 (n + 2000) (d + 1) 145 [.ref 8, .int a1] x =
  (fn_bi (fn_ev 2 (n + 2000) d 154 [.int a1] x) (fun y1 v2 =>
    (fn_bv (fn_ev 2 (n + 2000) d 141 [.ref 8, .int ((x 8 3) + v2)] y1) (fun y3 =>
    (fn_bi (fn_ev 2 (n + 2000) d 146 [.ref 8] y3) (fun y4 v5 =>
    (if v5 = 0 then
    none
    else
    (fn_bi (fn_ev 2 (n + 2000) d 155 [.int a1, .int ((x 8 3) + v2), .ref 12] y4) (fun y6 v7 =>
      some ((fn_w y6 8 3 ((x 8 3) + v2)), some (.ref 8))))))))))) :=
  fn_ev_t (dd := fn_d145) (lo := [(0, .ref 8), (1, .int a1)]) (sp := []) rfl rfl rfl (fy_ASB_appendI (fn_ev 2 (n + 2000) d) (fn_run 2 (fn_ev 2 (n + 2000) d) (fn_lk fn_d145)) (n + 1974) a1 x)
set_option maxRecDepth 20000 in
theorem fy_ASB_isLatin1 (cf : Nat → List Value → fn_M → Option fn_R) (K : Nat → fn_K) (m : Nat) (x : fn_M) : fn_runc 2 cf (fn_lk fn_d146) [] K (m + 8) 0 [(0, .ref 8)] [] x =
  (if (x 8 1) = 0 then
    some (x, some (.int 1))
    else
    some (x, some (.int 0))) := rfl
theorem fz_ASB_isLatin1 (n d : Nat) (x : fn_M) : fn_ev 2 (n + 2000) (d + 1) 146 [.ref 8] x =
  (if (x 8 1) = 0 then
    some (x, some (.int 1))
    else
    some (x, some (.int 0))) :=
  fn_ev_t (dd := fn_d146) (lo := [(0, .ref 8)]) (sp := []) rfl rfl rfl (fy_ASB_isLatin1 (fn_ev 2 (n + 2000) d) (fn_run 2 (fn_ev 2 (n + 2000) d) (fn_lk fn_d146)) (n + 1992) x)
set_option maxRecDepth 20000 in
theorem fy_ASB_appendC (cf : Nat → List Value → fn_M → Option fn_R) (K : Nat → fn_K) (m : Nat) (a1 : Int32) (x : fn_M) : fn_runc 2 cf (fn_lk fn_d147) [] K (m + 27) 0 [(0, .ref 8), (1, .int a1)] [] x =
  (fn_bv (cf 141 [.ref 8, .int ((x 8 3) + 1)] x) (fun y1 =>
    (fn_bi (cf 146 [.ref 8] y1) (fun y2 v3 =>
    (if v3 = 0 then
    (fn_bi (cf 146 [.ref 8] y2) (fun y4 v5 =>
      (if v5 = 0 then
      none
      else
      none)))
    else
    (fn_bi (cf 156 [.int a1] y2) (fun y6 v7 =>
      (if v7 = 0 then
      (fn_bi (cf 146 [.ref 8] y6) (fun y8 v9 =>
        (if v9 = 0 then
        none
        else
        none)))
      else
      (if (y6 8 3) < 0 ∨ 16 ≤ (y6 8 3).toNatClampNeg then
        none
        else
        some ((fn_w (fn_w y6 8 3 ((y6 8 3) + 1)) 12 (y6 8 3).toNatClampNeg ((((a1 : Int32).toInt8.toInt32) : Int32).toInt8.toInt32)), some (.ref 8))))))))))) := rfl
theorem fz_ASB_appendC (n d : Nat) (a1 : Int32) (x : fn_M) : fn_ev 2 (n + 2000) (d + 1) 147 [.ref 8, .int a1] x =
  (fn_bv (fn_ev 2 (n + 2000) d 141 [.ref 8, .int ((x 8 3) + 1)] x) (fun y1 =>
    (fn_bi (fn_ev 2 (n + 2000) d 146 [.ref 8] y1) (fun y2 v3 =>
    (if v3 = 0 then
    (fn_bi (fn_ev 2 (n + 2000) d 146 [.ref 8] y2) (fun y4 v5 =>
      (if v5 = 0 then
      none
      else
      none)))
    else
    (fn_bi (fn_ev 2 (n + 2000) d 156 [.int a1] y2) (fun y6 v7 =>
      (if v7 = 0 then
      (fn_bi (fn_ev 2 (n + 2000) d 146 [.ref 8] y6) (fun y8 v9 =>
        (if v9 = 0 then
        none
        else
        none)))
      else
      (if (y6 8 3) < 0 ∨ 16 ≤ (y6 8 3).toNatClampNeg then
        none
        else
        some ((fn_w (fn_w y6 8 3 ((y6 8 3) + 1)) 12 (y6 8 3).toNatClampNeg ((((a1 : Int32).toInt8.toInt32) : Int32).toInt8.toInt32)), some (.ref 8))))))))))) :=
  fn_ev_t (dd := fn_d147) (lo := [(0, .ref 8), (1, .int a1)]) (sp := []) rfl rfl rfl (fy_ASB_appendC (fn_ev 2 (n + 2000) d) (fn_run 2 (fn_ev 2 (n + 2000) d) (fn_lk fn_d147)) (n + 1973) a1 x)
set_option maxRecDepth 20000 in
theorem fy_Str_length (cf : Nat → List Value → fn_M → Option fn_R) (K : Nat → fn_K) (m : Nat) (x : fn_M) : fn_runc 2 cf (fn_lk fn_d150) [] K (m + 7) 0 [(0, .ref 1002)] [] x =
  (fn_bi (cf 151 [.ref 1002] x) (fun y1 v2 =>
    some (y1, some (.int (5 >>> (v2 &&& 31)))))) := rfl
theorem fz_Str_length (n d : Nat) (x : fn_M) : fn_ev 2 (n + 2000) (d + 1) 150 [.ref 1002] x =
  (fn_bi (fn_ev 2 (n + 2000) d 151 [.ref 1002] x) (fun y1 v2 =>
    some (y1, some (.int (5 >>> (v2 &&& 31)))))) :=
  fn_ev_t (dd := fn_d150) (lo := [(0, .ref 1002)]) (sp := []) rfl rfl rfl (fy_Str_length (fn_ev 2 (n + 2000) d) (fn_run 2 (fn_ev 2 (n + 2000) d) (fn_lk fn_d150)) (n + 1993) x)
set_option maxRecDepth 20000 in
theorem fy_Str_coder (cf : Nat → List Value → fn_M → Option fn_R) (K : Nat → fn_K) (m : Nat) (x : fn_M) : fn_runc 2 cf (fn_lk fn_d151) [] K (m + 6) 0 [(0, .ref 1002)] [] x =
  some (x, some (.int 0)) := rfl
theorem fz_Str_coder (n d : Nat) (x : fn_M) : fn_ev 2 (n + 2000) (d + 1) 151 [.ref 1002] x =
  some (x, some (.int 0)) :=
  fn_ev_t (dd := fn_d151) (lo := [(0, .ref 1002)]) (sp := []) rfl rfl rfl (fy_Str_coder (fn_ev 2 (n + 2000) d) (fn_run 2 (fn_ev 2 (n + 2000) d) (fn_lk fn_d151)) (n + 1994) x)
set_option maxRecDepth 20000 in
theorem fy_Str_getBytes (cf : Nat → List Value → fn_M → Option fn_R) (K : Nat → fn_K) (m : Nat) (a1 a2 : Int32) (x : fn_M) : fn_runc 2 cf (fn_lk fn_d152) [] K (m + 17) 0 [(0, .ref 1002), (1, .ref 12), (2, .int a1), (3, .int a2)] [] x =
  (fn_bi (cf 151 [.ref 1002] x) (fun y1 v2 =>
    (if v2 = a2 then
    (if 1003 = 1003 ∧ (fn_la 2 12).1 = 3 ∧ true = true then
      (if (0 : Int32) < 0 ∨ ((a1 <<< (a2 &&& 31)) : Int32) < 0 ∨ (5 : Int32) < 0 ∨ ¬ 0 + 5 ≤ 5 ∨ ¬ (a1 <<< (a2 &&& 31)).toNatClampNeg + 5 ≤ (fn_la 2 12).2 then
        none
        else
        some ((fn_cp y1 12 0 (a1 <<< (a2 &&& 31)).toNatClampNeg 5), none))
      else
      none)
    else
    none))) := rfl
theorem fz_Str_getBytes (n d : Nat) (a1 a2 : Int32) (x : fn_M) : fn_ev 2 (n + 2000) (d + 1) 152 [.ref 1002, .ref 12, .int a1, .int a2] x =
  (fn_bi (fn_ev 2 (n + 2000) d 151 [.ref 1002] x) (fun y1 v2 =>
    (if v2 = a2 then
    (if 1003 = 1003 ∧ (fn_la 2 12).1 = 3 ∧ true = true then
      (if (0 : Int32) < 0 ∨ ((a1 <<< (a2 &&& 31)) : Int32) < 0 ∨ (5 : Int32) < 0 ∨ ¬ 0 + 5 ≤ 5 ∨ ¬ (a1 <<< (a2 &&& 31)).toNatClampNeg + 5 ≤ (fn_la 2 12).2 then
        none
        else
        some ((fn_cp y1 12 0 (a1 <<< (a2 &&& 31)).toNatClampNeg 5), none))
      else
      none)
    else
    none))) :=
  fn_ev_t (dd := fn_d152) (lo := [(0, .ref 1002), (1, .ref 12), (2, .int a1), (3, .int a2)]) (sp := []) rfl rfl rfl (fy_Str_getBytes (fn_ev 2 (n + 2000) d) (fn_run 2 (fn_ev 2 (n + 2000) d) (fn_lk fn_d152)) (n + 1983) a1 a2 x)
set_option maxRecDepth 20000 in
theorem fy_Int_stringSize (cf : Nat → List Value → fn_M → Option fn_R) (K : Nat → fn_K) (m : Nat) (a1 : Int32) (x : fn_M) : fn_runc 2 cf (fn_lk fn_d154) [11] K (m + 128) 0 [(0, .int a1)] [] x =
  (if a1 < 0 then
    K (m + 124) 11 [(0, .int a1), (1, .int 1)] [] x
    else
    K (m + 119) 11 [(0, .int (-a1)), (1, .int 0)] [] x) := rfl
theorem fz_Int_stringSize (n d : Nat) (a1 : Int32) (x : fn_M) : fn_ev 2 (n + 2000) (d + 1) 154 [.int a1] x =
  (if a1 < 0 then
    fn_run 2 (fn_ev 2 (n + 2000) d) (fn_lk fn_d154) (n + 1996) 11 [(0, .int a1), (1, .int 1)] [] x
    else
    fn_run 2 (fn_ev 2 (n + 2000) d) (fn_lk fn_d154) (n + 1991) 11 [(0, .int (-a1)), (1, .int 0)] [] x) :=
  fn_ev_t (dd := fn_d154) (lo := [(0, .int a1)]) (sp := [11]) rfl rfl rfl (fy_Int_stringSize (fn_ev 2 (n + 2000) d) (fn_run 2 (fn_ev 2 (n + 2000) d) (fn_lk fn_d154)) (n + 1872) a1 x)
set_option maxRecDepth 20000 in
theorem fy_Int_stringSize_at11_0 (cf : Nat → List Value → fn_M → Option fn_R) (K : Nat → fn_K) (m : Nat) (l0 : Int32) (x : fn_M) : fn_runc 2 cf (fn_lk fn_d154) [11] K (m + 119) 11 [(0, .int l0), (1, .int 0)] [] x =
  (if l0 ≤ (-10) then
    (if l0 ≤ (-100) then
      (if l0 ≤ (-1000) then
        (if l0 ≤ (-10000) then
          (if l0 ≤ (-100000) then
            (if l0 ≤ (-1000000) then
              (if l0 ≤ (-10000000) then
                (if l0 ≤ (-100000000) then
                  (if l0 ≤ (-1000000000) then
                    some (x, some (.int 10))
                    else
                    some (x, some (.int 9)))
                  else
                  some (x, some (.int 8)))
                else
                some (x, some (.int 7)))
              else
              some (x, some (.int 6)))
            else
            some (x, some (.int 5)))
          else
          some (x, some (.int 4)))
        else
        some (x, some (.int 3)))
      else
      some (x, some (.int 2)))
    else
    some (x, some (.int 1))) := rfl
theorem fz_Int_stringSize_at11_0 (n d m : Nat) (l0 : Int32) (x : fn_M) : fn_run 2 (fn_ev 2 (n + 2000) d) (fn_lk fn_d154) (m + 119) 11 [(0, .int l0), (1, .int 0)] [] x =
  (if l0 ≤ (-10) then
    (if l0 ≤ (-100) then
      (if l0 ≤ (-1000) then
        (if l0 ≤ (-10000) then
          (if l0 ≤ (-100000) then
            (if l0 ≤ (-1000000) then
              (if l0 ≤ (-10000000) then
                (if l0 ≤ (-100000000) then
                  (if l0 ≤ (-1000000000) then
                    some (x, some (.int 10))
                    else
                    some (x, some (.int 9)))
                  else
                  some (x, some (.int 8)))
                else
                some (x, some (.int 7)))
              else
              some (x, some (.int 6)))
            else
            some (x, some (.int 5)))
          else
          some (x, some (.int 4)))
        else
        some (x, some (.int 3)))
      else
      some (x, some (.int 2)))
    else
    some (x, some (.int 1))) :=
  (fn_runc_eq 2 (fn_ev 2 (n + 2000) d) (fn_lk fn_d154) [11] (m + 119) 11 [(0, .int l0), (1, .int 0)] [] x).trans (fy_Int_stringSize_at11_0 (fn_ev 2 (n + 2000) d) (fn_run 2 (fn_ev 2 (n + 2000) d) (fn_lk fn_d154)) m l0 x)
set_option maxRecDepth 20000 in
theorem fy_Int_stringSize_at11_1 (cf : Nat → List Value → fn_M → Option fn_R) (K : Nat → fn_K) (m : Nat) (l0 : Int32) (x : fn_M) : fn_runc 2 cf (fn_lk fn_d154) [11] K (m + 119) 11 [(0, .int l0), (1, .int 1)] [] x =
  (if l0 ≤ (-10) then
    (if l0 ≤ (-100) then
      (if l0 ≤ (-1000) then
        (if l0 ≤ (-10000) then
          (if l0 ≤ (-100000) then
            (if l0 ≤ (-1000000) then
              (if l0 ≤ (-10000000) then
                (if l0 ≤ (-100000000) then
                  (if l0 ≤ (-1000000000) then
                    some (x, some (.int 11))
                    else
                    some (x, some (.int 10)))
                  else
                  some (x, some (.int 9)))
                else
                some (x, some (.int 8)))
              else
              some (x, some (.int 7)))
            else
            some (x, some (.int 6)))
          else
          some (x, some (.int 5)))
        else
        some (x, some (.int 4)))
      else
      some (x, some (.int 3)))
    else
    some (x, some (.int 2))) := rfl
theorem fz_Int_stringSize_at11_1 (n d m : Nat) (l0 : Int32) (x : fn_M) : fn_run 2 (fn_ev 2 (n + 2000) d) (fn_lk fn_d154) (m + 119) 11 [(0, .int l0), (1, .int 1)] [] x =
  (if l0 ≤ (-10) then
    (if l0 ≤ (-100) then
      (if l0 ≤ (-1000) then
        (if l0 ≤ (-10000) then
          (if l0 ≤ (-100000) then
            (if l0 ≤ (-1000000) then
              (if l0 ≤ (-10000000) then
                (if l0 ≤ (-100000000) then
                  (if l0 ≤ (-1000000000) then
                    some (x, some (.int 11))
                    else
                    some (x, some (.int 10)))
                  else
                  some (x, some (.int 9)))
                else
                some (x, some (.int 8)))
              else
              some (x, some (.int 7)))
            else
            some (x, some (.int 6)))
          else
          some (x, some (.int 5)))
        else
        some (x, some (.int 4)))
      else
      some (x, some (.int 3)))
    else
    some (x, some (.int 2))) :=
  (fn_runc_eq 2 (fn_ev 2 (n + 2000) d) (fn_lk fn_d154) [11] (m + 119) 11 [(0, .int l0), (1, .int 1)] [] x).trans (fy_Int_stringSize_at11_1 (fn_ev 2 (n + 2000) d) (fn_run 2 (fn_ev 2 (n + 2000) d) (fn_lk fn_d154)) m l0 x)
set_option maxRecDepth 20000 in
theorem fy_Int_getChars (cf : Nat → List Value → fn_M → Option fn_R) (K : Nat → fn_K) (m : Nat) (a1 a2 : Int32) (x : fn_M) : fn_runc 2 cf (fn_lk fn_d155) [22] K (m + 11) 0 [(0, .int a1), (1, .int a2), (2, .ref 12)] [] x =
  (if 0 ≤ a1 then
    K (m + 0) 22 [(0, .int (-a1)), (1, .int a2), (2, .ref 12), (5, .int a2), (6, .int 0)] [] x
    else
    K (m + 2) 22 [(0, .int a1), (1, .int a2), (2, .ref 12), (5, .int a2), (6, .int 1)] [] x) := rfl
theorem fz_Int_getChars (n d : Nat) (a1 a2 : Int32) (x : fn_M) : fn_ev 2 (n + 2000) (d + 1) 155 [.int a1, .int a2, .ref 12] x =
  (if 0 ≤ a1 then
    fn_run 2 (fn_ev 2 (n + 2000) d) (fn_lk fn_d155) (n + 1989) 22 [(0, .int (-a1)), (1, .int a2), (2, .ref 12), (5, .int a2), (6, .int 0)] [] x
    else
    fn_run 2 (fn_ev 2 (n + 2000) d) (fn_lk fn_d155) (n + 1991) 22 [(0, .int a1), (1, .int a2), (2, .ref 12), (5, .int a2), (6, .int 1)] [] x) :=
  fn_ev_t (dd := fn_d155) (lo := [(0, .int a1), (1, .int a2), (2, .ref 12)]) (sp := [22]) rfl rfl rfl (fy_Int_getChars (fn_ev 2 (n + 2000) d) (fn_run 2 (fn_ev 2 (n + 2000) d) (fn_lk fn_d155)) (n + 1989) a1 a2 x)
set_option maxRecDepth 20000 in
theorem fy_Lat_canEncode (cf : Nat → List Value → fn_M → Option fn_R) (K : Nat → fn_K) (m : Nat) (a1 : Int32) (x : fn_M) : fn_runc 2 cf (fn_lk fn_d156) [] K (m + 6) 0 [(0, .int a1)] [] x =
  (if 255 < a1 then
    some (x, some (.int 0))
    else
    some (x, some (.int 1))) := rfl
theorem fz_Lat_canEncode (n d : Nat) (a1 : Int32) (x : fn_M) : fn_ev 2 (n + 2000) (d + 1) 156 [.int a1] x =
  (if 255 < a1 then
    some (x, some (.int 0))
    else
    some (x, some (.int 1))) :=
  fn_ev_t (dd := fn_d156) (lo := [(0, .int a1)]) (sp := []) rfl rfl rfl (fy_Lat_canEncode (fn_ev 2 (n + 2000) d) (fn_run 2 (fn_ev 2 (n + 2000) d) (fn_lk fn_d156)) (n + 1994) a1 x)

