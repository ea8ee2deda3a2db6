set_option maxRecDepth 20000 in
theorem fc_SB_length_1 (cf : Nat → List Value → fn_M → Option fn_R) (K : Nat → fn_K) (m : Nat) (x : fn_M) : fn_runc 0 cf (fn_lk fn_d138) [] K (m + 3) 0 [(0, .ref 37)] [] x =
  (fn_bi (cf 148 [.ref 37] x) (fun y1 v2 =>
    some (y1, some (.int v2)))) := rfl
theorem ft_SB_length_1 (n d : Nat) (x : fn_M) : fn_ev 0 (n + 2000) (d + 1) 138 [.ref 37] x =
  (fn_bi (fn_ev 0 (n + 2000) d 148 [.ref 37] x) (fun y1 v2 =>
    some (y1, some (.int v2)))) :=
  fn_ev_t (dd := fn_d138) (lo := [(0, .ref 37)]) (sp := []) rfl rfl rfl (fc_SB_length_1 (fn_ev 0 (n + 2000) d) (fn_run 0 (fn_ev 0 (n + 2000) d) (fn_lk fn_d138)) (n + 1997) x)
set_option maxRecDepth 20000 in
theorem fc_SB_length_2 (cf : Nat → List Value → fn_M → Option fn_R) (K : Nat → fn_K) (m : Nat) (x : fn_M) : fn_runc 0 cf (fn_lk fn_d138) [] K (m + 3) 0 [(0, .ref 38)] [] x =
  (fn_bi (cf 148 [.ref 38] x) (fun y1 v2 =>
    some (y1, some (.int v2)))) := rfl
theorem ft_SB_length_2 (n d : Nat) (x : fn_M) : fn_ev 0 (n + 2000) (d + 1) 138 [.ref 38] x =
  (fn_bi (fn_ev 0 (n + 2000) d 148 [.ref 38] x) (fun y1 v2 =>
    some (y1, some (.int v2)))) :=
  fn_ev_t (dd := fn_d138) (lo := [(0, .ref 38)]) (sp := []) rfl rfl rfl (fc_SB_length_2 (fn_ev 0 (n + 2000) d) (fn_run 0 (fn_ev 0 (n + 2000) d) (fn_lk fn_d138)) (n + 1997) x)
set_option maxRecDepth 20000 in
theorem fc_SB_length_3 (cf : Nat → List Value → fn_M → Option fn_R) (K : Nat → fn_K) (m : Nat) (x : fn_M) : fn_runc 0 cf (fn_lk fn_d138) [] K (m + 3) 0 [(0, .ref 39)] [] x =
  (fn_bi (cf 148 [.ref 39] x) (fun y1 v2 =>
    some (y1, some (.int v2)))) := rfl
theorem ft_SB_length_3 (n d : Nat) (x : fn_M) : fn_ev 0 (n + 2000) (d + 1) 138 [.ref 39] x =
  (fn_bi (fn_ev 0 (n + 2000) d 148 [.ref 39] x) (fun y1 v2 =>
    some (y1, some (.int v2)))) :=
  fn_ev_t (dd := fn_d138) (lo := [(0, .ref 39)]) (sp := []) rfl rfl rfl (fc_SB_length_3 (fn_ev 0 (n + 2000) d) (fn_run 0 (fn_ev 0 (n + 2000) d) (fn_lk fn_d138)) (n + 1997) x)
set_option maxRecDepth 20000 in
theorem fc_SB_length_4 (cf : Nat → List Value → fn_M → Option fn_R) (K : Nat → fn_K) (m : Nat) (x : fn_M) : fn_runc 0 cf (fn_lk fn_d138) [] K (m + 3) 0 [(0, .ref 40)] [] x =
  (fn_bi (cf 148 [.ref 40] x) (fun y1 v2 =>
    some (y1, some (.int v2)))) := rfl
theorem ft_SB_length_4 (n d : Nat) (x : fn_M) : fn_ev 0 (n + 2000) (d + 1) 138 [.ref 40] x =
  (fn_bi (fn_ev 0 (n + 2000) d 148 [.ref 40] x) (fun y1 v2 =>
    some (y1, some (.int v2)))) :=
  fn_ev_t (dd := fn_d138) (lo := [(0, .ref 40)]) (sp := []) rfl rfl rfl (fc_SB_length_4 (fn_ev 0 (n + 2000) d) (fn_run 0 (fn_ev 0 (n + 2000) d) (fn_lk fn_d138)) (n + 1997) x)
set_option maxRecDepth 20000 in
theorem fc_SB_charAt_1 (cf : Nat → List Value → fn_M → Option fn_R) (K : Nat → fn_K) (m : Nat) (a1 : Int32) (x : fn_M) : fn_runc 0 cf (fn_lk fn_d139) [] K (m + 4) 0 [(0, .ref 37), (1, .int a1)] [] x =
  (fn_bi (cf 149 [.ref 37, .int a1] x) (fun y1 v2 =>
    (if 0 ≤ v2 ∧ v2 ≤ 65535 then
    some (y1, some (.int v2))
    else
    none))) := rfl
theorem ft_SB_charAt_1 (n d : Nat) (a1 : Int32) (x : fn_M) : fn_ev 0 (n + 2000) (d + 1) 139 [.ref 37, .int a1] x =
  (fn_bi (fn_ev 0 (n + 2000) d 149 [.ref 37, .int a1] x) (fun y1 v2 =>
    (if 0 ≤ v2 ∧ v2 ≤ 65535 then
    some (y1, some (.int v2))
    else
    none))) :=
  fn_ev_t (dd := fn_d139) (lo := [(0, .ref 37), (1, .int a1)]) (sp := []) rfl rfl rfl (fc_SB_charAt_1 (fn_ev 0 (n + 2000) d) (fn_run 0 (fn_ev 0 (n + 2000) d) (fn_lk fn_d139)) (n + 1996) a1 x)
set_option maxRecDepth 20000 in
theorem fc_SB_charAt_2 (cf : Nat → List Value → fn_M → Option fn_R) (K : Nat → fn_K) (m : Nat) (a1 : Int32) (x : fn_M) : fn_runc 0 cf (fn_lk fn_d139) [] K (m + 4) 0 [(0, .ref 38), (1, .int a1)] [] x =
  (fn_bi (cf 149 [.ref 38, .int a1] x) (fun y1 v2 =>
    (if 0 ≤ v2 ∧ v2 ≤ 65535 then
    some (y1, some (.int v2))
    else
    none))) := rfl
theorem ft_SB_charAt_2 (n d : Nat) (a1 : Int32) (x : fn_M) : fn_ev 0 (n + 2000) (d + 1) 139 [.ref 38, .int a1] x =
  (fn_bi (fn_ev 0 (n + 2000) d 149 [.ref 38, .int a1] x) (fun y1 v2 =>
    (if 0 ≤ v2 ∧ v2 ≤ 65535 then
    some (y1, some (.int v2))
    else
    none))) :=
  fn_ev_t (dd := fn_d139) (lo := [(0, .ref 38), (1, .int a1)]) (sp := []) rfl rfl rfl (fc_SB_charAt_2 (fn_ev 0 (n + 2000) d) (fn_run 0 (fn_ev 0 (n + 2000) d) (fn_lk fn_d139)) (n + 1996) a1 x)
set_option maxRecDepth 20000 in
theorem fc_SB_charAt_3 (cf : Nat → List Value → fn_M → Option fn_R) (K : Nat → fn_K) (m : Nat) (a1 : Int32) (x : fn_M) : fn_runc 0 cf (fn_lk fn_d139) [] K (m + 4) 0 [(0, .ref 39), (1, .int a1)] [] x =
  (fn_bi (cf 149 [.ref 39, .int a1] x) (fun y1 v2 =>
    (if 0 ≤ v2 ∧ v2 ≤ 65535 then
    some (y1, some (.int v2))
    else
    none))) := rfl
theorem ft_SB_charAt_3 (n d : Nat) (a1 : Int32) (x : fn_M) : fn_ev 0 (n + 2000) (d + 1) 139 [.ref 39, .int a1] x =
  (fn_bi (fn_ev 0 (n + 2000) d 149 [.ref 39, .int a1] x) (fun y1 v2 =>
    (if 0 ≤ v2 ∧ v2 ≤ 65535 then
    some (y1, some (.int v2))
    else
    none))) :=
  fn_ev_t (dd := fn_d139) (lo := [(0, .ref 39), (1, .int a1)]) (sp := []) rfl rfl rfl (fc_SB_charAt_3 (fn_ev 0 (n + 2000) d) (fn_run 0 (fn_ev 0 (n + 2000) d) (fn_lk fn_d139)) (n + 1996) a1 x)
set_option maxRecDepth 20000 in
theorem fc_SB_charAt_4 (cf : Nat → List Value → fn_M → Option fn_R) (K : Nat → fn_K) (m : Nat) (a1 : Int32) (x : fn_M) : fn_runc 0 cf (fn_lk fn_d139) [] K (m + 4) 0 [(0, .ref 40), (1, .int a1)] [] x =
  (fn_bi (cf 149 [.ref 40, .int a1] x) (fun y1 v2 =>
    (if 0 ≤ v2 ∧ v2 ≤ 65535 then
    some (y1, some (.int v2))
    else
    none))) := rfl
theorem ft_SB_charAt_4 (n d : Nat) (a1 : Int32) (x : fn_M) : fn_ev 0 (n + 2000) (d + 1) 139 [.ref 40, .int a1] x =
  (fn_bi (fn_ev 0 (n + 2000) d 149 [.ref 40, .int a1] x) (fun y1 v2 =>
    (if 0 ≤ v2 ∧ v2 ≤ 65535 then
    some (y1, some (.int v2))
    else
    none))) :=
  fn_ev_t (dd := fn_d139) (lo := [(0, .ref 40), (1, .int a1)]) (sp := []) rfl rfl rfl (fc_SB_charAt_4 (fn_ev 0 (n + 2000) d) (fn_run 0 (fn_ev 0 (n + 2000) d) (fn_lk fn_d139)) (n + 1996) a1 x)
set_option maxRecDepth 20000 in
theorem fc_ASB_isLatin1_1 (cf : Nat → List Value → fn_M → Option fn_R) (K : Nat → fn_K) (m : Nat) (x : fn_M) : fn_runc 0 cf (fn_lk fn_d146) [] K (m + 8) 0 [(0, .ref 37)] [] x =
  (if (x 37 1) = 0 then
    some (x, some (.int 1))
    else
    some (x, some (.int 0))) := rfl
theorem ft_ASB_isLatin1_1 (n d : Nat) (x : fn_M) : fn_ev 0 (n + 2000) (d + 1) 146 [.ref 37] x =
  (if (x 37 1) = 0 then
    some (x, some (.int 1))
    else
    some (x, some (.int 0))) :=
  fn_ev_t (dd := fn_d146) (lo := [(0, .ref 37)]) (sp := []) rfl rfl rfl (fc_ASB_isLatin1_1 (fn_ev 0 (n + 2000) d) (fn_run 0 (fn_ev 0 (n + 2000) d) (fn_lk fn_d146)) (n + 1992) x)
set_option maxRecDepth 20000 in
theorem fc_ASB_isLatin1_2 (cf : Nat → List Value → fn_M → Option fn_R) (K : Nat → fn_K) (m : Nat) (x : fn_M) : fn_runc 0 cf (fn_lk fn_d146) [] K (m + 8) 0 [(0, .ref 38)] [] x =
  (if (x 38 1) = 0 then
    some (x, some (.int 1))
    else
    some (x, some (.int 0))) := rfl
theorem ft_ASB_isLatin1_2 (n d : Nat) (x : fn_M) : fn_ev 0 (n + 2000) (d + 1) 146 [.ref 38] x =
  (if (x 38 1) = 0 then
    some (x, some (.int 1))
    else
    some (x, some (.int 0))) :=
  fn_ev_t (dd := fn_d146) (lo := [(0, .ref 38)]) (sp := []) rfl rfl rfl (fc_ASB_isLatin1_2 (fn_ev 0 (n + 2000) d) (fn_run 0 (fn_ev 0 (n + 2000) d) (fn_lk fn_d146)) (n + 1992) x)
set_option maxRecDepth 20000 in
theorem fc_ASB_isLatin1_3 (cf : Nat → List Value → fn_M → Option fn_R) (K : Nat → fn_K) (m : Nat) (x : fn_M) : fn_runc 0 cf (fn_lk fn_d146) [] K (m + 8) 0 [(0, .ref 39)] [] x =
  (if (x 39 1) = 0 then
    some (x, some (.int 1))
    else
    some (x, some (.int 0))) := rfl
theorem ft_ASB_isLatin1_3 (n d : Nat) (x : fn_M) : fn_ev 0 (n + 2000) (d + 1) 146 [.ref 39] x =
  (if (x 39 1) = 0 then
    some (x, some (.int 1))
    else
    some (x, some (.int 0))) :=
  fn_ev_t (dd := fn_d146) (lo := [(0, .ref 39)]) (sp := []) rfl rfl rfl (fc_ASB_isLatin1_3 (fn_ev 0 (n + 2000) d) (fn_run 0 (fn_ev 0 (n + 2000) d) (fn_lk fn_d146)) (n + 1992) x)
set_option maxRecDepth 20000 in
theorem fc_ASB_isLatin1_4 (cf : Nat → List Value → fn_M → Option fn_R) (K : Nat → fn_K) (m : Nat) (x : fn_M) : fn_runc 0 cf (fn_lk fn_d146) [] K (m + 8) 0 [(0, .ref 40)] [] x =
  (if (x 40 1) = 0 then
    some (x, some (.int 1))
    else
    some (x, some (.int 0))) := rfl
theorem ft_ASB_isLatin1_4 (n d : Nat) (x : fn_M) : fn_ev 0 (n + 2000) (d + 1) 146 [.ref 40] x =
  (if (x 40 1) = 0 then
    some (x, some (.int 1))
    else
    some (x, some (.int 0))) :=
  fn_ev_t (dd := fn_d146) (lo := [(0, .ref 40)]) (sp := []) rfl rfl rfl (fc_ASB_isLatin1_4 (fn_ev 0 (n + 2000) d) (fn_run 0 (fn_ev 0 (n + 2000) d) (fn_lk fn_d146)) (n + 1992) x)
set_option maxRecDepth 20000 in
theorem fc_ASB_length_1 (cf : Nat → List Value → fn_M → Option fn_R) (K : Nat → fn_K) (m : Nat) (x : fn_M) : fn_runc 0 cf (fn_lk fn_d148) [] K (m + 3) 0 [(0, .ref 37)] [] x =
  some (x, some (.int (x 37 3))) := rfl
theorem ft_ASB_length_1 (n d : Nat) (x : fn_M) : fn_ev 0 (n + 2000) (d + 1) 148 [.ref 37] x =
  some (x, some (.int (x 37 3))) :=
  fn_ev_t (dd := fn_d148) (lo := [(0, .ref 37)]) (sp := []) rfl rfl rfl (fc_ASB_length_1 (fn_ev 0 (n + 2000) d) (fn_run 0 (fn_ev 0 (n + 2000) d) (fn_lk fn_d148)) (n + 1997) x)
set_option maxRecDepth 20000 in
theorem fc_ASB_length_2 (cf : Nat → List Value → fn_M → Option fn_R) (K : Nat → fn_K) (m : Nat) (x : fn_M) : fn_runc 0 cf (fn_lk fn_d148) [] K (m + 3) 0 [(0, .ref 38)] [] x =
  some (x, some (.int (x 38 3))) := rfl
theorem ft_ASB_length_2 (n d : Nat) (x : fn_M) : fn_ev 0 (n + 2000) (d + 1) 148 [.ref 38] x =
  some (x, some (.int (x 38 3))) :=
  fn_ev_t (dd := fn_d148) (lo := [(0, .ref 38)]) (sp := []) rfl rfl rfl (fc_ASB_length_2 (fn_ev 0 (n + 2000) d) (fn_run 0 (fn_ev 0 (n + 2000) d) (fn_lk fn_d148)) (n + 1997) x)
set_option maxRecDepth 20000 in
theorem fc_ASB_length_3 (cf : Nat → List Value → fn_M → Option fn_R) (K : Nat → fn_K) (m : Nat) (x : fn_M) : fn_runc 0 cf (fn_lk fn_d148) [] K (m + 3) 0 [(0, .ref 39)] [] x =
  some (x, some (.int (x 39 3))) := rfl
theorem ft_ASB_length_3 (n d : Nat) (x : fn_M) : fn_ev 0 (n + 2000) (d + 1) 148 [.ref 39] x =
  some (x, some (.int (x 39 3))) :=
  fn_ev_t (dd := fn_d148) (lo := [(0, .ref 39)]) (sp := []) rfl rfl rfl (fc_ASB_length_3 (fn_ev 0 (n + 2000) d) (fn_run 0 (fn_ev 0 (n + 2000) d) (fn_lk fn_d148)) (n + 1997) x)
set_option maxRecDepth 20000 in
theorem fc_ASB_length_4 (cf : Nat → List Value → fn_M → Option fn_R) (K : Nat → fn_K) (m : Nat) (x : fn_M) : fn_runc 0 cf (fn_lk fn_d148) [] K (m + 3) 0 [(0, .ref 40)] [] x =
  some (x, some (.int (x 40 3))) := rfl
theorem ft_ASB_length_4 (n d : Nat) (x : fn_M) : fn_ev 0 (n + 2000) (d + 1) 148 [.ref 40] x =
  some (x, some (.int (x 40 3))) :=
  fn_ev_t (dd := fn_d148) (lo := [(0, .ref 40)]) (sp := []) rfl rfl rfl (fc_ASB_length_4 (fn_ev 0 (n + 2000) d) (fn_run 0 (fn_ev 0 (n + 2000) d) (fn_lk fn_d148)) (n + 1997) x)
set_option maxRecDepth 20000 in
theorem fc_ASB_charAt_1 (cf : Nat → List Value → fn_M → Option fn_R) (K : Nat → fn_K) (m : Nat) (a1 : Int32) (x : fn_M) : fn_runc 0 cf (fn_lk fn_d149) [] K (m + 26) 0 [(0, .ref 37), (1, .int a1)] [] x =
  (fn_bi (cf 157 [.int (x 37 3), .int (16 >>> ((x 37 1) &&& 31))] x) (fun y1 v2 =>
    (fn_bv (cf 153 [.int a1, .int v2] y1) (fun y3 =>
    (if (x 37 1) = 0 then
    (if a1 < 0 ∨ 16 ≤ a1.toNatClampNeg then
      none
      else
      (if 0 ≤ (((y3 41 a1.toNatClampNeg) &&& 255).toUInt32 % 65536).toInt32 ∧ (((y3 41 a1.toNatClampNeg) &&& 255).toUInt32 % 65536).toInt32 ≤ 65535 then
        some (y3, some (.int (((y3 41 a1.toNatClampNeg) &&& 255).toUInt32 % 65536).toInt32))
        else
        none))
    else
    none))))) := rfl
theorem ft_ASB_charAt_1 (n d : Nat) (a1 : Int32) (x : fn_M) : fn_ev 0 (n + 2000) (d + 1) 149 [.ref 37, .int a1] x =
  (fn_bi (fn_ev 0 (n + 2000) d 157 [.int (x 37 3), .int (16 >>> ((x 37 1) &&& 31))] x) (fun y1 v2 =>
    (fn_bv (fn_ev 0 (n + 2000) d 153 [.int a1, .int v2] y1) (fun y3 =>
    (if (x 37 1) = 0 then
    (if a1 < 0 ∨ 16 ≤ a1.toNatClampNeg then
      none
      else
      (if 0 ≤ (((y3 41 a1.toNatClampNeg) &&& 255).toUInt32 % 65536).toInt32 ∧ (((y3 41 a1.toNatClampNeg) &&& 255).toUInt32 % 65536).toInt32 ≤ 65535 then
        some (y3, some (.int (((y3 41 a1.toNatClampNeg) &&& 255).toUInt32 % 65536).toInt32))
        else
        none))
    else
    none))))) :=
  fn_ev_t (dd := fn_d149) (lo := [(0, .ref 37), (1, .int a1)]) (sp := []) rfl rfl rfl (fc_ASB_charAt_1 (fn_ev 0 (n + 2000) d) (fn_run 0 (fn_ev 0 (n + 2000) d) (fn_lk fn_d149)) (n + 1974) a1 x)
set_option maxRecDepth 20000 in
theorem fc_ASB_charAt_2 (cf : Nat → List Value → fn_M → Option fn_R) (K : Nat → fn_K) (m : Nat) (a1 : Int32) (x : fn_M) : fn_runc 0 cf (fn_lk fn_d149) [] K (m + 26) 0 [(0, .ref 38), (1, .int a1)] [] x =
  (fn_bi (cf 157 [.int (x 38 3), .int (16 >>> ((x 38 1) &&& 31))] x) (fun y1 v2 =>
    (fn_bv (cf 153 [.int a1, .int v2] y1) (fun y3 =>
    (if (x 38 1) = 0 then
    (if a1 < 0 ∨ 16 ≤ a1.toNatClampNeg then
      none
      else
      (if 0 ≤ (((y3 42 a1.toNatClampNeg) &&& 255).toUInt32 % 65536).toInt32 ∧ (((y3 42 a1.toNatClampNeg) &&& 255).toUInt32 % 65536).toInt32 ≤ 65535 then
        some (y3, some (.int (((y3 42 a1.toNatClampNeg) &&& 255).toUInt32 % 65536).toInt32))
        else
        none))
    else
    none))))) := rfl
theorem ft_ASB_charAt_2 (n d : Nat) (a1 : Int32) (x : fn_M) : fn_ev 0 (n + 2000) (d + 1) 149 [.ref 38, .int a1] x =
  (fn_bi (fn_ev 0 (n + 2000) d 157 [.int (x 38 3), .int (16 >>> ((x 38 1) &&& 31))] x) (fun y1 v2 =>
    (fn_bv (fn_ev 0 (n + 2000) d 153 [.int a1, .int v2] y1) (fun y3 =>
    (if (x 38 1) = 0 then
    (if a1 < 0 ∨ 16 ≤ a1.toNatClampNeg then
      none
      else
      (if 0 ≤ (((y3 42 a1.toNatClampNeg) &&& 255).toUInt32 % 65536).toInt32 ∧ (((y3 42 a1.toNatClampNeg) &&& 255).toUInt32 % 65536).toInt32 ≤ 65535 then
        some (y3, some (.int (((y3 42 a1.toNatClampNeg) &&& 255).toUInt32 % 65536).toInt32))
        else
        none))
    else
    none))))) :=
  fn_ev_t (dd := fn_d149) (lo := [(0, .ref 38), (1, .int a1)]) (sp := []) rfl rfl rfl (fc_ASB_charAt_2 (fn_ev 0 (n + 2000) d) (fn_run 0 (fn_ev 0 (n + 2000) d) (fn_lk fn_d149)) (n + 1974) a1 x)
set_option maxRecDepth 20000 in
theorem fc_ASB_charAt_3 (cf : Nat → List Value → fn_M → Option fn_R) (K : Nat → fn_K) (m : Nat) (a1 : Int32) (x : fn_M) : fn_runc 0 cf (fn_lk fn_d149) [] K (m + 26) 0 [(0, .ref 39), (1, .int a1)] [] x =
  (fn_bi (cf 157 [.int (x 39 3), .int (16 >>> ((x 39 1) &&& 31))] x) (fun y1 v2 =>
    (fn_bv (cf 153 [.int a1, .int v2] y1) (fun y3 =>
    (if (x 39 1) = 0 then
    (if a1 < 0 ∨ 16 ≤ a1.toNatClampNeg then
      none
      else
      (if 0 ≤ (((y3 43 a1.toNatClampNeg) &&& 255).toUInt32 % 65536).toInt32 ∧ (((y3 43 a1.toNatClampNeg) &&& 255).toUInt32 % 65536).toInt32 ≤ 65535 then
        some (y3, some (.int (((y3 43 a1.toNatClampNeg) &&& 255).toUInt32 % 65536).toInt32))
        else
        none))
    else
    none))))) := rfl
theorem ft_ASB_charAt_3 (n d : Nat) (a1 : Int32) (x : fn_M) : fn_ev 0 (n + 2000) (d + 1) 149 [.ref 39, .int a1] x =
  (fn_bi (fn_ev 0 (n + 2000) d 157 [.int (x 39 3), .int (16 >>> ((x 39 1) &&& 31))] x) (fun y1 v2 =>
    (fn_bv (fn_ev 0 (n + 2000) d 153 [.int a1, .int v2] y1) (fun y3 =>
    (if (x 39 1) = 0 then
    (if a1 < 0 ∨ 16 ≤ a1.toNatClampNeg then
      none
      else
      (if 0 ≤ (((y3 43 a1.toNatClampNeg) &&& 255).toUInt32 % 65536).toInt32 ∧ (((y3 43 a1.toNatClampNeg) &&& 255).toUInt32 % 65536).toInt32 ≤ 65535 then
        some (y3, some (.int (((y3 43 a1.toNatClampNeg) &&& 255).toUInt32 % 65536).toInt32))
        else
        none))
    else
    none))))) :=
  fn_ev_t (dd := fn_d149) (lo := [(0, .ref 39), (1, .int a1)]) (sp := []) rfl rfl rfl (fc_ASB_charAt_3 (fn_ev 0 (n + 2000) d) (fn_run 0 (fn_ev 0 (n + 2000) d) (fn_lk fn_d149)) (n + 1974) a1 x)
set_option maxRecDepth 20000 in
theorem fc_ASB_charAt_4 (cf : Nat → List Value → fn_M → Option fn_R) (K : Nat → fn_K) (m : Nat) (a1 : Int32) (x : fn_M) : fn_runc 0 cf (fn_lk fn_d149) [] K (m + 26) 0 [(0, .ref 40), (1, .int a1)] [] x =
  (fn_bi (cf 157 [.int (x 40 3), .int (16 >>> ((x 40 1) &&& 31))] x) (fun y1 v2 =>
    (fn_bv (cf 153 [.int a1, .int v2] y1) (fun y3 =>
    (if (x 40 1) = 0 then
    (if a1 < 0 ∨ 16 ≤ a1.toNatClampNeg then
      none
      else
      (if 0 ≤ (((y3 44 a1.toNatClampNeg) &&& 255).toUInt32 % 65536).toInt32 ∧ (((y3 44 a1.toNatClampNeg) &&& 255).toUInt32 % 65536).toInt32 ≤ 65535 then
        some (y3, some (.int (((y3 44 a1.toNatClampNeg) &&& 255).toUInt32 % 65536).toInt32))
        else
        none))
    else
    none))))) := rfl
theorem ft_ASB_charAt_4 (n d : Nat) (a1 : Int32) (x : fn_M) : fn_ev 0 (n + 2000) (d + 1) 149 [.ref 40, .int a1] x =
  (fn_bi (fn_ev 0 (n + 2000) d 157 [.int (x 40 3), .int (16 >>> ((x 40 1) &&& 31))] x) (fun y1 v2 =>
    (fn_bv (fn_ev 0 (n + 2000) d 153 [.int a1, .int v2] y1) (fun y3 =>
    (if (x 40 1) = 0 then
    (if a1 < 0 ∨ 16 ≤ a1.toNatClampNeg then
      none
      else
      (if 0 ≤ (((y3 44 a1.toNatClampNeg) &&& 255).toUInt32 % 65536).toInt32 ∧ (((y3 44 a1.toNatClampNeg) &&& 255).toUInt32 % 65536).toInt32 ≤ 65535 then
        some (y3, some (.int (((y3 44 a1.toNatClampNeg) &&& 255).toUInt32 % 65536).toInt32))
        else
        none))
    else
    none))))) :=
  fn_ev_t (dd := fn_d149) (lo := [(0, .ref 40), (1, .int a1)]) (sp := []) rfl rfl rfl (fc_ASB_charAt_4 (fn_ev 0 (n + 2000) d) (fn_run 0 (fn_ev 0 (n + 2000) d) (fn_lk fn_d149)) (n + 1974) a1 x)
set_option maxRecDepth 20000 in
theorem fc_Str_checkIndex (cf : Nat → List Value → fn_M → Option fn_R) (K : Nat → fn_K) (m : Nat) (a1 a2 : Int32) (x : fn_M) : fn_runc 0 cf (fn_lk fn_d153) [] K (m + 6) 0 [(0, .int a1), (1, .int a2)] [] x =
  (fn_bi (cf 158 [.int a1, .int a2, .float 0] x) (fun y1 v2 =>
    some (y1, none))) := rfl
theorem ft_Str_checkIndex (n d : Nat) (a1 a2 : Int32) (x : fn_M) : fn_ev 0 (n + 2000) (d + 1) 153 [.int a1, .int a2] x =
  (fn_bi (fn_ev 0 (n + 2000) d 158 [.int a1, .int a2, .float 0] x) (fun y1 v2 =>
    some (y1, none))) :=
  fn_ev_t (dd := fn_d153) (lo := [(0, .int a1), (1, .int a2)]) (sp := []) rfl rfl rfl (fc_Str_checkIndex (fn_ev 0 (n + 2000) d) (fn_run 0 (fn_ev 0 (n + 2000) d) (fn_lk fn_d153)) (n + 1994) a1 a2 x)
set_option maxRecDepth 20000 in
theorem fc_Math_min (cf : Nat → List Value → fn_M → Option fn_R) (K : Nat → fn_K) (m : Nat) (a1 a2 : Int32) (x : fn_M) : fn_runc 0 cf (fn_lk fn_d157) [] K (m + 6) 0 [(0, .int a1), (1, .int a2)] [] x =
  (if a2 < a1 then
    some (x, some (.int a2))
    else
    some (x, some (.int a1))) := rfl
theorem ft_Math_min (n d : Nat) (a1 a2 : Int32) (x : fn_M) : fn_ev 0 (n + 2000) (d + 1) 157 [.int a1, .int a2] x =
  (if a2 < a1 then
    some (x, some (.int a2))
    else
    some (x, some (.int a1))) :=
  fn_ev_t (dd := fn_d157) (lo := [(0, .int a1), (1, .int a2)]) (sp := []) rfl rfl rfl (fc_Math_min (fn_ev 0 (n + 2000) d) (fn_run 0 (fn_ev 0 (n + 2000) d) (fn_lk fn_d157)) (n + 1994) a1 a2 x)
set_option maxRecDepth 20000 in
theorem fc_Pre_checkIndex (cf : Nat → List Value → fn_M → Option fn_R) (K : Nat → fn_K) (m : Nat) (a1 a2 : Int32) (x : fn_M) : fn_runc 0 cf (fn_lk fn_d158) [] K (m + 9) 0 [(0, .int a1), (1, .int a2), (2, .float 0)] [] x =
  (if a1 < 0 then
    none
    else
    (if a1 < a2 then
      some (x, some (.int a1))
      else
      none)) := rfl
theorem ft_Pre_checkIndex (n d : Nat) (a1 a2 : Int32) (x : fn_M) : fn_ev 0 (n + 2000) (d + 1) 158 [.int a1, .int a2, .float 0] x =
  (if a1 < 0 then
    none
    else
    (if a1 < a2 then
      some (x, some (.int a1))
      else
      none)) :=
  fn_ev_t (dd := fn_d158) (lo := [(0, .int a1), (1, .int a2), (2, .float 0)]) (sp := []) rfl rfl rfl (fc_Pre_checkIndex (fn_ev 0 (n + 2000) d) (fn_run 0 (fn_ev 0 (n + 2000) d) (fn_lk fn_d158)) (n + 1991) a1 a2 x)
