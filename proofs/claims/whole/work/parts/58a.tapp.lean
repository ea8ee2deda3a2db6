set_option maxRecDepth 20000 in
theorem fc_SB_setLength_1 (cf : Nat → List Value → fn_M → Option fn_R) (K : Nat → fn_K) (m : Nat) (a1 : Int32) (x : fn_M) : fn_runc 0 cf (fn_lk fn_d134) [] K (m + 4) 0 [(0, .ref 37), (1, .int a1)] [] x =
  (fn_bv (cf 140 [.ref 37, .int a1] x) (fun y1 =>
    some (y1, none))) := rfl
theorem ft_SB_setLength_1 (n d : Nat) (a1 : Int32) (x : fn_M) : fn_ev 0 (n + 2000) (d + 1) 134 [.ref 37, .int a1] x =
  (fn_bv (fn_ev 0 (n + 2000) d 140 [.ref 37, .int a1] x) (fun y1 =>
    some (y1, none))) :=
  fn_ev_t (dd := fn_d134) (lo := [(0, .ref 37), (1, .int a1)]) (sp := []) rfl rfl rfl (fc_SB_setLength_1 (fn_ev 0 (n + 2000) d) (fn_run 0 (fn_ev 0 (n + 2000) d) (fn_lk fn_d134)) (n + 1996) a1 x)
set_option maxRecDepth 20000 in
theorem fc_SB_setLength_2 (cf : Nat → List Value → fn_M → Option fn_R) (K : Nat → fn_K) (m : Nat) (a1 : Int32) (x : fn_M) : fn_runc 0 cf (fn_lk fn_d134) [] K (m + 4) 0 [(0, .ref 38), (1, .int a1)] [] x =
  (fn_bv (cf 140 [.ref 38, .int a1] x) (fun y1 =>
    some (y1, none))) := rfl
theorem ft_SB_setLength_2 (n d : Nat) (a1 : Int32) (x : fn_M) : fn_ev 0 (n + 2000) (d + 1) 134 [.ref 38, .int a1] x =
  (fn_bv (fn_ev 0 (n + 2000) d 140 [.ref 38, .int a1] x) (fun y1 =>
    some (y1, none))) :=
  fn_ev_t (dd := fn_d134) (lo := [(0, .ref 38), (1, .int a1)]) (sp := []) rfl rfl rfl (fc_SB_setLength_2 (fn_ev 0 (n + 2000) d) (fn_run 0 (fn_ev 0 (n + 2000) d) (fn_lk fn_d134)) (n + 1996) a1 x)
set_option maxRecDepth 20000 in
theorem fc_SB_setLength_3 (cf : Nat → List Value → fn_M → Option fn_R) (K : Nat → fn_K) (m : Nat) (a1 : Int32) (x : fn_M) : fn_runc 0 cf (fn_lk fn_d134) [] K (m + 4) 0 [(0, .ref 39), (1, .int a1)] [] x =
  (fn_bv (cf 140 [.ref 39, .int a1] x) (fun y1 =>
    some (y1, none))) := rfl
theorem ft_SB_setLength_3 (n d : Nat) (a1 : Int32) (x : fn_M) : fn_ev 0 (n + 2000) (d + 1) 134 [.ref 39, .int a1] x =
  (fn_bv (fn_ev 0 (n + 2000) d 140 [.ref 39, .int a1] x) (fun y1 =>
    some (y1, none))) :=
  fn_ev_t (dd := fn_d134) (lo := [(0, .ref 39), (1, .int a1)]) (sp := []) rfl rfl rfl (fc_SB_setLength_3 (fn_ev 0 (n + 2000) d) (fn_run 0 (fn_ev 0 (n + 2000) d) (fn_lk fn_d134)) (n + 1996) a1 x)
set_option maxRecDepth 20000 in
theorem fc_SB_setLength_4 (cf : Nat → List Value → fn_M → Option fn_R) (K : Nat → fn_K) (m : Nat) (a1 : Int32) (x : fn_M) : fn_runc 0 cf (fn_lk fn_d134) [] K (m + 4) 0 [(0, .ref 40), (1, .int a1)] [] x =
  (fn_bv (cf 140 [.ref 40, .int a1] x) (fun y1 =>
    some (y1, none))) := rfl
theorem ft_SB_setLength_4 (n d : Nat) (a1 : Int32) (x : fn_M) : fn_ev 0 (n + 2000) (d + 1) 134 [.ref 40, .int a1] x =
  (fn_bv (fn_ev 0 (n + 2000) d 140 [.ref 40, .int a1] x) (fun y1 =>
    some (y1, none))) :=
  fn_ev_t (dd := fn_d134) (lo := [(0, .ref 40), (1, .int a1)]) (sp := []) rfl rfl rfl (fc_SB_setLength_4 (fn_ev 0 (n + 2000) d) (fn_run 0 (fn_ev 0 (n + 2000) d) (fn_lk fn_d134)) (n + 1996) a1 x)
set_option maxRecDepth 20000 in
theorem fc_SB_appendS_1 (cf : Nat → List Value → fn_M → Option fn_R) (K : Nat → fn_K) (m : Nat) (x : fn_M) : fn_runc 0 cf (fn_lk fn_d135) [] K (m + 6) 0 [(0, .ref 37), (1, .ref 1002)] [] x =
  (fn_br (cf 142 [.ref 37, .ref 1002] x) (fun y1 p2 =>
    some (y1, some (.ref 37))) (fun y1 =>
    none)) := rfl
theorem ft_SB_appendS_1 (n d : Nat) (x : fn_M) : fn_ev 0 (n + 2000) (d + 1) 135 [.ref 37, .ref 1002] x =
  (fn_br (fn_ev 0 (n + 2000) d 142 [.ref 37, .ref 1002] x) (fun y1 p2 =>
    some (y1, some (.ref 37))) (fun y1 =>
    none)) :=
  fn_ev_t (dd := fn_d135) (lo := [(0, .ref 37), (1, .ref 1002)]) (sp := []) rfl rfl rfl (fc_SB_appendS_1 (fn_ev 0 (n + 2000) d) (fn_run 0 (fn_ev 0 (n + 2000) d) (fn_lk fn_d135)) (n + 1994) x)
set_option maxRecDepth 20000 in
theorem fc_SB_appendS_2 (cf : Nat → List Value → fn_M → Option fn_R) (K : Nat → fn_K) (m : Nat) (x : fn_M) : fn_runc 0 cf (fn_lk fn_d135) [] K (m + 6) 0 [(0, .ref 38), (1, .ref 1002)] [] x =
  (fn_br (cf 142 [.ref 38, .ref 1002] x) (fun y1 p2 =>
    some (y1, some (.ref 38))) (fun y1 =>
    none)) := rfl
theorem ft_SB_appendS_2 (n d : Nat) (x : fn_M) : fn_ev 0 (n + 2000) (d + 1) 135 [.ref 38, .ref 1002] x =
  (fn_br (fn_ev 0 (n + 2000) d 142 [.ref 38, .ref 1002] x) (fun y1 p2 =>
    some (y1, some (.ref 38))) (fun y1 =>
    none)) :=
  fn_ev_t (dd := fn_d135) (lo := [(0, .ref 38), (1, .ref 1002)]) (sp := []) rfl rfl rfl (fc_SB_appendS_2 (fn_ev 0 (n + 2000) d) (fn_run 0 (fn_ev 0 (n + 2000) d) (fn_lk fn_d135)) (n + 1994) x)
set_option maxRecDepth 20000 in
theorem fc_SB_appendS_3 (cf : Nat → List Value → fn_M → Option fn_R) (K : Nat → fn_K) (m : Nat) (x : fn_M) : fn_runc 0 cf (fn_lk fn_d135) [] K (m + 6) 0 [(0, .ref 39), (1, .ref 1002)] [] x =
  (fn_br (cf 142 [.ref 39, .ref 1002] x) (fun y1 p2 =>
    some (y1, some (.ref 39))) (fun y1 =>
    none)) := rfl
theorem ft_SB_appendS_3 (n d : Nat) (x : fn_M) : fn_ev 0 (n + 2000) (d + 1) 135 [.ref 39, .ref 1002] x =
  (fn_br (fn_ev 0 (n + 2000) d 142 [.ref 39, .ref 1002] x) (fun y1 p2 =>
    some (y1, some (.ref 39))) (fun y1 =>
    none)) :=
  fn_ev_t (dd := fn_d135) (lo := [(0, .ref 39), (1, .ref 1002)]) (sp := []) rfl rfl rfl (fc_SB_appendS_3 (fn_ev 0 (n + 2000) d) (fn_run 0 (fn_ev 0 (n + 2000) d) (fn_lk fn_d135)) (n + 1994) x)
set_option maxRecDepth 20000 in
theorem fc_SB_appendS_4 (cf : Nat → List Value → fn_M → Option fn_R) (K : Nat → fn_K) (m : Nat) (x : fn_M) : fn_runc 0 cf (fn_lk fn_d135) [] K (m + 6) 0 [(0, .ref 40), (1, .ref 1002)] [] x =
  (fn_br (cf 142 [.ref 40, .ref 1002] x) (fun y1 p2 =>
    some (y1, some (.ref 40))) (fun y1 =>
    none)) := rfl
theorem ft_SB_appendS_4 (n d : Nat) (x : fn_M) : fn_ev 0 (n + 2000) (d + 1) 135 [.ref 40, .ref 1002] x =
  (fn_br (fn_ev 0 (n + 2000) d 142 [.ref 40, .ref 1002] x) (fun y1 p2 =>
    some (y1, some (.ref 40))) (fun y1 =>
    none)) :=
  fn_ev_t (dd := fn_d135) (lo := [(0, .ref 40), (1, .ref 1002)]) (sp := []) rfl rfl rfl (fc_SB_appendS_4 (fn_ev 0 (n + 2000) d) (fn_run 0 (fn_ev 0 (n + 2000) d) (fn_lk fn_d135)) (n + 1994) x)
set_option maxRecDepth 20000 in
theorem fc_SB_appendI_1 (cf : Nat → List Value → fn_M → Option fn_R) (K : Nat → fn_K) (m : Nat) (a1 : Int32) (x : fn_M) : fn_runc 0 cf (fn_lk fn_d136) [] K (m + 6) 0 [(0, .ref 37), (1, .int a1)] [] x =
  (fn_br (cf 145 [.ref 37, .int a1] x) (fun y1 p2 =>
    some (y1, some (.ref 37))) (fun y1 =>
    none)) := rfl
theorem ft_SB_appendI_1 (n d : Nat) (a1 : Int32) (x : fn_M) : fn_ev 0 (n + 2000) (d + 1) 136 [.ref 37, .int a1] x =
  (fn_br (fn_ev 0 (n + 2000) d 145 [.ref 37, .int a1] x) (fun y1 p2 =>
    some (y1, some (.ref 37))) (fun y1 =>
    none)) :=
  fn_ev_t (dd := fn_d136) (lo := [(0, .ref 37), (1, .int a1)]) (sp := []) rfl rfl rfl (fc_SB_appendI_1 (fn_ev 0 (n + 2000) d) (fn_run 0 (fn_ev 0 (n + 2000) d) (fn_lk fn_d136)) (n + 1994) a1 x)
set_option maxRecDepth 20000 in
theorem fc_SB_appendI_2 (cf : Nat → List Value → fn_M → Option fn_R) (K : Nat → fn_K) (m : Nat) (a1 : Int32) (x : fn_M) : fn_runc 0 cf (fn_lk fn_d136) [] K (m + 6) 0 [(0, .ref 38), (1, .int a1)] [] x =
  (fn_br (cf 145 [.ref 38, .int a1] x) (fun y1 p2 =>
    some (y1, some (.ref 38))) (fun y1 =>
    none)) := rfl
theorem ft_SB_appendI_2 (n d : Nat) (a1 : Int32) (x : fn_M) : fn_ev 0 (n + 2000) (d + 1) 136 [.ref 38, .int a1] x =
  (fn_br (fn_ev 0 (n + 2000) d 145 [.ref 38, .int a1] x) (fun y1 p2 =>
    some (y1, some (.ref 38))) (fun y1 =>
    none)) :=
  fn_ev_t (dd := fn_d136) (lo := [(0, .ref 38), (1, .int a1)]) (sp := []) rfl rfl rfl (fc_SB_appendI_2 (fn_ev 0 (n + 2000) d) (fn_run 0 (fn_ev 0 (n + 2000) d) (fn_lk fn_d136)) (n + 1994) a1 x)
set_option maxRecDepth 20000 in
theorem fc_SB_appendI_3 (cf : Nat → List Value → fn_M → Option fn_R) (K : Nat → fn_K) (m : Nat) (a1 : Int32) (x : fn_M) : fn_runc 0 cf (fn_lk fn_d136) [] K (m + 6) 0 [(0, .ref 39), (1, .int a1)] [] x =
  (fn_br (cf 145 [.ref 39, .int a1] x) (fun y1 p2 =>
    some (y1, some (.ref 39))) (fun y1 =>
    none)) := rfl
theorem ft_SB_appendI_3 (n d : Nat) (a1 : Int32) (x : fn_M) : fn_ev 0 (n + 2000) (d + 1) 136 [.ref 39, .int a1] x =
  (fn_br (fn_ev 0 (n + 2000) d 145 [.ref 39, .int a1] x) (fun y1 p2 =>
    some (y1, some (.ref 39))) (fun y1 =>
    none)) :=
  fn_ev_t (dd := fn_d136) (lo := [(0, .ref 39), (1, .int a1)]) (sp := []) rfl rfl rfl (fc_SB_appendI_3 (fn_ev 0 (n + 2000) d) (fn_run 0 (fn_ev 0 (n + 2000) d) (fn_lk fn_d136)) (n + 1994) a1 x)
set_option maxRecDepth 20000 in
theorem fc_SB_appendI_4 (cf : Nat → List Value → fn_M → Option fn_R) (K : Nat → fn_K) (m : Nat) (a1 : Int32) (x : fn_M) : fn_runc 0 cf (fn_lk fn_d136) [] K (m + 6) 0 [(0, .ref 40), (1, .int a1)] [] x =
  (fn_br (cf 145 [.ref 40, .int a1] x) (fun y1 p2 =>
    some (y1, some (.ref 40))) (fun y1 =>
    none)) := rfl
theorem ft_SB_appendI_4 (n d : Nat) (a1 : Int32) (x : fn_M) : fn_ev 0 (n + 2000) (d + 1) 136 [.ref 40, .int a1] x =
  (fn_br (fn_ev 0 (n + 2000) d 145 [.ref 40, .int a1] x) (fun y1 p2 =>
    some (y1, some (.ref 40))) (fun y1 =>
    none)) :=
  fn_ev_t (dd := fn_d136) (lo := [(0, .ref 40), (1, .int a1)]) (sp := []) rfl rfl rfl (fc_SB_appendI_4 (fn_ev 0 (n + 2000) d) (fn_run 0 (fn_ev 0 (n + 2000) d) (fn_lk fn_d136)) (n + 1994) a1 x)
set_option maxRecDepth 20000 in
theorem fc_SB_appendC_1 (cf : Nat → List Value → fn_M → Option fn_R) (K : Nat → fn_K) (m : Nat) (a1 : Int32) (x : fn_M) : fn_runc 0 cf (fn_lk fn_d137) [] K (m + 6) 0 [(0, .ref 37), (1, .int a1)] [] x =
  (fn_br (cf 147 [.ref 37, .int a1] x) (fun y1 p2 =>
    some (y1, some (.ref 37))) (fun y1 =>
    none)) := rfl
theorem ft_SB_appendC_1 (n d : Nat) (a1 : Int32) (x : fn_M) : fn_ev 0 (n + 2000) (d + 1) 137 [.ref 37, .int a1] x =
  (fn_br (fn_ev 0 (n + 2000) d 147 [.ref 37, .int a1] x) (fun y1 p2 =>
    some (y1, some (.ref 37))) (fun y1 =>
    none)) :=
  fn_ev_t (dd := fn_d137) (lo := [(0, .ref 37), (1, .int a1)]) (sp := []) rfl rfl rfl (fc_SB_appendC_1 (fn_ev 0 (n + 2000) d) (fn_run 0 (fn_ev 0 (n + 2000) d) (fn_lk fn_d137)) (n + 1994) a1 x)
set_option maxRecDepth 20000 in
theorem fc_SB_appendC_2 (cf : Nat → List Value → fn_M → Option fn_R) (K : Nat → fn_K) (m : Nat) (a1 : Int32) (x : fn_M) : fn_runc 0 cf (fn_lk fn_d137) [] K (m + 6) 0 [(0, .ref 38), (1, .int a1)] [] x =
  (fn_br (cf 147 [.ref 38, .int a1] x) (fun y1 p2 =>
    some (y1, some (.ref 38))) (fun y1 =>
    none)) := rfl
theorem ft_SB_appendC_2 (n d : Nat) (a1 : Int32) (x : fn_M) : fn_ev 0 (n + 2000) (d + 1) 137 [.ref 38, .int a1] x =
  (fn_br (fn_ev 0 (n + 2000) d 147 [.ref 38, .int a1] x) (fun y1 p2 =>
    some (y1, some (.ref 38))) (fun y1 =>
    none)) :=
  fn_ev_t (dd := fn_d137) (lo := [(0, .ref 38), (1, .int a1)]) (sp := []) rfl rfl rfl (fc_SB_appendC_2 (fn_ev 0 (n + 2000) d) (fn_run 0 (fn_ev 0 (n + 2000) d) (fn_lk fn_d137)) (n + 1994) a1 x)
set_option maxRecDepth 20000 in
theorem fc_SB_appendC_3 (cf : Nat → List Value → fn_M → Option fn_R) (K : Nat → fn_K) (m : Nat) (a1 : Int32) (x : fn_M) : fn_runc 0 cf (fn_lk fn_d137) [] K (m + 6) 0 [(0, .ref 39), (1, .int a1)] [] x =
  (fn_br (cf 147 [.ref 39, .int a1] x) (fun y1 p2 =>
    some (y1, some (.ref 39))) (fun y1 =>
    none)) := rfl
theorem ft_SB_appendC_3 (n d : Nat) (a1 : Int32) (x : fn_M) : fn_ev 0 (n + 2000) (d + 1) 137 [.ref 39, .int a1] x =
  (fn_br (fn_ev 0 (n + 2000) d 147 [.ref 39, .int a1] x) (fun y1 p2 =>
    some (y1, some (.ref 39))) (fun y1 =>
    none)) :=
  fn_ev_t (dd := fn_d137) (lo := [(0, .ref 39), (1, .int a1)]) (sp := []) rfl rfl rfl (fc_SB_appendC_3 (fn_ev 0 (n + 2000) d) (fn_run 0 (fn_ev 0 (n + 2000) d) (fn_lk fn_d137)) (n + 1994) a1 x)
set_option maxRecDepth 20000 in
theorem fc_SB_appendC_4 (cf : Nat → List Value → fn_M → Option fn_R) (K : Nat → fn_K) (m : Nat) (a1 : Int32) (x : fn_M) : fn_runc 0 cf (fn_lk fn_d137) [] K (m + 6) 0 [(0, .ref 40), (1, .int a1)] [] x =
  (fn_br (cf 147 [.ref 40, .int a1] x) (fun y1 p2 =>
    some (y1, some (.ref 40))) (fun y1 =>
    none)) := rfl
theorem ft_SB_appendC_4 (n d : Nat) (a1 : Int32) (x : fn_M) : fn_ev 0 (n + 2000) (d + 1) 137 [.ref 40, .int a1] x =
  (fn_br (fn_ev 0 (n + 2000) d 147 [.ref 40, .int a1] x) (fun y1 p2 =>
    some (y1, some (.ref 40))) (fun y1 =>
    none)) :=
  fn_ev_t (dd := fn_d137) (lo := [(0, .ref 40), (1, .int a1)]) (sp := []) rfl rfl rfl (fc_SB_appendC_4 (fn_ev 0 (n + 2000) d) (fn_run 0 (fn_ev 0 (n + 2000) d) (fn_lk fn_d137)) (n + 1994) a1 x)
set_option maxRecDepth 20000 in
theorem fc_ASB_setLength_1 (cf : Nat → List Value → fn_M → Option fn_R) (K : Nat → fn_K) (m : Nat) (a1 : Int32) (x : fn_M) : fn_runc 0 cf (fn_lk fn_d140) [] K (m + 20) 0 [(0, .ref 37), (1, .int a1)] [] x =
  (if 0 ≤ a1 then
    (fn_bv (cf 141 [.ref 37, .int a1] x) (fun y1 =>
      (if a1 ≤ (y1 37 3) then
      (if (y1 37 3) ≤ a1 then
        some ((fn_w y1 37 3 a1), none)
        else
        some ((fn_w (fn_w y1 37 2 1) 37 3 a1), none))
      else
      (fn_bi (cf 146 [.ref 37] y1) (fun y2 v3 =>
        (if v3 = 0 then
        none
        else
        none))))))
    else
    none) := rfl
theorem ft_ASB_setLength_1 (n d : Nat) (a1 : Int32) (x : fn_M) : fn_ev 0 (n + 2000) (d + 1) 140 [.ref 37, .int a1] x =
  (if 0 ≤ a1 then
    (fn_bv (fn_ev 0 (n + 2000) d 141 [.ref 37, .int a1] x) (fun y1 =>
      (if a1 ≤ (y1 37 3) then
      (if (y1 37 3) ≤ a1 then
        some ((fn_w y1 37 3 a1), none)
        else
        some ((fn_w (fn_w y1 37 2 1) 37 3 a1), none))
      else
      (fn_bi (fn_ev 0 (n + 2000) d 146 [.ref 37] y1) (fun y2 v3 =>
        (if v3 = 0 then
        none
        else
        none))))))
    else
    none) :=
  fn_ev_t (dd := fn_d140) (lo := [(0, .ref 37), (1, .int a1)]) (sp := []) rfl rfl rfl (fc_ASB_setLength_1 (fn_ev 0 (n + 2000) d) (fn_run 0 (fn_ev 0 (n + 2000) d) (fn_lk fn_d140)) (n + 1980) a1 x)
set_option maxRecDepth 20000 in
theorem fc_ASB_setLength_2 (cf : Nat → List Value → fn_M → Option fn_R) (K : Nat → fn_K) (m : Nat) (a1 : Int32) (x : fn_M) : fn_runc 0 cf (fn_lk fn_d140) [] K (m + 20) 0 [(0, .ref 38), (1, .int a1)] [] x =
  (if 0 ≤ a1 then
    (fn_bv (cf 141 [.ref 38, .int a1] x) (fun y1 =>
      (if a1 ≤ (y1 38 3) then
      (if (y1 38 3) ≤ a1 then
        some ((fn_w y1 38 3 a1), none)
        else
        some ((fn_w (fn_w y1 38 2 1) 38 3 a1), none))
      else
      (fn_bi (cf 146 [.ref 38] y1) (fun y2 v3 =>
        (if v3 = 0 then
        none
        else
        none))))))
    else
    none) := rfl
theorem ft_ASB_setLength_2 (n d : Nat) (a1 : Int32) (x : fn_M) : fn_ev 0 (n + 2000) (d + 1) 140 [.ref 38, .int a1] x =
  (if 0 ≤ a1 then
    (fn_bv (fn_ev 0 (n + 2000) d 141 [.ref 38, .int a1] x) (fun y1 =>
      (if a1 ≤ (y1 38 3) then
      (if (y1 38 3) ≤ a1 then
        some ((fn_w y1 38 3 a1), none)
        else
        some ((fn_w (fn_w y1 38 2 1) 38 3 a1), none))
      else
      (fn_bi (fn_ev 0 (n + 2000) d 146 [.ref 38] y1) (fun y2 v3 =>
        (if v3 = 0 then
        none
        else
        none))))))
    else
    none) :=
  fn_ev_t (dd := fn_d140) (lo := [(0, .ref 38), (1, .int a1)]) (sp := []) rfl rfl rfl (fc_ASB_setLength_2 (fn_ev 0 (n + 2000) d) (fn_run 0 (fn_ev 0 (n + 2000) d) (fn_lk fn_d140)) (n + 1980) a1 x)
set_option maxRecDepth 20000 in
theorem fc_ASB_setLength_3 (cf : Nat → List Value → fn_M → Option fn_R) (K : Nat → fn_K) (m : Nat) (a1 : Int32) (x : fn_M) : fn_runc 0 cf (fn_lk fn_d140) [] K (m + 20) 0 [(0, .ref 39), (1, .int a1)] [] x =
  (if 0 ≤ a1 then
    (fn_bv (cf 141 [.ref 39, .int a1] x) (fun y1 =>
      (if a1 ≤ (y1 39 3) then
      (if (y1 39 3) ≤ a1 then
        some ((fn_w y1 39 3 a1), none)
        else
        some ((fn_w (fn_w y1 39 2 1) 39 3 a1), none))
      else
      (fn_bi (cf 146 [.ref 39] y1) (fun y2 v3 =>
        (if v3 = 0 then
        none
        else
        none))))))
    else
    none) := rfl
theorem ft_ASB_setLength_3 (n d : Nat) (a1 : Int32) (x : fn_M) : fn_ev 0 (n + 2000) (d + 1) 140 [.ref 39, .int a1] x =
  (if 0 ≤ a1 then
    (fn_bv (fn_ev 0 (n + 2000) d 141 [.ref 39, .int a1] x) (fun y1 =>
      (if a1 ≤ (y1 39 3) then
      (if (y1 39 3) ≤ a1 then
        some ((fn_w y1 39 3 a1), none)
        else
        some ((fn_w (fn_w y1 39 2 1) 39 3 a1), none))
      else
      (fn_bi (fn_ev 0 (n + 2000) d 146 [.ref 39] y1) (fun y2 v3 =>
        (if v3 = 0 then
        none
        else
        none))))))
    else
    none) :=
  fn_ev_t (dd := fn_d140) (lo := [(0, .ref 39), (1, .int a1)]) (sp := []) rfl rfl rfl (fc_ASB_setLength_3 (fn_ev 0 (n + 2000) d) (fn_run 0 (fn_ev 0 (n + 2000) d) (fn_lk fn_d140)) (n + 1980) a1 x)
set_option maxRecDepth 20000 in
theorem fc_ASB_setLength_4 (cf : Nat → List Value → fn_M → Option fn_R) (K : Nat → fn_K) (m : Nat) (a1 : Int32) (x : fn_M) : fn_runc 0 cf (fn_lk fn_d140) [] K (m + 20) 0 [(0, .ref 40), (1, .int a1)] [] x =
  (if 0 ≤ a1 then
    (fn_bv (cf 141 [.ref 40, .int a1] x) (fun y1 =>
      (if a1 ≤ (y1 40 3) then
      (if (y1 40 3) ≤ a1 then
        some ((fn_w y1 40 3 a1), none)
        else
        some ((fn_w (fn_w y1 40 2 1) 40 3 a1), none))
      else
      (fn_bi (cf 146 [.ref 40] y1) (fun y2 v3 =>
        (if v3 = 0 then
        none
        else
        none))))))
    else
    none) := rfl
theorem ft_ASB_setLength_4 (n d : Nat) (a1 : Int32) (x : fn_M) : fn_ev 0 (n + 2000) (d + 1) 140 [.ref 40, .int a1] x =
  (if 0 ≤ a1 then
    (fn_bv (fn_ev 0 (n + 2000) d 141 [.ref 40, .int a1] x) (fun y1 =>
      (if a1 ≤ (y1 40 3) then
      (if (y1 40 3) ≤ a1 then
        some ((fn_w y1 40 3 a1), none)
        else
        some ((fn_w (fn_w y1 40 2 1) 40 3 a1), none))
      else
      (fn_bi (fn_ev 0 (n + 2000) d 146 [.ref 40] y1) (fun y2 v3 =>
        (if v3 = 0 then
        none
        else
        none))))))
    else
    none) :=
  fn_ev_t (dd := fn_d140) (lo := [(0, .ref 40), (1, .int a1)]) (sp := []) rfl rfl rfl (fc_ASB_setLength_4 (fn_ev 0 (n + 2000) d) (fn_run 0 (fn_ev 0 (n + 2000) d) (fn_lk fn_d140)) (n + 1980) a1 x)
set_option maxRecDepth 20000 in
theorem fc_ASB_ensureCapacityInternal_1 (cf : Nat → List Value → fn_M → Option fn_R) (K : Nat → fn_K) (m : Nat) (a1 : Int32) (x : fn_M) : fn_runc 0 cf (fn_lk fn_d141) [] K (m + 17) 0 [(0, .ref 37), (1, .int a1)] [] x =
  (if (a1 - (16 >>> ((x 37 1) &&& 31))) ≤ 0 then
    some (x, none)
    else
    none) := rfl
theorem ft_ASB_ensureCapacityInternal_1 (n d : Nat) (a1 : Int32) (x : fn_M) : fn_ev 0 (n + 2000) (d + 1) 141 [.ref 37, .int a1] x =
  (if (a1 - (16 >>> ((x 37 1) &&& 31))) ≤ 0 then
    some (x, none)
    else
    none) :=
  fn_ev_t (dd := fn_d141) (lo := [(0, .ref 37), (1, .int a1)]) (sp := []) rfl rfl rfl (fc_ASB_ensureCapacityInternal_1 (fn_ev 0 (n + 2000) d) (fn_run 0 (fn_ev 0 (n + 2000) d) (fn_lk fn_d141)) (n + 1983) a1 x)
set_option maxRecDepth 20000 in
theorem fc_ASB_ensureCapacityInternal_2 (cf : Nat → List Value → fn_M → Option fn_R) (K : Nat → fn_K) (m : Nat) (a1 : Int32) (x : fn_M) : fn_runc 0 cf (fn_lk fn_d141) [] K (m + 17) 0 [(0, .ref 38), (1, .int a1)] [] x =
  (if (a1 - (16 >>> ((x 38 1) &&& 31))) ≤ 0 then
    some (x, none)
    else
    none) := rfl
theorem ft_ASB_ensureCapacityInternal_2 (n d : Nat) (a1 : Int32) (x : fn_M) : fn_ev 0 (n + 2000) (d + 1) 141 [.ref 38, .int a1] x =
  (if (a1 - (16 >>> ((x 38 1) &&& 31))) ≤ 0 then
    some (x, none)
    else
    none) :=
  fn_ev_t (dd := fn_d141) (lo := [(0, .ref 38), (1, .int a1)]) (sp := []) rfl rfl rfl (fc_ASB_ensureCapacityInternal_2 (fn_ev 0 (n + 2000) d) (fn_run 0 (fn_ev 0 (n + 2000) d) (fn_lk fn_d141)) (n + 1983) a1 x)
set_option maxRecDepth 20000 in
theorem fc_ASB_ensureCapacityInternal_3 (cf : Nat → List Value → fn_M → Option fn_R) (K : Nat → fn_K) (m : Nat) (a1 : Int32) (x : fn_M) : fn_runc 0 cf (fn_lk fn_d141) [] K (m + 17) 0 [(0, .ref 39), (1, .int a1)] [] x =
  (if (a1 - (16 >>> ((x 39 1) &&& 31))) ≤ 0 then
    some (x, none)
    else
    none) := rfl
theorem ft_ASB_ensureCapacityInternal_3 (n d : Nat) (a1 : Int32) (x : fn_M) : fn_ev 0 (n + 2000) (d + 1) 141 [.ref 39, .int a1] x =
  (if (a1 - (16 >>> ((x 39 1) &&& 31))) ≤ 0 then
    some (x, none)
    else
    none) :=
  fn_ev_t (dd := fn_d141) (lo := [(0, .ref 39), (1, .int a1)]) (sp := []) rfl rfl rfl (fc_ASB_ensureCapacityInternal_3 (fn_ev 0 (n + 2000) d) (fn_run 0 (fn_ev 0 (n + 2000) d) (fn_lk fn_d141)) (n + 1983) a1 x)
set_option maxRecDepth 20000 in
theorem fc_ASB_ensureCapacityInternal_4 (cf : Nat → List Value → fn_M → Option fn_R) (K : Nat → fn_K) (m : Nat) (a1 : Int32) (x : fn_M) : fn_runc 0 cf (fn_lk fn_d141) [] K (m + 17) 0 [(0, .ref 40), (1, .int a1)] [] x =
  (if (a1 - (16 >>> ((x 40 1) &&& 31))) ≤ 0 then
    some (x, none)
    else
    none) := rfl
theorem ft_ASB_ensureCapacityInternal_4 (n d : Nat) (a1 : Int32) (x : fn_M) : fn_ev 0 (n + 2000) (d + 1) 141 [.ref 40, .int a1] x =
  (if (a1 - (16 >>> ((x 40 1) &&& 31))) ≤ 0 then
    some (x, none)
    else
    none) :=
  fn_ev_t (dd := fn_d141) (lo := [(0, .ref 40), (1, .int a1)]) (sp := []) rfl rfl rfl (fc_ASB_ensureCapacityInternal_4 (fn_ev 0 (n + 2000) d) (fn_run 0 (fn_ev 0 (n + 2000) d) (fn_lk fn_d141)) (n + 1983) a1 x)
set_option maxRecDepth 20000 in
theorem fc_ASB_appendS_1 (cf : Nat → List Value → fn_M → Option fn_R) (K : Nat → fn_K) (m : Nat) (x : fn_M) : fn_runc 0 cf (fn_lk fn_d142) [] K (m + 24) 0 [(0, .ref 37), (1, .ref 1002)] [] x =
  (fn_bi (cf 150 [.ref 1002] x) (fun y1 v2 =>
    (fn_bv (cf 141 [.ref 37, .int ((y1 37 3) + v2)] y1) (fun y3 =>
    (fn_bv (cf 143 [.ref 37, .int (y3 37 3), .ref 1002] y3) (fun y4 =>
    some ((fn_w y4 37 3 ((y4 37 3) + v2)), some (.ref 37)))))))) := rfl
theorem ft_ASB_appendS_1 (n d : Nat) (x : fn_M) : fn_ev 0 (n + 2000) (d + 1) 142 [.ref 37, .ref 1002] x =
  (fn_bi (fn_ev 0 (n + 2000) d 150 [.ref 1002] x) (fun y1 v2 =>
    (fn_bv (fn_ev 0 (n + 2000) d 141 [.ref 37, .int ((y1 37 3) + v2)] y1) (fun y3 =>
    (fn_bv (fn_ev 0 (n + 2000) d 143 [.ref 37, .int (y3 37 3), .ref 1002] y3) (fun y4 =>
    some ((fn_w y4 37 3 ((y4 37 3) + v2)), some (.ref 37)))))))) :=
  fn_ev_t (dd := fn_d142) (lo := [(0, .ref 37), (1, .ref 1002)]) (sp := []) rfl rfl rfl (fc_ASB_appendS_1 (fn_ev 0 (n + 2000) d) (fn_run 0 (fn_ev 0 (n + 2000) d) (fn_lk fn_d142)) (n + 1976) x)
set_option maxRecDepth 20000 in
theorem fc_ASB_appendS_2 (cf : Nat → List Value → fn_M → Option fn_R) (K : Nat → fn_K) (m : Nat) (x : fn_M) : fn_runc 0 cf (fn_lk fn_d142) [] K (m + 24) 0 [(0, .ref 38), (1, .ref 1002)] [] x =
  (fn_bi (cf 150 [.ref 1002] x) (fun y1 v2 =>
    (fn_bv (cf 141 [.ref 38, .int ((y1 38 3) + v2)] y1) (fun y3 =>
    (fn_bv (cf 143 [.ref 38, .int (y3 38 3), .ref 1002] y3) (fun y4 =>
    some ((fn_w y4 38 3 ((y4 38 3) + v2)), some (.ref 38)))))))) := rfl
theorem ft_ASB_appendS_2 (n d : Nat) (x : fn_M) : fn_ev 0 (n + 2000) (d + 1) 142 [.ref 38, .ref 1002] x =
  (fn_bi (fn_ev 0 (n + 2000) d 150 [.ref 1002] x) (fun y1 v2 =>
    (fn_bv (fn_ev 0 (n + 2000) d 141 [.ref 38, .int ((y1 38 3) + v2)] y1) (fun y3 =>
    (fn_bv (fn_ev 0 (n + 2000) d 143 [.ref 38, .int (y3 38 3), .ref 1002] y3) (fun y4 =>
    some ((fn_w y4 38 3 ((y4 38 3) + v2)), some (.ref 38)))))))) :=
  fn_ev_t (dd := fn_d142) (lo := [(0, .ref 38), (1, .ref 1002)]) (sp := []) rfl rfl rfl (fc_ASB_appendS_2 (fn_ev 0 (n + 2000) d) (fn_run 0 (fn_ev 0 (n + 2000) d) (fn_lk fn_d142)) (n + 1976) x)
set_option maxRecDepth 20000 in
theorem fc_ASB_appendS_3 (cf : Nat → List Value → fn_M → Option fn_R) (K : Nat → fn_K) (m : Nat) (x : fn_M) : fn_runc 0 cf (fn_lk fn_d142) [] K (m + 24) 0 [(0, .ref 39), (1, .ref 1002)] [] x =
  (fn_bi (cf 150 [.ref 1002] x) (fun y1 v2 =>
    (fn_bv (cf 141 [.ref 39, .int ((y1 39 3) + v2)] y1) (fun y3 =>
    (fn_bv (cf 143 [.ref 39, .int (y3 39 3), .ref 1002] y3) (fun y4 =>
    some ((fn_w y4 39 3 ((y4 39 3) + v2)), some (.ref 39)))))))) := rfl
theorem ft_ASB_appendS_3 (n d : Nat) (x : fn_M) : fn_ev 0 (n + 2000) (d + 1) 142 [.ref 39, .ref 1002] x =
  (fn_bi (fn_ev 0 (n + 2000) d 150 [.ref 1002] x) (fun y1 v2 =>
    (fn_bv (fn_ev 0 (n + 2000) d 141 [.ref 39, .int ((y1 39 3) + v2)] y1) (fun y3 =>
    (fn_bv (fn_ev 0 (n + 2000) d 143 [.ref 39, .int (y3 39 3), .ref 1002] y3) (fun y4 =>
    some ((fn_w y4 39 3 ((y4 39 3) + v2)), some (.ref 39)))))))) :=
  fn_ev_t (dd := fn_d142) (lo := [(0, .ref 39), (1, .ref 1002)]) (sp := []) rfl rfl rfl (fc_ASB_appendS_3 (fn_ev 0 (n + 2000) d) (fn_run 0 (fn_ev 0 (n + 2000) d) (fn_lk fn_d142)) (n + 1976) x)
set_option maxRecDepth 20000 in
theorem fc_ASB_appendS_4 (cf : Nat → List Value → fn_M → Option fn_R) (K : Nat → fn_K) (m : Nat) (x : fn_M) : fn_runc 0 cf (fn_lk fn_d142) [] K (m + 24) 0 [(0, .ref 40), (1, .ref 1002)] [] x =
  (fn_bi (cf 150 [.ref 1002] x) (fun y1 v2 =>
    (fn_bv (cf 141 [.ref 40, .int ((y1 40 3) + v2)] y1) (fun y3 =>
    (fn_bv (cf 143 [.ref 40, .int (y3 40 3), .ref 1002] y3) (fun y4 =>
    some ((fn_w y4 40 3 ((y4 40 3) + v2)), some (.ref 40)))))))) := rfl
theorem ft_ASB_appendS_4 (n d : Nat) (x : fn_M) : fn_ev 0 (n + 2000) (d + 1) 142 [.ref 40, .ref 1002] x =
  (fn_bi (fn_ev 0 (n + 2000) d 150 [.ref 1002] x) (fun y1 v2 =>
    (fn_bv (fn_ev 0 (n + 2000) d 141 [.ref 40, .int ((y1 40 3) + v2)] y1) (fun y3 =>
    (fn_bv (fn_ev 0 (n + 2000) d 143 [.ref 40, .int (y3 40 3), .ref 1002] y3) (fun y4 =>
    some ((fn_w y4 40 3 ((y4 40 3) + v2)), some (.ref 40)))))))) :=
  fn_ev_t (dd := fn_d142) (lo := [(0, .ref 40), (1, .ref 1002)]) (sp := []) rfl rfl rfl (fc_ASB_appendS_4 (fn_ev 0 (n + 2000) d) (fn_run 0 (fn_ev 0 (n + 2000) d) (fn_lk fn_d142)) (n + 1976) x)
set_option maxRecDepth 20000 in
theorem fc_ASB_putStringAt_1 (cf : Nat → List Value → fn_M → Option fn_R) (K : Nat → fn_K) (m : Nat) (a1 : Int32) (x : fn_M) : fn_runc 0 cf (fn_lk fn_d143) [] K (m + 11) 0 [(0, .ref 37), (1, .int a1), (2, .ref 1002)] [] x =
  (fn_bv (cf 144 [.ref 37, .ref 1002] x) (fun y1 =>
    (fn_bv (cf 152 [.ref 1002, .ref 41, .int a1, .int (y1 37 1)] y1) (fun y2 =>
    some (y2, none))))) := rfl
theorem ft_ASB_putStringAt_1 (n d : Nat) (a1 : Int32) (x : fn_M) : fn_ev 0 (n + 2000) (d + 1) 143 [.ref 37, .int a1, .ref 1002] x =
  (fn_bv (fn_ev 0 (n + 2000) d 144 [.ref 37, .ref 1002] x) (fun y1 =>
    (fn_bv (fn_ev 0 (n + 2000) d 152 [.ref 1002, .ref 41, .int a1, .int (y1 37 1)] y1) (fun y2 =>
    some (y2, none))))) :=
  fn_ev_t (dd := fn_d143) (lo := [(0, .ref 37), (1, .int a1), (2, .ref 1002)]) (sp := []) rfl rfl rfl (fc_ASB_putStringAt_1 (fn_ev 0 (n + 2000) d) (fn_run 0 (fn_ev 0 (n + 2000) d) (fn_lk fn_d143)) (n + 1989) a1 x)
set_option maxRecDepth 20000 in
theorem fc_ASB_putStringAt_2 (cf : Nat → List Value → fn_M → Option fn_R) (K : Nat → fn_K) (m : Nat) (a1 : Int32) (x : fn_M) : fn_runc 0 cf (fn_lk fn_d143) [] K (m + 11) 0 [(0, .ref 38), (1, .int a1), (2, .ref 1002)] [] x =
  (fn_bv (cf 144 [.ref 38, .ref 1002] x) (fun y1 =>
    (fn_bv (cf 152 [.ref 1002, .ref 42, .int a1, .int (y1 38 1)] y1) (fun y2 =>
    some (y2, none))))) := rfl
theorem ft_ASB_putStringAt_2 (n d : Nat) (a1 : Int32) (x : fn_M) : fn_ev 0 (n + 2000) (d + 1) 143 [.ref 38, .int a1, .ref 1002] x =
  (fn_bv (fn_ev 0 (n + 2000) d 144 [.ref 38, .ref 1002] x) (fun y1 =>
    (fn_bv (fn_ev 0 (n + 2000) d 152 [.ref 1002, .ref 42, .int a1, .int (y1 38 1)] y1) (fun y2 =>
    some (y2, none))))) :=
  fn_ev_t (dd := fn_d143) (lo := [(0, .ref 38), (1, .int a1), (2, .ref 1002)]) (sp := []) rfl rfl rfl (fc_ASB_putStringAt_2 (fn_ev 0 (n + 2000) d) (fn_run 0 (fn_ev 0 (n + 2000) d) (fn_lk fn_d143)) (n + 1989) a1 x)
set_option maxRecDepth 20000 in
theorem fc_ASB_putStringAt_3 (cf : Nat → List Value → fn_M → Option fn_R) (K : Nat → fn_K) (m : Nat) (a1 : Int32) (x : fn_M) : fn_runc 0 cf (fn_lk fn_d143) [] K (m + 11) 0 [(0, .ref 39), (1, .int a1), (2, .ref 1002)] [] x =
  (fn_bv (cf 144 [.ref 39, .ref 1002] x) (fun y1 =>
    (fn_bv (cf 152 [.ref 1002, .ref 43, .int a1, .int (y1 39 1)] y1) (fun y2 =>
    some (y2, none))))) := rfl
theorem ft_ASB_putStringAt_3 (n d : Nat) (a1 : Int32) (x : fn_M) : fn_ev 0 (n + 2000) (d + 1) 143 [.ref 39, .int a1, .ref 1002] x =
  (fn_bv (fn_ev 0 (n + 2000) d 144 [.ref 39, .ref 1002] x) (fun y1 =>
    (fn_bv (fn_ev 0 (n + 2000) d 152 [.ref 1002, .ref 43, .int a1, .int (y1 39 1)] y1) (fun y2 =>
    some (y2, none))))) :=
  fn_ev_t (dd := fn_d143) (lo := [(0, .ref 39), (1, .int a1), (2, .ref 1002)]) (sp := []) rfl rfl rfl (fc_ASB_putStringAt_3 (fn_ev 0 (n + 2000) d) (fn_run 0 (fn_ev 0 (n + 2000) d) (fn_lk fn_d143)) (n + 1989) a1 x)
set_option maxRecDepth 20000 in
theorem fc_ASB_putStringAt_4 (cf : Nat → List Value → fn_M → Option fn_R) (K : Nat → fn_K) (m : Nat) (a1 : Int32) (x : fn_M) : fn_runc 0 cf (fn_lk fn_d143) [] K (m + 11) 0 [(0, .ref 40), (1, .int a1), (2, .ref 1002)] [] x =
  (fn_bv (cf 144 [.ref 40, .ref 1002] x) (fun y1 =>
    (fn_bv (cf 152 [.ref 1002, .ref 44, .int a1, .int (y1 40 1)] y1) (fun y2 =>
    some (y2, none))))) := rfl
theorem ft_ASB_putStringAt_4 (n d : Nat) (a1 : Int32) (x : fn_M) : fn_ev 0 (n + 2000) (d + 1) 143 [.ref 40, .int a1, .ref 1002] x =
  (fn_bv (fn_ev 0 (n + 2000) d 144 [.ref 40, .ref 1002] x) (fun y1 =>
    (fn_bv (fn_ev 0 (n + 2000) d 152 [.ref 1002, .ref 44, .int a1, .int (y1 40 1)] y1) (fun y2 =>
    some (y2, none))))) :=
  fn_ev_t (dd := fn_d143) (lo := [(0, .ref 40), (1, .int a1), (2, .ref 1002)]) (sp := []) rfl rfl rfl (fc_ASB_putStringAt_4 (fn_ev 0 (n + 2000) d) (fn_run 0 (fn_ev 0 (n + 2000) d) (fn_lk fn_d143)) (n + 1989) a1 x)
set_option maxRecDepth 20000 in
theorem fc_ASB_inflateIfNeededFor_1 (cf : Nat → List Value → fn_M → Option fn_R) (K : Nat → fn_K) (m : Nat) (x : fn_M) : fn_runc 0 cf (fn_lk fn_d144) [] K (m + 9) 0 [(0, .ref 37), (1, .ref 1002)] [] x =
  (fn_bi (cf 151 [.ref 1002] x) (fun y1 v2 =>
    (if (x 37 1) = v2 then
    some (y1, none)
    else
    none))) := rfl
theorem ft_ASB_inflateIfNeededFor_1 (n d : Nat) (x : fn_M) : fn_ev 0 (n + 2000) (d + 1) 144 [.ref 37, .ref 1002] x =
  (fn_bi (fn_ev 0 (n + 2000) d 151 [.ref 1002] x) (fun y1 v2 =>
    (if (x 37 1) = v2 then
    some (y1, none)
    else
    none))) :=
  fn_ev_t (dd := fn_d144) (lo := [(0, .ref 37), (1, .ref 1002)]) (sp := []) rfl rfl rfl (fc_ASB_inflateIfNeededFor_1 (fn_ev 0 (n + 2000) d) (fn_run 0 (fn_ev 0 (n + 2000) d) (fn_lk fn_d144)) (n + 1991) x)
set_option maxRecDepth 20000 in
theorem fc_ASB_inflateIfNeededFor_2 (cf : Nat → List Value → fn_M → Option fn_R) (K : Nat → fn_K) (m : Nat) (x : fn_M) : fn_runc 0 cf (fn_lk fn_d144) [] K (m + 9) 0 [(0, .ref 38), (1, .ref 1002)] [] x =
  (fn_bi (cf 151 [.ref 1002] x) (fun y1 v2 =>
    (if (x 38 1) = v2 then
    some (y1, none)
    else
    none))) := rfl
theorem ft_ASB_inflateIfNeededFor_2 (n d : Nat) (x : fn_M) : fn_ev 0 (n + 2000) (d + 1) 144 [.ref 38, .ref 1002] x =
  (fn_bi (fn_ev 0 (n + 2000) d 151 [.ref 1002] x) (fun y1 v2 =>
    (if (x 38 1) = v2 then
    some (y1, none)
    else
    none))) :=
  fn_ev_t (dd := fn_d144) (lo := [(0, .ref 38), (1, .ref 1002)]) (sp := []) rfl rfl rfl (fc_ASB_inflateIfNeededFor_2 (fn_ev 0 (n + 2000) d) (fn_run 0 (fn_ev 0 (n + 2000) d) (fn_lk fn_d144)) (n + 1991) x)
set_option maxRecDepth 20000 in
theorem fc_ASB_inflateIfNeededFor_3 (cf : Nat → List Value → fn_M → Option fn_R) (K : Nat → fn_K) (m : Nat) (x : fn_M) : fn_runc 0 cf (fn_lk fn_d144) [] K (m + 9) 0 [(0, .ref 39), (1, .ref 1002)] [] x =
  (fn_bi (cf 151 [.ref 1002] x) (fun y1 v2 =>
    (if (x 39 1) = v2 then
    some (y1, none)
    else
    none))) := rfl
theorem ft_ASB_inflateIfNeededFor_3 (n d : Nat) (x : fn_M) : fn_ev 0 (n + 2000) (d + 1) 144 [.ref 39, .ref 1002] x =
  (fn_bi (fn_ev 0 (n + 2000) d 151 [.ref 1002] x) (fun y1 v2 =>
    (if (x 39 1) = v2 then
    some (y1, none)
    else
    none))) :=
  fn_ev_t (dd := fn_d144) (lo := [(0, .ref 39), (1, .ref 1002)]) (sp := []) rfl rfl rfl (fc_ASB_inflateIfNeededFor_3 (fn_ev 0 (n + 2000) d) (fn_run 0 (fn_ev 0 (n + 2000) d) (fn_lk fn_d144)) (n + 1991) x)
set_option maxRecDepth 20000 in
theorem fc_ASB_inflateIfNeededFor_4 (cf : Nat → List Value → fn_M → Option fn_R) (K : Nat → fn_K) (m : Nat) (x : fn_M) : fn_runc 0 cf (fn_lk fn_d144) [] K (m + 9) 0 [(0, .ref 40), (1, .ref 1002)] [] x =
  (fn_bi (cf 151 [.ref 1002] x) (fun y1 v2 =>
    (if (x 40 1) = v2 then
    some (y1, none)
    else
    none))) := rfl
theorem ft_ASB_inflateIfNeededFor_4 (n d : Nat) (x : fn_M) : fn_ev 0 (n + 2000) (d + 1) 144 [.ref 40, .ref 1002] x =
  (fn_bi (fn_ev 0 (n + 2000) d 151 [.ref 1002] x) (fun y1 v2 =>
    (if (x 40 1) = v2 then
    some (y1, none)
    else
    none))) :=
  fn_ev_t (dd := fn_d144) (lo := [(0, .ref 40), (1, .ref 1002)]) (sp := []) rfl rfl rfl (fc_ASB_inflateIfNeededFor_4 (fn_ev 0 (n + 2000) d) (fn_run 0 (fn_ev 0 (n + 2000) d) (fn_lk fn_d144)) (n + 1991) x)
set_option maxRecDepth 20000 in
theorem fc_ASB_appendI_1 (cf : Nat → List Value → fn_M → Option fn_R) (K : Nat → fn_K) (m : Nat) (a1 : Int32) (x : fn_M) : fn_runc 0 cf (fn_lk fn_d145) [] K (m + 26) 0 [(0, .ref 37), (1, .int a1)] [] x =
  (fn_bi (cf 154 [.int a1] x) (fun y1 v2 =>
    (fn_bv (cf 141 [.ref 37, .int ((x 37 3) + v2)] y1) (fun y3 =>
    (fn_bi (cf 146 [.ref 37] y3) (fun y4 v5 =>
    (if v5 = 0 then
    none
    else
    (fn_bi (cf 155 [.int a1, .int ((x 37 3) + v2), .ref 41] y4) (fun y6 v7 =>
      some ((fn_w y6 37 3 ((x 37 3) + v2)), some (.ref 37))))))))))) := rfl
theorem ft_ASB_appendI_1 (n d : Nat) (a1 : Int32) (x : fn_M) : fn_ev 0 (n + 2000) (d + 1) 145 [.ref 37, .int a1] x =
  (fn_bi (fn_ev 0 (n + 2000) d 154 [.int a1] x) (fun y1 v2 =>
    (fn_bv (fn_ev 0 (n + 2000) d 141 [.ref 37, .int ((x 37 3) + v2)] y1) (fun y3 =>
    (fn_bi (fn_ev 0 (n + 2000) d 146 [.ref 37] y3) (fun y4 v5 =>
    (if v5 = 0 then
    none
    else
    (fn_bi (fn_ev 0 (n + 2000) d 155 [.int a1, .int ((x 37 3) + v2), .ref 41] y4) (fun y6 v7 =>
      some ((fn_w y6 37 3 ((x 37 3) + v2)), some (.ref 37))))))))))) :=
  fn_ev_t (dd := fn_d145) (lo := [(0, .ref 37), (1, .int a1)]) (sp := []) rfl rfl rfl (fc_ASB_appendI_1 (fn_ev 0 (n + 2000) d) (fn_run 0 (fn_ev 0 (n + 2000) d) (fn_lk fn_d145)) (n + 1974) a1 x)
set_option maxRecDepth 20000 in
theorem fc_ASB_appendI_2 (cf : Nat → List Value → fn_M → Option fn_R) (K : Nat → fn_K) (m : Nat) (a1 : Int32) (x : fn_M) : fn_runc 0 cf (fn_lk fn_d145) [] K (m + 26) 0 [(0, .ref 38), (1, .int a1)] [] x =
  (fn_bi (cf 154 [.int a1] x) (fun y1 v2 =>
    (fn_bv (cf 141 [.ref 38, .int ((x 38 3) + v2)] y1) (fun y3 =>
    (fn_bi (cf 146 [.ref 38] y3) (fun y4 v5 =>
    (if v5 = 0 then
    none
    else
    (fn_bi (cf 155 [.int a1, .int ((x 38 3) + v2), .ref 42] y4) (fun y6 v7 =>
      some ((fn_w y6 38 3 ((x 38 3) + v2)), some (.ref 38))))))))))) := rfl
theorem ft_ASB_appendI_2 (n d : Nat) (a1 : Int32) (x : fn_M) : fn_ev 0 (n + 2000) (d + 1) 145 [.ref 38, .int a1] x =
  (fn_bi (fn_ev 0 (n + 2000) d 154 [.int a1] x) (fun y1 v2 =>
    (fn_bv (fn_ev 0 (n + 2000) d 141 [.ref 38, .int ((x 38 3) + v2)] y1) (fun y3 =>
    (fn_bi (fn_ev 0 (n + 2000) d 146 [.ref 38] y3) (fun y4 v5 =>
    (if v5 = 0 then
    none
    else
    (fn_bi (fn_ev 0 (n + 2000) d 155 [.int a1, .int ((x 38 3) + v2), .ref 42] y4) (fun y6 v7 =>
      some ((fn_w y6 38 3 ((x 38 3) + v2)), some (.ref 38))))))))))) :=
  fn_ev_t (dd := fn_d145) (lo := [(0, .ref 38), (1, .int a1)]) (sp := []) rfl rfl rfl (fc_ASB_appendI_2 (fn_ev 0 (n + 2000) d) (fn_run 0 (fn_ev 0 (n + 2000) d) (fn_lk fn_d145)) (n + 1974) a1 x)
set_option maxRecDepth 20000 in
theorem fc_ASB_appendI_3 (cf : Nat → List Value → fn_M → Option fn_R) (K : Nat → fn_K) (m : Nat) (a1 : Int32) (x : fn_M) : fn_runc 0 cf (fn_lk fn_d145) [] K (m + 26) 0 [(0, .ref 39), (1, .int a1)] [] x =
  (fn_bi (cf 154 [.int a1] x) (fun y1 v2 =>
    (fn_bv (cf 141 [.ref 39, .int ((x 39 3) + v2)] y1) (fun y3 =>
    (fn_bi (cf 146 [.ref 39] y3) (fun y4 v5 =>
    (if v5 = 0 then
    none
    else
    (fn_bi (cf 155 [.int a1, .int ((x 39 3) + v2), .ref 43] y4) (fun y6 v7 =>
      some ((fn_w y6 39 3 ((x 39 3) + v2)), some (.ref 39))))))))))) := rfl
theorem ft_ASB_appendI_3 (n d : Nat) (a1 : Int32) (x : fn_M) : fn_ev 0 (n + 2000) (d + 1) 145 [.ref 39, .int a1] x =
  (fn_bi (fn_ev 0 (n + 2000) d 154 [.int a1] x) (fun y1 v2 =>
    (fn_bv (fn_ev 0 (n + 2000) d 141 [.ref 39, .int ((x 39 3) + v2)] y1) (fun y3 =>
    (fn_bi (fn_ev 0 (n + 2000) d 146 [.ref 39] y3) (fun y4 v5 =>
    (if v5 = 0 then
    none
    else
    (fn_bi (fn_ev 0 (n + 2000) d 155 [.int a1, .int ((x 39 3) + v2), .ref 43] y4) (fun y6 v7 =>
      some ((fn_w y6 39 3 ((x 39 3) + v2)), some (.ref 39))))))))))) :=
  fn_ev_t (dd := fn_d145) (lo := [(0, .ref 39), (1, .int a1)]) (sp := []) rfl rfl rfl (fc_ASB_appendI_3 (fn_ev 0 (n + 2000) d) (fn_run 0 (fn_ev 0 (n + 2000) d) (fn_lk fn_d145)) (n + 1974) a1 x)
set_option maxRecDepth 20000 in
theorem fc_ASB_appendI_4 (cf : Nat → List Value → fn_M → Option fn_R) (K : Nat → fn_K) (m : Nat) (a1 : Int32) (x : fn_M) : fn_runc 0 cf (fn_lk fn_d145) [] K (m + 26) 0 [(0, .ref 40), (1, .int a1)] [] x =
  (fn_bi (cf 154 [.int a1] x) (fun y1 v2 =>
    (fn_bv (cf 141 [.ref 40, .int ((x 40 3) + v2)] y1) (fun y3 =>
    (fn_bi (cf 146 [.ref 40] y3) (fun y4 v5 =>
    (if v5 = 0 then
    none
    else
    (fn_bi (cf 155 [.int a1, .int ((x 40 3) + v2), .ref 44] y4) (fun y6 v7 =>
      some ((fn_w y6 40 3 ((x 40 3) + v2)), some (.ref 40))))))))))) := rfl
theorem ft_ASB_appendI_4 (n d : Nat) (a1 : Int32) (x : fn_M) : fn_ev 0 (n + 2000) (d + 1) 145 [.ref 40, .int a1] x =
  (fn_bi (fn_ev 0 (n + 2000) d 154 [.int a1] x) (fun y1 v2 =>
    (fn_bv (fn_ev 0 (n + 2000) d 141 [.ref 40, .int ((x 40 3) + v2)] y1) (fun y3 =>
    (fn_bi (fn_ev 0 (n + 2000) d 146 [.ref 40] y3) (fun y4 v5 =>
    (if v5 = 0 then
    none
    else
    (fn_bi (fn_ev 0 (n + 2000) d 155 [.int a1, .int ((x 40 3) + v2), .ref 44] y4) (fun y6 v7 =>
      some ((fn_w y6 40 3 ((x 40 3) + v2)), some (.ref 40))))))))))) :=
  fn_ev_t (dd := fn_d145) (lo := [(0, .ref 40), (1, .int a1)]) (sp := []) rfl rfl rfl (fc_ASB_appendI_4 (fn_ev 0 (n + 2000) d) (fn_run 0 (fn_ev 0 (n + 2000) d) (fn_lk fn_d145)) (n + 1974) a1 x)
set_option maxRecDepth 20000 in
theorem fc_ASB_appendC_1 (cf : Nat → List Value → fn_M → Option fn_R) (K : Nat → fn_K) (m : Nat) (a1 : Int32) (x : fn_M) : fn_runc 0 cf (fn_lk fn_d147) [] K (m + 27) 0 [(0, .ref 37), (1, .int a1)] [] x =
  (fn_bv (cf 141 [.ref 37, .int ((x 37 3) + 1)] x) (fun y1 =>
    (fn_bi (cf 146 [.ref 37] y1) (fun y2 v3 =>
    (if v3 = 0 then
    (fn_bi (cf 146 [.ref 37] y2) (fun y4 v5 =>
      (if v5 = 0 then
      none
      else
      none)))
    else
    (fn_bi (cf 156 [.int a1] y2) (fun y6 v7 =>
      (if v7 = 0 then
      (fn_bi (cf 146 [.ref 37] y6) (fun y8 v9 =>
        (if v9 = 0 then
        none
        else
        none)))
      else
      (if (y6 37 3) < 0 ∨ 16 ≤ (y6 37 3).toNatClampNeg then
        none
        else
        some ((fn_w (fn_w y6 37 3 ((y6 37 3) + 1)) 41 (y6 37 3).toNatClampNeg ((((a1 : Int32).toInt8.toInt32) : Int32).toInt8.toInt32)), some (.ref 37))))))))))) := rfl
theorem ft_ASB_appendC_1 (n d : Nat) (a1 : Int32) (x : fn_M) : fn_ev 0 (n + 2000) (d + 1) 147 [.ref 37, .int a1] x =
  (fn_bv (fn_ev 0 (n + 2000) d 141 [.ref 37, .int ((x 37 3) + 1)] x) (fun y1 =>
    (fn_bi (fn_ev 0 (n + 2000) d 146 [.ref 37] y1) (fun y2 v3 =>
    (if v3 = 0 then
    (fn_bi (fn_ev 0 (n + 2000) d 146 [.ref 37] y2) (fun y4 v5 =>
      (if v5 = 0 then
      none
      else
      none)))
    else
    (fn_bi (fn_ev 0 (n + 2000) d 156 [.int a1] y2) (fun y6 v7 =>
      (if v7 = 0 then
      (fn_bi (fn_ev 0 (n + 2000) d 146 [.ref 37] y6) (fun y8 v9 =>
        (if v9 = 0 then
        none
        else
        none)))
      else
      (if (y6 37 3) < 0 ∨ 16 ≤ (y6 37 3).toNatClampNeg then
        none
        else
        some ((fn_w (fn_w y6 37 3 ((y6 37 3) + 1)) 41 (y6 37 3).toNatClampNeg ((((a1 : Int32).toInt8.toInt32) : Int32).toInt8.toInt32)), some (.ref 37))))))))))) :=
  fn_ev_t (dd := fn_d147) (lo := [(0, .ref 37), (1, .int a1)]) (sp := []) rfl rfl rfl (fc_ASB_appendC_1 (fn_ev 0 (n + 2000) d) (fn_run 0 (fn_ev 0 (n + 2000) d) (fn_lk fn_d147)) (n + 1973) a1 x)
set_option maxRecDepth 20000 in
theorem fc_ASB_appendC_2 (cf : Nat → List Value → fn_M → Option fn_R) (K : Nat → fn_K) (m : Nat) (a1 : Int32) (x : fn_M) : fn_runc 0 cf (fn_lk fn_d147) [] K (m + 27) 0 [(0, .ref 38), (1, .int a1)] [] x =
  (fn_bv (cf 141 [.ref 38, .int ((x 38 3) + 1)] x) (fun y1 =>
    (fn_bi (cf 146 [.ref 38] y1) (fun y2 v3 =>
    (if v3 = 0 then
    (fn_bi (cf 146 [.ref 38] y2) (fun y4 v5 =>
      (if v5 = 0 then
      none
      else
      none)))
    else
    (fn_bi (cf 156 [.int a1] y2) (fun y6 v7 =>
      (if v7 = 0 then
      (fn_bi (cf 146 [.ref 38] y6) (fun y8 v9 =>
        (if v9 = 0 then
        none
        else
        none)))
      else
      (if (y6 38 3) < 0 ∨ 16 ≤ (y6 38 3).toNatClampNeg then
        none
        else
        some ((fn_w (fn_w y6 38 3 ((y6 38 3) + 1)) 42 (y6 38 3).toNatClampNeg ((((a1 : Int32).toInt8.toInt32) : Int32).toInt8.toInt32)), some (.ref 38))))))))))) := rfl
theorem ft_ASB_appendC_2 (n d : Nat) (a1 : Int32) (x : fn_M) : fn_ev 0 (n + 2000) (d + 1) 147 [.ref 38, .int a1] x =
  (fn_bv (fn_ev 0 (n + 2000) d 141 [.ref 38, .int ((x 38 3) + 1)] x) (fun y1 =>
    (fn_bi (fn_ev 0 (n + 2000) d 146 [.ref 38] y1) (fun y2 v3 =>
    (if v3 = 0 then
    (fn_bi (fn_ev 0 (n + 2000) d 146 [.ref 38] y2) (fun y4 v5 =>
      (if v5 = 0 then
      none
      else
      none)))
    else
    (fn_bi (fn_ev 0 (n + 2000) d 156 [.int a1] y2) (fun y6 v7 =>
      (if v7 = 0 then
      (fn_bi (fn_ev 0 (n + 2000) d 146 [.ref 38] y6) (fun y8 v9 =>
        (if v9 = 0 then
        none
        else
        none)))
      else
      (if (y6 38 3) < 0 ∨ 16 ≤ (y6 38 3).toNatClampNeg then
        none
        else
        some ((fn_w (fn_w y6 38 3 ((y6 38 3) + 1)) 42 (y6 38 3).toNatClampNeg ((((a1 : Int32).toInt8.toInt32) : Int32).toInt8.toInt32)), some (.ref 38))))))))))) :=
  fn_ev_t (dd := fn_d147) (lo := [(0, .ref 38), (1, .int a1)]) (sp := []) rfl rfl rfl (fc_ASB_appendC_2 (fn_ev 0 (n + 2000) d) (fn_run 0 (fn_ev 0 (n + 2000) d) (fn_lk fn_d147)) (n + 1973) a1 x)
set_option maxRecDepth 20000 in
theorem fc_ASB_appendC_3 (cf : Nat → List Value → fn_M → Option fn_R) (K : Nat → fn_K) (m : Nat) (a1 : Int32) (x : fn_M) : fn_runc 0 cf (fn_lk fn_d147) [] K (m + 27) 0 [(0, .ref 39), (1, .int a1)] [] x =
  (fn_bv (cf 141 [.ref 39, .int ((x 39 3) + 1)] x) (fun y1 =>
    (fn_bi (cf 146 [.ref 39] y1) (fun y2 v3 =>
    (if v3 = 0 then
    (fn_bi (cf 146 [.ref 39] y2) (fun y4 v5 =>
      (if v5 = 0 then
      none
      else
      none)))
    else
    (fn_bi (cf 156 [.int a1] y2) (fun y6 v7 =>
      (if v7 = 0 then
      (fn_bi (cf 146 [.ref 39] y6) (fun y8 v9 =>
        (if v9 = 0 then
        none
        else
        none)))
      else
      (if (y6 39 3) < 0 ∨ 16 ≤ (y6 39 3).toNatClampNeg then
        none
        else
        some ((fn_w (fn_w y6 39 3 ((y6 39 3) + 1)) 43 (y6 39 3).toNatClampNeg ((((a1 : Int32).toInt8.toInt32) : Int32).toInt8.toInt32)), some (.ref 39))))))))))) := rfl
theorem ft_ASB_appendC_3 (n d : Nat) (a1 : Int32) (x : fn_M) : fn_ev 0 (n + 2000) (d + 1) 147 [.ref 39, .int a1] x =
  (fn_bv (fn_ev 0 (n + 2000) d 141 [.ref 39, .int ((x 39 3) + 1)] x) (fun y1 =>
    (fn_bi (fn_ev 0 (n + 2000) d 146 [.ref 39] y1) (fun y2 v3 =>
    (if v3 = 0 then
    (fn_bi (fn_ev 0 (n + 2000) d 146 [.ref 39] y2) (fun y4 v5 =>
      (if v5 = 0 then
      none
      else
      none)))
    else
    (fn_bi (fn_ev 0 (n + 2000) d 156 [.int a1] y2) (fun y6 v7 =>
      (if v7 = 0 then
      (fn_bi (fn_ev 0 (n + 2000) d 146 [.ref 39] y6) (fun y8 v9 =>
        (if v9 = 0 then
        none
        else
        none)))
      else
      (if (y6 39 3) < 0 ∨ 16 ≤ (y6 39 3).toNatClampNeg then
        none
        else
        some ((fn_w (fn_w y6 39 3 ((y6 39 3) + 1)) 43 (y6 39 3).toNatClampNeg ((((a1 : Int32).toInt8.toInt32) : Int32).toInt8.toInt32)), some (.ref 39))))))))))) :=
  fn_ev_t (dd := fn_d147) (lo := [(0, .ref 39), (1, .int a1)]) (sp := []) rfl rfl rfl (fc_ASB_appendC_3 (fn_ev 0 (n + 2000) d) (fn_run 0 (fn_ev 0 (n + 2000) d) (fn_lk fn_d147)) (n + 1973) a1 x)
set_option maxRecDepth 20000 in
theorem fc_ASB_appendC_4 (cf : Nat → List Value → fn_M → Option fn_R) (K : Nat → fn_K) (m : Nat) (a1 : Int32) (x : fn_M) : fn_runc 0 cf (fn_lk fn_d147) [] K (m + 27) 0 [(0, .ref 40), (1, .int a1)] [] x =
  (fn_bv (cf 141 [.ref 40, .int ((x 40 3) + 1)] x) (fun y1 =>
    (fn_bi (cf 146 [.ref 40] y1) (fun y2 v3 =>
    (if v3 = 0 then
    (fn_bi (cf 146 [.ref 40] y2) (fun y4 v5 =>
      (if v5 = 0 then
      none
      else
      none)))
    else
    (fn_bi (cf 156 [.int a1] y2) (fun y6 v7 =>
      (if v7 = 0 then
      (fn_bi (cf 146 [.ref 40] y6) (fun y8 v9 =>
        (if v9 = 0 then
        none
        else
        none)))
      else
      (if (y6 40 3) < 0 ∨ 16 ≤ (y6 40 3).toNatClampNeg then
        none
        else
        some ((fn_w (fn_w y6 40 3 ((y6 40 3) + 1)) 44 (y6 40 3).toNatClampNeg ((((a1 : Int32).toInt8.toInt32) : Int32).toInt8.toInt32)), some (.ref 40))))))))))) := rfl
theorem ft_ASB_appendC_4 (n d : Nat) (a1 : Int32) (x : fn_M) : fn_ev 0 (n + 2000) (d + 1) 147 [.ref 40, .int a1] x =
  (fn_bv (fn_ev 0 (n + 2000) d 141 [.ref 40, .int ((x 40 3) + 1)] x) (fun y1 =>
    (fn_bi (fn_ev 0 (n + 2000) d 146 [.ref 40] y1) (fun y2 v3 =>
    (if v3 = 0 then
    (fn_bi (fn_ev 0 (n + 2000) d 146 [.ref 40] y2) (fun y4 v5 =>
      (if v5 = 0 then
      none
      else
      none)))
    else
    (fn_bi (fn_ev 0 (n + 2000) d 156 [.int a1] y2) (fun y6 v7 =>
      (if v7 = 0 then
      (fn_bi (fn_ev 0 (n + 2000) d 146 [.ref 40] y6) (fun y8 v9 =>
        (if v9 = 0 then
        none
        else
        none)))
      else
      (if (y6 40 3) < 0 ∨ 16 ≤ (y6 40 3).toNatClampNeg then
        none
        else
        some ((fn_w (fn_w y6 40 3 ((y6 40 3) + 1)) 44 (y6 40 3).toNatClampNeg ((((a1 : Int32).toInt8.toInt32) : Int32).toInt8.toInt32)), some (.ref 40))))))))))) :=
  fn_ev_t (dd := fn_d147) (lo := [(0, .ref 40), (1, .int a1)]) (sp := []) rfl rfl rfl (fc_ASB_appendC_4 (fn_ev 0 (n + 2000) d) (fn_run 0 (fn_ev 0 (n + 2000) d) (fn_lk fn_d147)) (n + 1973) a1 x)
set_option maxRecDepth 20000 in
theorem fc_Str_length (cf : Nat → List Value → fn_M → Option fn_R) (K : Nat → fn_K) (m : Nat) (x : fn_M) : fn_runc 0 cf (fn_lk fn_d150) [] K (m + 7) 0 [(0, .ref 1002)] [] x =
  (fn_bi (cf 151 [.ref 1002] x) (fun y1 v2 =>
    some (y1, some (.int (5 >>> (v2 &&& 31)))))) := rfl
theorem ft_Str_length (n d : Nat) (x : fn_M) : fn_ev 0 (n + 2000) (d + 1) 150 [.ref 1002] x =
  (fn_bi (fn_ev 0 (n + 2000) d 151 [.ref 1002] x) (fun y1 v2 =>
    some (y1, some (.int (5 >>> (v2 &&& 31)))))) :=
  fn_ev_t (dd := fn_d150) (lo := [(0, .ref 1002)]) (sp := []) rfl rfl rfl (fc_Str_length (fn_ev 0 (n + 2000) d) (fn_run 0 (fn_ev 0 (n + 2000) d) (fn_lk fn_d150)) (n + 1993) x)
set_option maxRecDepth 20000 in
theorem fc_Str_coder (cf : Nat → List Value → fn_M → Option fn_R) (K : Nat → fn_K) (m : Nat) (x : fn_M) : fn_runc 0 cf (fn_lk fn_d151) [] K (m + 6) 0 [(0, .ref 1002)] [] x =
  some (x, some (.int 0)) := rfl
theorem ft_Str_coder (n d : Nat) (x : fn_M) : fn_ev 0 (n + 2000) (d + 1) 151 [.ref 1002] x =
  some (x, some (.int 0)) :=
  fn_ev_t (dd := fn_d151) (lo := [(0, .ref 1002)]) (sp := []) rfl rfl rfl (fc_Str_coder (fn_ev 0 (n + 2000) d) (fn_run 0 (fn_ev 0 (n + 2000) d) (fn_lk fn_d151)) (n + 1994) x)
set_option maxRecDepth 20000 in
theorem fc_Str_getBytes_1 (cf : Nat → List Value → fn_M → Option fn_R) (K : Nat → fn_K) (m : Nat) (a1 a2 : Int32) (x : fn_M) : fn_runc 0 cf (fn_lk fn_d152) [] K (m + 17) 0 [(0, .ref 1002), (1, .ref 41), (2, .int a1), (3, .int a2)] [] x =
  (fn_bi (cf 151 [.ref 1002] x) (fun y1 v2 =>
    (if v2 = a2 then
    (if 1003 = 1003 ∧ (fn_la 0 41).1 = 3 ∧ true = true then
      (if (0 : Int32) < 0 ∨ ((a1 <<< (a2 &&& 31)) : Int32) < 0 ∨ (5 : Int32) < 0 ∨ ¬ 0 + 5 ≤ 5 ∨ ¬ (a1 <<< (a2 &&& 31)).toNatClampNeg + 5 ≤ (fn_la 0 41).2 then
        none
        else
        some ((fn_cp y1 41 0 (a1 <<< (a2 &&& 31)).toNatClampNeg 5), none))
      else
      none)
    else
    none))) := rfl
theorem ft_Str_getBytes_1 (n d : Nat) (a1 a2 : Int32) (x : fn_M) : fn_ev 0 (n + 2000) (d + 1) 152 [.ref 1002, .ref 41, .int a1, .int a2] x =
  (fn_bi (fn_ev 0 (n + 2000) d 151 [.ref 1002] x) (fun y1 v2 =>
    (if v2 = a2 then
    (if 1003 = 1003 ∧ (fn_la 0 41).1 = 3 ∧ true = true then
      (if (0 : Int32) < 0 ∨ ((a1 <<< (a2 &&& 31)) : Int32) < 0 ∨ (5 : Int32) < 0 ∨ ¬ 0 + 5 ≤ 5 ∨ ¬ (a1 <<< (a2 &&& 31)).toNatClampNeg + 5 ≤ (fn_la 0 41).2 then
        none
        else
        some ((fn_cp y1 41 0 (a1 <<< (a2 &&& 31)).toNatClampNeg 5), none))
      else
      none)
    else
    none))) :=
  fn_ev_t (dd := fn_d152) (lo := [(0, .ref 1002), (1, .ref 41), (2, .int a1), (3, .int a2)]) (sp := []) rfl rfl rfl (fc_Str_getBytes_1 (fn_ev 0 (n + 2000) d) (fn_run 0 (fn_ev 0 (n + 2000) d) (fn_lk fn_d152)) (n + 1983) a1 a2 x)
set_option maxRecDepth 20000 in
theorem fc_Str_getBytes_2 (cf : Nat → List Value → fn_M → Option fn_R) (K : Nat → fn_K) (m : Nat) (a1 a2 : Int32) (x : fn_M) : fn_runc 0 cf (fn_lk fn_d152) [] K (m + 17) 0 [(0, .ref 1002), (1, .ref 42), (2, .int a1), (3, .int a2)] [] x =
  (fn_bi (cf 151 [.ref 1002] x) (fun y1 v2 =>
    (if v2 = a2 then
    (if 1003 = 1003 ∧ (fn_la 0 42).1 = 3 ∧ true = true then
      (if (0 : Int32) < 0 ∨ ((a1 <<< (a2 &&& 31)) : Int32) < 0 ∨ (5 : Int32) < 0 ∨ ¬ 0 + 5 ≤ 5 ∨ ¬ (a1 <<< (a2 &&& 31)).toNatClampNeg + 5 ≤ (fn_la 0 42).2 then
        none
        else
        some ((fn_cp y1 42 0 (a1 <<< (a2 &&& 31)).toNatClampNeg 5), none))
      else
      none)
    else
    none))) := rfl
theorem ft_Str_getBytes_2 (n d : Nat) (a1 a2 : Int32) (x : fn_M) : fn_ev 0 (n + 2000) (d + 1) 152 [.ref 1002, .ref 42, .int a1, .int a2] x =
  (fn_bi (fn_ev 0 (n + 2000) d 151 [.ref 1002] x) (fun y1 v2 =>
    (if v2 = a2 then
    (if 1003 = 1003 ∧ (fn_la 0 42).1 = 3 ∧ true = true then
      (if (0 : Int32) < 0 ∨ ((a1 <<< (a2 &&& 31)) : Int32) < 0 ∨ (5 : Int32) < 0 ∨ ¬ 0 + 5 ≤ 5 ∨ ¬ (a1 <<< (a2 &&& 31)).toNatClampNeg + 5 ≤ (fn_la 0 42).2 then
        none
        else
        some ((fn_cp y1 42 0 (a1 <<< (a2 &&& 31)).toNatClampNeg 5), none))
      else
      none)
    else
    none))) :=
  fn_ev_t (dd := fn_d152) (lo := [(0, .ref 1002), (1, .ref 42), (2, .int a1), (3, .int a2)]) (sp := []) rfl rfl rfl (fc_Str_getBytes_2 (fn_ev 0 (n + 2000) d) (fn_run 0 (fn_ev 0 (n + 2000) d) (fn_lk fn_d152)) (n + 1983) a1 a2 x)
set_option maxRecDepth 20000 in
theorem fc_Str_getBytes_3 (cf : Nat → List Value → fn_M → Option fn_R) (K : Nat → fn_K) (m : Nat) (a1 a2 : Int32) (x : fn_M) : fn_runc 0 cf (fn_lk fn_d152) [] K (m + 17) 0 [(0, .ref 1002), (1, .ref 43), (2, .int a1), (3, .int a2)] [] x =
  (fn_bi (cf 151 [.ref 1002] x) (fun y1 v2 =>
    (if v2 = a2 then
    (if 1003 = 1003 ∧ (fn_la 0 43).1 = 3 ∧ true = true then
      (if (0 : Int32) < 0 ∨ ((a1 <<< (a2 &&& 31)) : Int32) < 0 ∨ (5 : Int32) < 0 ∨ ¬ 0 + 5 ≤ 5 ∨ ¬ (a1 <<< (a2 &&& 31)).toNatClampNeg + 5 ≤ (fn_la 0 43).2 then
        none
        else
        some ((fn_cp y1 43 0 (a1 <<< (a2 &&& 31)).toNatClampNeg 5), none))
      else
      none)
    else
    none))) := rfl
theorem ft_Str_getBytes_3 (n d : Nat) (a1 a2 : Int32) (x : fn_M) : fn_ev 0 (n + 2000) (d + 1) 152 [.ref 1002, .ref 43, .int a1, .int a2] x =
  (fn_bi (fn_ev 0 (n + 2000) d 151 [.ref 1002] x) (fun y1 v2 =>
    (if v2 = a2 then
    (if 1003 = 1003 ∧ (fn_la 0 43).1 = 3 ∧ true = true then
      (if (0 : Int32) < 0 ∨ ((a1 <<< (a2 &&& 31)) : Int32) < 0 ∨ (5 : Int32) < 0 ∨ ¬ 0 + 5 ≤ 5 ∨ ¬ (a1 <<< (a2 &&& 31)).toNatClampNeg + 5 ≤ (fn_la 0 43).2 then
        none
        else
        some ((fn_cp y1 43 0 (a1 <<< (a2 &&& 31)).toNatClampNeg 5), none))
      else
      none)
    else
    none))) :=
  fn_ev_t (dd := fn_d152) (lo := [(0, .ref 1002), (1, .ref 43), (2, .int a1), (3, .int a2)]) (sp := []) rfl rfl rfl (fc_Str_getBytes_3 (fn_ev 0 (n + 2000) d) (fn_run 0 (fn_ev 0 (n + 2000) d) (fn_lk fn_d152)) (n + 1983) a1 a2 x)
set_option maxRecDepth 20000 in
theorem fc_Str_getBytes_4 (cf : Nat → List Value → fn_M → Option fn_R) (K : Nat → fn_K) (m : Nat) (a1 a2 : Int32) (x : fn_M) : fn_runc 0 cf (fn_lk fn_d152) [] K (m + 17) 0 [(0, .ref 1002), (1, .ref 44), (2, .int a1), (3, .int a2)] [] x =
  (fn_bi (cf 151 [.ref 1002] x) (fun y1 v2 =>
    (if v2 = a2 then
    (if 1003 = 1003 ∧ (fn_la 0 44).1 = 3 ∧ true = true then
      (if (0 : Int32) < 0 ∨ ((a1 <<< (a2 &&& 31)) : Int32) < 0 ∨ (5 : Int32) < 0 ∨ ¬ 0 + 5 ≤ 5 ∨ ¬ (a1 <<< (a2 &&& 31)).toNatClampNeg + 5 ≤ (fn_la 0 44).2 then
        none
        else
        some ((fn_cp y1 44 0 (a1 <<< (a2 &&& 31)).toNatClampNeg 5), none))
      else
      none)
    else
    none))) := rfl
theorem ft_Str_getBytes_4 (n d : Nat) (a1 a2 : Int32) (x : fn_M) : fn_ev 0 (n + 2000) (d + 1) 152 [.ref 1002, .ref 44, .int a1, .int a2] x =
  (fn_bi (fn_ev 0 (n + 2000) d 151 [.ref 1002] x) (fun y1 v2 =>
    (if v2 = a2 then
    (if 1003 = 1003 ∧ (fn_la 0 44).1 = 3 ∧ true = true then
      (if (0 : Int32) < 0 ∨ ((a1 <<< (a2 &&& 31)) : Int32) < 0 ∨ (5 : Int32) < 0 ∨ ¬ 0 + 5 ≤ 5 ∨ ¬ (a1 <<< (a2 &&& 31)).toNatClampNeg + 5 ≤ (fn_la 0 44).2 then
        none
        else
        some ((fn_cp y1 44 0 (a1 <<< (a2 &&& 31)).toNatClampNeg 5), none))
      else
      none)
    else
    none))) :=
  fn_ev_t (dd := fn_d152) (lo := [(0, .ref 1002), (1, .ref 44), (2, .int a1), (3, .int a2)]) (sp := []) rfl rfl rfl (fc_Str_getBytes_4 (fn_ev 0 (n + 2000) d) (fn_run 0 (fn_ev 0 (n + 2000) d) (fn_lk fn_d152)) (n + 1983) a1 a2 x)
set_option maxRecDepth 20000 in
theorem fc_Int_stringSize (cf : Nat → List Value → fn_M → Option fn_R) (K : Nat → fn_K) (m : Nat) (a1 : Int32) (x : fn_M) : fn_runc 0 cf (fn_lk fn_d154) [11] K (m + 128) 0 [(0, .int a1)] [] x =
  (if a1 < 0 then
    K (m + 124) 11 [(0, .int a1), (1, .int 1)] [] x
    else
    K (m + 119) 11 [(0, .int (-a1)), (1, .int 0)] [] x) := rfl
theorem ft_Int_stringSize (n d : Nat) (a1 : Int32) (x : fn_M) : fn_ev 0 (n + 2000) (d + 1) 154 [.int a1] x =
  (if a1 < 0 then
    fn_run 0 (fn_ev 0 (n + 2000) d) (fn_lk fn_d154) (n + 1996) 11 [(0, .int a1), (1, .int 1)] [] x
    else
    fn_run 0 (fn_ev 0 (n + 2000) d) (fn_lk fn_d154) (n + 1991) 11 [(0, .int (-a1)), (1, .int 0)] [] x) :=
  fn_ev_t (dd := fn_d154) (lo := [(0, .int a1)]) (sp := [11]) rfl rfl rfl (fc_Int_stringSize (fn_ev 0 (n + 2000) d) (fn_run 0 (fn_ev 0 (n + 2000) d) (fn_lk fn_d154)) (n + 1872) a1 x)
set_option maxRecDepth 20000 in
theorem fc_Int_stringSize_at11_0 (cf : Nat → List Value → fn_M → Option fn_R) (K : Nat → fn_K) (m : Nat) (l0 : Int32) (x : fn_M) : fn_runc 0 cf (fn_lk fn_d154) [11] K (m + 119) 11 [(0, .int l0), (1, .int 0)] [] x =
  (if l0 ≤ (-10) then
    (if l0 ≤ (-100) then
      (if l0 ≤ (-1000) then
        (if l0 ≤ (-10000) then
          (if l0 ≤ (-100000) then
            (if l0 ≤ (-1000000) then
              (if l0 ≤ (-10000000) then
                (if l0 ≤ (-100000000) then
                  (if l0 ≤ (-1000000000) then
                    some (x, some (.int 10))
                    else
                    some (x, some (.int 9)))
                  else
                  some (x, some (.int 8)))
                else
                some (x, some (.int 7)))
              else
              some (x, some (.int 6)))
            else
            some (x, some (.int 5)))
          else
          some (x, some (.int 4)))
        else
        some (x, some (.int 3)))
      else
      some (x, some (.int 2)))
    else
    some (x, some (.int 1))) := rfl
theorem ft_Int_stringSize_at11_0 (n d m : Nat) (l0 : Int32) (x : fn_M) : fn_run 0 (fn_ev 0 (n + 2000) d) (fn_lk fn_d154) (m + 119) 11 [(0, .int l0), (1, .int 0)] [] x =
  (if l0 ≤ (-10) then
    (if l0 ≤ (-100) then
      (if l0 ≤ (-1000) then
        (if l0 ≤ (-10000) then
          (if l0 ≤ (-100000) then
            (if l0 ≤ (-1000000) then
              (if l0 ≤ (-10000000) then
                (if l0 ≤ (-100000000) then
                  (if l0 ≤ (-1000000000) then
                    some (x, some (.int 10))
                    else
                    some (x, some (.int 9)))
                  else
                  some (x, some (.int 8)))
                else
                some (x, some (.int 7)))
              else
              some (x, some (.int 6)))
            else
            some (x, some (.int 5)))
          else
          some (x, some (.int 4)))
        else
        some (x, some (.int 3)))
      else
      some (x, some (.int 2)))
    else
    some (x, some (.int 1))) :=
  (fn_runc_eq 0 (fn_ev 0 (n + 2000) d) (fn_lk fn_d154) [11] (m + 119) 11 [(0, .int l0), (1, .int 0)] [] x).trans (fc_Int_stringSize_at11_0 (fn_ev 0 (n + 2000) d) (fn_run 0 (fn_ev 0 (n + 2000) d) (fn_lk fn_d154)) m l0 x)
set_option maxRecDepth 20000 in
theorem fc_Int_stringSize_at11_1 (cf : Nat → List Value → fn_M → Option fn_R) (K : Nat → fn_K) (m : Nat) (l0 : Int32) (x : fn_M) : fn_runc 0 cf (fn_lk fn_d154) [11] K (m + 119) 11 [(0, .int l0), (1, .int 1)] [] x =
  (if l0 ≤ (-10) then
    (if l0 ≤ (-100) then
      (if l0 ≤ (-1000) then
        (if l0 ≤ (-10000) then
          (if l0 ≤ (-100000) then
            (if l0 ≤ (-1000000) then
              (if l0 ≤ (-10000000) then
                (if l0 ≤ (-100000000) then
                  (if l0 ≤ (-1000000000) then
                    some (x, some (.int 11))
                    else
                    some (x, some (.int 10)))
                  else
                  some (x, some (.int 9)))
                else
                some (x, some (.int 8)))
              else
              some (x, some (.int 7)))
            else
            some (x, some (.int 6)))
          else
          some (x, some (.int 5)))
        else
        some (x, some (.int 4)))
      else
      some (x, some (.int 3)))
    else
    some (x, some (.int 2))) := rfl
theorem ft_Int_stringSize_at11_1 (n d m : Nat) (l0 : Int32) (x : fn_M) : fn_run 0 (fn_ev 0 (n + 2000) d) (fn_lk fn_d154) (m + 119) 11 [(0, .int l0), (1, .int 1)] [] x =
  (if l0 ≤ (-10) then
    (if l0 ≤ (-100) then
      (if l0 ≤ (-1000) then
        (if l0 ≤ (-10000) then
          (if l0 ≤ (-100000) then
            (if l0 ≤ (-1000000) then
              (if l0 ≤ (-10000000) then
                (if l0 ≤ (-100000000) then
                  (if l0 ≤ (-1000000000) then
                    some (x, some (.int 11))
                    else
                    some (x, some (.int 10)))
                  else
                  some (x, some (.int 9)))
                else
                some (x, some (.int 8)))
              else
              some (x, some (.int 7)))
            else
            some (x, some (.int 6)))
          else
          some (x, some (.int 5)))
        else
        some (x, some (.int 4)))
      else
      some (x, some (.int 3)))
    else
    some (x, some (.int 2))) :=
  (fn_runc_eq 0 (fn_ev 0 (n + 2000) d) (fn_lk fn_d154) [11] (m + 119) 11 [(0, .int l0), (1, .int 1)] [] x).trans (fc_Int_stringSize_at11_1 (fn_ev 0 (n + 2000) d) (fn_run 0 (fn_ev 0 (n + 2000) d) (fn_lk fn_d154)) m l0 x)
set_option maxRecDepth 20000 in
theorem fc_Int_getChars_1 (cf : Nat → List Value → fn_M → Option fn_R) (K : Nat → fn_K) (m : Nat) (a1 a2 : Int32) (x : fn_M) : fn_runc 0 cf (fn_lk fn_d155) [22] K (m + 11) 0 [(0, .int a1), (1, .int a2), (2, .ref 41)] [] x =
  (if 0 ≤ a1 then
    K (m + 0) 22 [(0, .int (-a1)), (1, .int a2), (2, .ref 41), (5, .int a2), (6, .int 0)] [] x
    else
    K (m + 2) 22 [(0, .int a1), (1, .int a2), (2, .ref 41), (5, .int a2), (6, .int 1)] [] x) := rfl
theorem ft_Int_getChars_1 (n d : Nat) (a1 a2 : Int32) (x : fn_M) : fn_ev 0 (n + 2000) (d + 1) 155 [.int a1, .int a2, .ref 41] x =
  (if 0 ≤ a1 then
    fn_run 0 (fn_ev 0 (n + 2000) d) (fn_lk fn_d155) (n + 1989) 22 [(0, .int (-a1)), (1, .int a2), (2, .ref 41), (5, .int a2), (6, .int 0)] [] x
    else
    fn_run 0 (fn_ev 0 (n + 2000) d) (fn_lk fn_d155) (n + 1991) 22 [(0, .int a1), (1, .int a2), (2, .ref 41), (5, .int a2), (6, .int 1)] [] x) :=
  fn_ev_t (dd := fn_d155) (lo := [(0, .int a1), (1, .int a2), (2, .ref 41)]) (sp := [22]) rfl rfl rfl (fc_Int_getChars_1 (fn_ev 0 (n + 2000) d) (fn_run 0 (fn_ev 0 (n + 2000) d) (fn_lk fn_d155)) (n + 1989) a1 a2 x)
set_option maxRecDepth 20000 in
set_option maxRecDepth 20000 in
set_option maxRecDepth 20000 in
theorem fc_Int_getChars_2 (cf : Nat → List Value → fn_M → Option fn_R) (K : Nat → fn_K) (m : Nat) (a1 a2 : Int32) (x : fn_M) : fn_runc 0 cf (fn_lk fn_d155) [22] K (m + 11) 0 [(0, .int a1), (1, .int a2), (2, .ref 42)] [] x =
  (if 0 ≤ a1 then
    K (m + 0) 22 [(0, .int (-a1)), (1, .int a2), (2, .ref 42), (5, .int a2), (6, .int 0)] [] x
    else
    K (m + 2) 22 [(0, .int a1), (1, .int a2), (2, .ref 42), (5, .int a2), (6, .int 1)] [] x) := rfl
theorem ft_Int_getChars_2 (n d : Nat) (a1 a2 : Int32) (x : fn_M) : fn_ev 0 (n + 2000) (d + 1) 155 [.int a1, .int a2, .ref 42] x =
  (if 0 ≤ a1 then
    fn_run 0 (fn_ev 0 (n + 2000) d) (fn_lk fn_d155) (n + 1989) 22 [(0, .int (-a1)), (1, .int a2), (2, .ref 42), (5, .int a2), (6, .int 0)] [] x
    else
    fn_run 0 (fn_ev 0 (n + 2000) d) (fn_lk fn_d155) (n + 1991) 22 [(0, .int a1), (1, .int a2), (2, .ref 42), (5, .int a2), (6, .int 1)] [] x) :=
  fn_ev_t (dd := fn_d155) (lo := [(0, .int a1), (1, .int a2), (2, .ref 42)]) (sp := [22]) rfl rfl rfl (fc_Int_getChars_2 (fn_ev 0 (n + 2000) d) (fn_run 0 (fn_ev 0 (n + 2000) d) (fn_lk fn_d155)) (n + 1989) a1 a2 x)
set_option maxRecDepth 20000 in
set_option maxRecDepth 20000 in
set_option maxRecDepth 20000 in
theorem fc_Int_getChars_3 (cf : Nat → List Value → fn_M → Option fn_R) (K : Nat → fn_K) (m : Nat) (a1 a2 : Int32) (x : fn_M) : fn_runc 0 cf (fn_lk fn_d155) [22] K (m + 11) 0 [(0, .int a1), (1, .int a2), (2, .ref 43)] [] x =
  (if 0 ≤ a1 then
    K (m + 0) 22 [(0, .int (-a1)), (1, .int a2), (2, .ref 43), (5, .int a2), (6, .int 0)] [] x
    else
    K (m + 2) 22 [(0, .int a1), (1, .int a2), (2, .ref 43), (5, .int a2), (6, .int 1)] [] x) := rfl
theorem ft_Int_getChars_3 (n d : Nat) (a1 a2 : Int32) (x : fn_M) : fn_ev 0 (n + 2000) (d + 1) 155 [.int a1, .int a2, .ref 43] x =
  (if 0 ≤ a1 then
    fn_run 0 (fn_ev 0 (n + 2000) d) (fn_lk fn_d155) (n + 1989) 22 [(0, .int (-a1)), (1, .int a2), (2, .ref 43), (5, .int a2), (6, .int 0)] [] x
    else
    fn_run 0 (fn_ev 0 (n + 2000) d) (fn_lk fn_d155) (n + 1991) 22 [(0, .int a1), (1, .int a2), (2, .ref 43), (5, .int a2), (6, .int 1)] [] x) :=
  fn_ev_t (dd := fn_d155) (lo := [(0, .int a1), (1, .int a2), (2, .ref 43)]) (sp := [22]) rfl rfl rfl (fc_Int_getChars_3 (fn_ev 0 (n + 2000) d) (fn_run 0 (fn_ev 0 (n + 2000) d) (fn_lk fn_d155)) (n + 1989) a1 a2 x)
set_option maxRecDepth 20000 in
set_option maxRecDepth 20000 in
set_option maxRecDepth 20000 in
theorem fc_Int_getChars_4 (cf : Nat → List Value → fn_M → Option fn_R) (K : Nat → fn_K) (m : Nat) (a1 a2 : Int32) (x : fn_M) : fn_runc 0 cf (fn_lk fn_d155) [22] K (m + 11) 0 [(0, .int a1), (1, .int a2), (2, .ref 44)] [] x =
  (if 0 ≤ a1 then
    K (m + 0) 22 [(0, .int (-a1)), (1, .int a2), (2, .ref 44), (5, .int a2), (6, .int 0)] [] x
    else
    K (m + 2) 22 [(0, .int a1), (1, .int a2), (2, .ref 44), (5, .int a2), (6, .int 1)] [] x) := rfl
theorem ft_Int_getChars_4 (n d : Nat) (a1 a2 : Int32) (x : fn_M) : fn_ev 0 (n + 2000) (d + 1) 155 [.int a1, .int a2, .ref 44] x =
  (if 0 ≤ a1 then
    fn_run 0 (fn_ev 0 (n + 2000) d) (fn_lk fn_d155) (n + 1989) 22 [(0, .int (-a1)), (1, .int a2), (2, .ref 44), (5, .int a2), (6, .int 0)] [] x
    else
    fn_run 0 (fn_ev 0 (n + 2000) d) (fn_lk fn_d155) (n + 1991) 22 [(0, .int a1), (1, .int a2), (2, .ref 44), (5, .int a2), (6, .int 1)] [] x) :=
  fn_ev_t (dd := fn_d155) (lo := [(0, .int a1), (1, .int a2), (2, .ref 44)]) (sp := [22]) rfl rfl rfl (fc_Int_getChars_4 (fn_ev 0 (n + 2000) d) (fn_run 0 (fn_ev 0 (n + 2000) d) (fn_lk fn_d155)) (n + 1989) a1 a2 x)
set_option maxRecDepth 20000 in
set_option maxRecDepth 20000 in
set_option maxRecDepth 20000 in
theorem fc_Lat_canEncode (cf : Nat → List Value → fn_M → Option fn_R) (K : Nat → fn_K) (m : Nat) (a1 : Int32) (x : fn_M) : fn_runc 0 cf (fn_lk fn_d156) [] K (m + 6) 0 [(0, .int a1)] [] x =
  (if 255 < a1 then
    some (x, some (.int 0))
    else
    some (x, some (.int 1))) := rfl
theorem ft_Lat_canEncode (n d : Nat) (a1 : Int32) (x : fn_M) : fn_ev 0 (n + 2000) (d + 1) 156 [.int a1] x =
  (if 255 < a1 then
    some (x, some (.int 0))
    else
    some (x, some (.int 1))) :=
  fn_ev_t (dd := fn_d156) (lo := [(0, .int a1)]) (sp := []) rfl rfl rfl (fc_Lat_canEncode (fn_ev 0 (n + 2000) d) (fn_run 0 (fn_ev 0 (n + 2000) d) (fn_lk fn_d156)) (n + 1994) a1 x)

