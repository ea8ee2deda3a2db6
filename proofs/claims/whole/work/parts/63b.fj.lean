/-! ===== the JDK's append ===== -/
section fjA
theorem fj_size (n d : Nat) (x : fn_M) {v : Nat} (hv : v ≤ 9999) : fn_ev 2 (n + 2000) (d + 1) 154 [.int (nI v)] x = some (x, some (.int (nI (fr_dg v)))) := by
  rw [fz_Int_stringSize n d, if_neg (nI_pos (by omega)), show n + 1991 = (n + 1872) + 119 from rfl, fz_Int_stringSize_at11_0 n d, show (-10 : Int32) = -nI 10 from rfl, show (-100 : Int32) = -nI 100 from rfl, show (-1000 : Int32) = -nI 1000 from rfl, show (-10000 : Int32) = -nI 10000 from rfl]
  rcases fi_dgv hv with ⟨a, e⟩ | ⟨a, b, e⟩ | ⟨a, b, e⟩ | ⟨a, e⟩
  · rw [if_neg (fun q => by have := (fi_nle (by omega) (by omega)).mp q; omega), e]
    rfl
  · rw [if_pos ((fi_nle (by omega) (by omega)).mpr (by omega)), if_neg (fun q => by have := (fi_nle (by omega) (by omega)).mp q; omega), e]
    rfl
  · rw [if_pos ((fi_nle (by omega) (by omega)).mpr (by omega)), if_pos ((fi_nle (by omega) (by omega)).mpr (by omega)), if_neg (fun q => by have := (fi_nle (by omega) (by omega)).mp q; omega), e]
    rfl
  · rw [if_pos ((fi_nle (by omega) (by omega)).mpr (by omega)), if_pos ((fi_nle (by omega) (by omega)).mpr (by omega)), if_pos ((fi_nle (by omega) (by omega)).mpr (by omega)), if_neg (fun q => by have := (fi_nle (by omega) (by omega)).mp q; omega), e]
    rfl
/-- the last one or two digits -/
def fj_dd (x : fn_M) (w p : Nat) : fn_M := if w < 10 then fn_w x 12 (p + 1) (nI (48 + w)) else fn_w (fn_w x 12 (p + 1) (nI (48 + w % 10))) 12 p (nI (48 + w / 10))
theorem fj_r5_22 (n d m q : Nat) (l0 l1 l5 l6 : Int32) (x : fn_M) : fn_run 2 (fn_ev 2 (n + 2000) d) (fn_lk fn_d155) (m + 3) 22 [(0, .int l0), (1, .int l1), (2, .ref q), (5, .int l5), (6, .int l6)] [] x = (if (-100) < l0 then fn_run 2 (fn_ev 2 (n + 2000) d) (fn_lk fn_d155) m 72 [(0, .int l0), (1, .int l1), (2, .ref q), (5, .int l5), (6, .int l6)] [] x else fn_run 2 (fn_ev 2 (n + 2000) d) (fn_lk fn_d155) m 28 [(0, .int l0), (1, .int l1), (2, .ref q), (5, .int l5), (6, .int l6)] [] x) := rfl
theorem fj_r5_72 (n d m q : Nat) (l0 l1 l5 l6 : Int32) (x : fn_M) : fn_run 2 (fn_ev 2 (n + 2000) d) (fn_lk fn_d155) (m + 6) 72 [(0, .int l0), (1, .int l1), (2, .ref q), (5, .int l5), (6, .int l6)] [] x = fn_run 2 (fn_ev 2 (n + 2000) d) (fn_lk fn_d155) m 83 [(0, .int l0), (1, .int l1), (2, .ref q), (5, .int (l5 + (-1))), (6, .int l6)] [.int (-l0), .ref 1000, .int (l5 + (-1)), .ref q] x := rfl
theorem fj_r5_83 (n d m q : Nat) (l0 l1 l5 l6 : Int32) (x : fn_M) (i u : Int32) : fn_run 2 (fn_ev 2 (n + 2000) d) (fn_lk fn_d155) (m + 1) 83 [(0, .int l0), (1, .int l1), (2, .ref q), (5, .int l5), (6, .int l6)] [.int i, .ref 1000, .int u, .ref q] x = (if i < 0 ∨ (fn_ro 1000).length ≤ i.toNatClampNeg then none else fn_run 2 (fn_ev 2 (n + 2000) d) (fn_lk fn_d155) m 84 [(0, .int l0), (1, .int l1), (2, .ref q), (5, .int l5), (6, .int l6)] [.int ((fn_ro 1000).getD i.toNatClampNeg 0), .int u, .ref q] x) := rfl
theorem fj_r5_102 (n d m q : Nat) (l0 l1 l5 l6 : Int32) (x : fn_M) (i u : Int32) : fn_run 2 (fn_ev 2 (n + 2000) d) (fn_lk fn_d155) (m + 1) 102 [(0, .int l0), (1, .int l1), (2, .ref q), (5, .int l5), (6, .int l6)] [.int i, .ref 1001, .int u, .ref q] x = (if i < 0 ∨ (fn_ro 1001).length ≤ i.toNatClampNeg then none else fn_run 2 (fn_ev 2 (n + 2000) d) (fn_lk fn_d155) m 103 [(0, .int l0), (1, .int l1), (2, .ref q), (5, .int l5), (6, .int l6)] [.int ((fn_ro 1001).getD i.toNatClampNeg 0), .int u, .ref q] x) := rfl
theorem fj_r5_84 (n d m q : Nat) (l0 l1 l5 l6 : Int32) (x : fn_M) (u v : Int32) : fn_run 2 (fn_ev 2 (n + 2000) d) (fn_lk fn_d155) (m + 1) 84 [(0, .int l0), (1, .int l1), (2, .ref q), (5, .int l5), (6, .int l6)] [.int v, .int u, .ref q] x = (if (fn_la 2 q).1 = 3 then (if u < 0 ∨ (fn_la 2 q).2 ≤ u.toNatClampNeg then none else fn_run 2 (fn_ev 2 (n + 2000) d) (fn_lk fn_d155) m 85 [(0, .int l0), (1, .int l1), (2, .ref q), (5, .int l5), (6, .int l6)] [] (fn_w x q u.toNatClampNeg ((v : Int32).toInt8.toInt32))) else none) := rfl
theorem fj_r5_103 (n d m q : Nat) (l0 l1 l5 l6 : Int32) (x : fn_M) (u v : Int32) : fn_run 2 (fn_ev 2 (n + 2000) d) (fn_lk fn_d155) (m + 1) 103 [(0, .int l0), (1, .int l1), (2, .ref q), (5, .int l5), (6, .int l6)] [.int v, .int u, .ref q] x = (if (fn_la 2 q).1 = 3 then (if u < 0 ∨ (fn_la 2 q).2 ≤ u.toNatClampNeg then none else fn_run 2 (fn_ev 2 (n + 2000) d) (fn_lk fn_d155) m 104 [(0, .int l0), (1, .int l1), (2, .ref q), (5, .int l5), (6, .int l6)] [] (fn_w x q u.toNatClampNeg ((v : Int32).toInt8.toInt32))) else none) := rfl
theorem fj_r5_85 (n d m q : Nat) (l0 l1 l5 l6 : Int32) (x : fn_M) : fn_run 2 (fn_ev 2 (n + 2000) d) (fn_lk fn_d155) (m + 3) 85 [(0, .int l0), (1, .int l1), (2, .ref q), (5, .int l5), (6, .int l6)] [] x = (if (-9) ≤ l0 then fn_run 2 (fn_ev 2 (n + 2000) d) (fn_lk fn_d155) m 104 [(0, .int l0), (1, .int l1), (2, .ref q), (5, .int l5), (6, .int l6)] [] x else fn_run 2 (fn_ev 2 (n + 2000) d) (fn_lk fn_d155) m 91 [(0, .int l0), (1, .int l1), (2, .ref q), (5, .int l5), (6, .int l6)] [] x) := rfl
theorem fj_r5_91 (n d m q : Nat) (l0 l1 l5 l6 : Int32) (x : fn_M) : fn_run 2 (fn_ev 2 (n + 2000) d) (fn_lk fn_d155) (m + 6) 91 [(0, .int l0), (1, .int l1), (2, .ref q), (5, .int l5), (6, .int l6)] [] x = fn_run 2 (fn_ev 2 (n + 2000) d) (fn_lk fn_d155) m 102 [(0, .int l0), (1, .int l1), (2, .ref q), (5, .int (l5 + (-1))), (6, .int l6)] [.int (-l0), .ref 1001, .int (l5 + (-1)), .ref q] x := rfl
theorem fj_r5_104 (n d m q : Nat) (l0 l1 l5 : Int32) (x : fn_M) : fn_run 2 (fn_ev 2 (n + 2000) d) (fn_lk fn_d155) (m + 4) 104 [(0, .int l0), (1, .int l1), (2, .ref q), (5, .int l5), (6, .int 0)] [] x = some (x, some (.int l5)) := rfl
theorem fj_r7_22 (n d m q : Nat) (l0 l1 l3 l4 l5 l6 : Int32) (x : fn_M) : fn_run 2 (fn_ev 2 (n + 2000) d) (fn_lk fn_d155) (m + 3) 22 [(0, .int l0), (1, .int l1), (2, .ref q), (3, .int l3), (4, .int l4), (5, .int l5), (6, .int l6)] [] x = (if (-100) < l0 then fn_run 2 (fn_ev 2 (n + 2000) d) (fn_lk fn_d155) m 72 [(0, .int l0), (1, .int l1), (2, .ref q), (3, .int l3), (4, .int l4), (5, .int l5), (6, .int l6)] [] x else fn_run 2 (fn_ev 2 (n + 2000) d) (fn_lk fn_d155) m 28 [(0, .int l0), (1, .int l1), (2, .ref q), (3, .int l3), (4, .int l4), (5, .int l5), (6, .int l6)] [] x) := rfl
theorem fj_r7_72 (n d m q : Nat) (l0 l1 l3 l4 l5 l6 : Int32) (x : fn_M) : fn_run 2 (fn_ev 2 (n + 2000) d) (fn_lk fn_d155) (m + 6) 72 [(0, .int l0), (1, .int l1), (2, .ref q), (3, .int l3), (4, .int l4), (5, .int l5), (6, .int l6)] [] x = fn_run 2 (fn_ev 2 (n + 2000) d) (fn_lk fn_d155) m 83 [(0, .int l0), (1, .int l1), (2, .ref q), (3, .int l3), (4, .int l4), (5, .int (l5 + (-1))), (6, .int l6)] [.int (-l0), .ref 1000, .int (l5 + (-1)), .ref q] x := rfl
theorem fj_r7_83 (n d m q : Nat) (l0 l1 l3 l4 l5 l6 : Int32) (x : fn_M) (i u : Int32) : fn_run 2 (fn_ev 2 (n + 2000) d) (fn_lk fn_d155) (m + 1) 83 [(0, .int l0), (1, .int l1), (2, .ref q), (3, .int l3), (4, .int l4), (5, .int l5), (6, .int l6)] [.int i, .ref 1000, .int u, .ref q] x = (if i < 0 ∨ (fn_ro 1000).length ≤ i.toNatClampNeg then none else fn_run 2 (fn_ev 2 (n + 2000) d) (fn_lk fn_d155) m 84 [(0, .int l0), (1, .int l1), (2, .ref q), (3, .int l3), (4, .int l4), (5, .int l5), (6, .int l6)] [.int ((fn_ro 1000).getD i.toNatClampNeg 0), .int u, .ref q] x) := rfl
theorem fj_r7_102 (n d m q : Nat) (l0 l1 l3 l4 l5 l6 : Int32) (x : fn_M) (i u : Int32) : fn_run 2 (fn_ev 2 (n + 2000) d) (fn_lk fn_d155) (m + 1) 102 [(0, .int l0), (1, .int l1), (2, .ref q), (3, .int l3), (4, .int l4), (5, .int l5), (6, .int l6)] [.int i, .ref 1001, .int u, .ref q] x = (if i < 0 ∨ (fn_ro 1001).length ≤ i.toNatClampNeg then none else fn_run 2 (fn_ev 2 (n + 2000) d) (fn_lk fn_d155) m 103 [(0, .int l0), (1, .int l1), (2, .ref q), (3, .int l3), (4, .int l4), (5, .int l5), (6, .int l6)] [.int ((fn_ro 1001).getD i.toNatClampNeg 0), .int u, .ref q] x) := rfl
theorem fj_r7_84 (n d m q : Nat) (l0 l1 l3 l4 l5 l6 : Int32) (x : fn_M) (u v : Int32) : fn_run 2 (fn_ev 2 (n + 2000) d) (fn_lk fn_d155) (m + 1) 84 [(0, .int l0), (1, .int l1), (2, .ref q), (3, .int l3), (4, .int l4), (5, .int l5), (6, .int l6)] [.int v, .int u, .ref q] x = (if (fn_la 2 q).1 = 3 then (if u < 0 ∨ (fn_la 2 q).2 ≤ u.toNatClampNeg then none else fn_run 2 (fn_ev 2 (n + 2000) d) (fn_lk fn_d155) m 85 [(0, .int l0), (1, .int l1), (2, .ref q), (3, .int l3), (4, .int l4), (5, .int l5), (6, .int l6)] [] (fn_w x q u.toNatClampNeg ((v : Int32).toInt8.toInt32))) else none) := rfl
theorem fj_r7_103 (n d m q : Nat) (l0 l1 l3 l4 l5 l6 : Int32) (x : fn_M) (u v : Int32) : fn_run 2 (fn_ev 2 (n + 2000) d) (fn_lk fn_d155) (m + 1) 103 [(0, .int l0), (1, .int l1), (2, .ref q), (3, .int l3), (4, .int l4), (5, .int l5), (6, .int l6)] [.int v, .int u, .ref q] x = (if (fn_la 2 q).1 = 3 then (if u < 0 ∨ (fn_la 2 q).2 ≤ u.toNatClampNeg then none else fn_run 2 (fn_ev 2 (n + 2000) d) (fn_lk fn_d155) m 104 [(0, .int l0), (1, .int l1), (2, .ref q), (3, .int l3), (4, .int l4), (5, .int l5), (6, .int l6)] [] (fn_w x q u.toNatClampNeg ((v : Int32).toInt8.toInt32))) else none) := rfl
theorem fj_r7_85 (n d m q : Nat) (l0 l1 l3 l4 l5 l6 : Int32) (x : fn_M) : fn_run 2 (fn_ev 2 (n + 2000) d) (fn_lk fn_d155) (m + 3) 85 [(0, .int l0), (1, .int l1), (2, .ref q), (3, .int l3), (4, .int l4), (5, .int l5), (6, .int l6)] [] x = (if (-9) ≤ l0 then fn_run 2 (fn_ev 2 (n + 2000) d) (fn_lk fn_d155) m 104 [(0, .int l0), (1, .int l1), (2, .ref q), (3, .int l3), (4, .int l4), (5, .int l5), (6, .int l6)] [] x else fn_run 2 (fn_ev 2 (n + 2000) d) (fn_lk fn_d155) m 91 [(0, .int l0), (1, .int l1), (2, .ref q), (3, .int l3), (4, .int l4), (5, .int l5), (6, .int l6)] [] x) := rfl
theorem fj_r7_91 (n d m q : Nat) (l0 l1 l3 l4 l5 l6 : Int32) (x : fn_M) : fn_run 2 (fn_ev 2 (n + 2000) d) (fn_lk fn_d155) (m + 6) 91 [(0, .int l0), (1, .int l1), (2, .ref q), (3, .int l3), (4, .int l4), (5, .int l5), (6, .int l6)] [] x = fn_run 2 (fn_ev 2 (n + 2000) d) (fn_lk fn_d155) m 102 [(0, .int l0), (1, .int l1), (2, .ref q), (3, .int l3), (4, .int l4), (5, .int (l5 + (-1))), (6, .int l6)] [.int (-l0), .ref 1001, .int (l5 + (-1)), .ref q] x := rfl
theorem fj_r7_104 (n d m q : Nat) (l0 l1 l3 l4 l5 : Int32) (x : fn_M) : fn_run 2 (fn_ev 2 (n + 2000) d) (fn_lk fn_d155) (m + 4) 104 [(0, .int l0), (1, .int l1), (2, .ref q), (3, .int l3), (4, .int l4), (5, .int l5), (6, .int 0)] [] x = some (x, some (.int l5)) := rfl
theorem fj_r5_28 (n d m q : Nat) (l0 l1 l5 l6 : Int32) (x : fn_M) : fn_run 2 (fn_ev 2 (n + 2000) d) (fn_lk fn_d155) (m + 17) 28 [(0, .int l0), (1, .int l1), (2, .ref q), (5, .int l5), (6, .int l6)] [] x = fn_run 2 (fn_ev 2 (n + 2000) d) (fn_lk fn_d155) m 54 [(0, .int (l0 / 100)), (1, .int l1), (2, .ref q), (3, .int (l0 / 100)), (4, .int (((l0 / 100) * 100) - l0)), (5, .int (l5 + (-1))), (6, .int l6)] [.int (((l0 / 100) * 100) - l0), .ref 1000, .int (l5 + (-1)), .ref q] x := rfl
theorem fj_r7_54 (n d m q : Nat) (l0 l1 l3 l4 l5 l6 : Int32) (x : fn_M) (i u : Int32) : fn_run 2 (fn_ev 2 (n + 2000) d) (fn_lk fn_d155) (m + 1) 54 [(0, .int l0), (1, .int l1), (2, .ref q), (3, .int l3), (4, .int l4), (5, .int l5), (6, .int l6)] [.int i, .ref 1000, .int u, .ref q] x = (if i < 0 ∨ (fn_ro 1000).length ≤ i.toNatClampNeg then none else fn_run 2 (fn_ev 2 (n + 2000) d) (fn_lk fn_d155) m 55 [(0, .int l0), (1, .int l1), (2, .ref q), (3, .int l3), (4, .int l4), (5, .int l5), (6, .int l6)] [.int ((fn_ro 1000).getD i.toNatClampNeg 0), .int u, .ref q] x) := rfl
theorem fj_r7_67 (n d m q : Nat) (l0 l1 l3 l4 l5 l6 : Int32) (x : fn_M) (i u : Int32) : fn_run 2 (fn_ev 2 (n + 2000) d) (fn_lk fn_d155) (m + 1) 67 [(0, .int l0), (1, .int l1), (2, .ref q), (3, .int l3), (4, .int l4), (5, .int l5), (6, .int l6)] [.int i, .ref 1001, .int u, .ref q] x = (if i < 0 ∨ (fn_ro 1001).length ≤ i.toNatClampNeg then none else fn_run 2 (fn_ev 2 (n + 2000) d) (fn_lk fn_d155) m 68 [(0, .int l0), (1, .int l1), (2, .ref q), (3, .int l3), (4, .int l4), (5, .int l5), (6, .int l6)] [.int ((fn_ro 1001).getD i.toNatClampNeg 0), .int u, .ref q] x) := rfl
theorem fj_r7_55 (n d m q : Nat) (l0 l1 l3 l4 l5 l6 : Int32) (x : fn_M) (u v : Int32) : fn_run 2 (fn_ev 2 (n + 2000) d) (fn_lk fn_d155) (m + 1) 55 [(0, .int l0), (1, .int l1), (2, .ref q), (3, .int l3), (4, .int l4), (5, .int l5), (6, .int l6)] [.int v, .int u, .ref q] x = (if (fn_la 2 q).1 = 3 then (if u < 0 ∨ (fn_la 2 q).2 ≤ u.toNatClampNeg then none else fn_run 2 (fn_ev 2 (n + 2000) d) (fn_lk fn_d155) m 56 [(0, .int l0), (1, .int l1), (2, .ref q), (3, .int l3), (4, .int l4), (5, .int l5), (6, .int l6)] [] (fn_w x q u.toNatClampNeg ((v : Int32).toInt8.toInt32))) else none) := rfl
theorem fj_r7_68 (n d m q : Nat) (l0 l1 l3 l4 l5 l6 : Int32) (x : fn_M) (u v : Int32) : fn_run 2 (fn_ev 2 (n + 2000) d) (fn_lk fn_d155) (m + 1) 68 [(0, .int l0), (1, .int l1), (2, .ref q), (3, .int l3), (4, .int l4), (5, .int l5), (6, .int l6)] [.int v, .int u, .ref q] x = (if (fn_la 2 q).1 = 3 then (if u < 0 ∨ (fn_la 2 q).2 ≤ u.toNatClampNeg then none else fn_run 2 (fn_ev 2 (n + 2000) d) (fn_lk fn_d155) m 69 [(0, .int l0), (1, .int l1), (2, .ref q), (3, .int l3), (4, .int l4), (5, .int l5), (6, .int l6)] [] (fn_w x q u.toNatClampNeg ((v : Int32).toInt8.toInt32))) else none) := rfl
theorem fj_r7_56 (n d m q : Nat) (l0 l1 l3 l4 l5 l6 : Int32) (x : fn_M) : fn_run 2 (fn_ev 2 (n + 2000) d) (fn_lk fn_d155) (m + 5) 56 [(0, .int l0), (1, .int l1), (2, .ref q), (3, .int l3), (4, .int l4), (5, .int l5), (6, .int l6)] [] x = fn_run 2 (fn_ev 2 (n + 2000) d) (fn_lk fn_d155) m 67 [(0, .int l0), (1, .int l1), (2, .ref q), (3, .int l3), (4, .int l4), (5, .int (l5 + (-1))), (6, .int l6)] [.int l4, .ref 1001, .int (l5 + (-1)), .ref q] x := rfl
theorem fj_r7_69 (n d m q : Nat) (l0 l1 l3 l4 l5 l6 : Int32) (x : fn_M) : fn_run 2 (fn_ev 2 (n + 2000) d) (fn_lk fn_d155) (m + 1) 69 [(0, .int l0), (1, .int l1), (2, .ref q), (3, .int l3), (4, .int l4), (5, .int l5), (6, .int l6)] [] x = fn_run 2 (fn_ev 2 (n + 2000) d) (fn_lk fn_d155) m 22 [(0, .int l0), (1, .int l1), (2, .ref q), (3, .int l3), (4, .int l4), (5, .int l5), (6, .int l6)] [] x := rfl
theorem fj_gc5 (n d m : Nat) (x : fn_M) {w p : Nat} (hw : w < 100) (hp : p + 2 ≤ 16) (l1 : Int32) : ∃ r, fn_run 2 (fn_ev 2 (n + 2000) d) (fn_lk fn_d155) (m + 31) 22 [(0, .int (-nI w)), (1, .int l1), (2, .ref 12), (5, .int (nI (p + 2))), (6, .int 0)] [] x = some (fj_dd x w p, some (.int r)) := by
  have cw : (nI w).toNatClampNeg = w := fr_cl (by omega)
  have c1 : (nI (p + 1)).toNatClampNeg = p + 1 := fr_cl (by omega)
  have c0 : (nI p).toNatClampNeg = p := fr_cl (by omega)
  have la1 : (fn_la 2 12).1 = 3 := by decide +kernel
  have la2 : (fn_la 2 12).2 = 16 := by decide +kernel
  rw [show m + 31 = (m + 28) + 3 from rfl, fj_r5_22, show (-100 : Int32) = -nI 100 from rfl, if_pos ((fi_nlt (by omega) (by omega)).mpr hw), show m + 28 = (m + 22) + 6 from rfl, fj_r5_72, Int32.neg_neg, show p + 2 = (p + 1) + 1 from rfl, fr_m1, show m + 22 = (m + 21) + 1 from rfl, fj_r5_83, fi_l0, cw, if_neg (fi_ix hw), show m + 21 = (m + 20) + 1 from rfl, fj_r5_84, if_pos la1, la2, c1, if_neg (fi_i16 (w := p + 1) (by omega)), fi_ones w hw, show m + 20 = (m + 17) + 3 from rfl, fj_r5_85, show (-9 : Int32) = -nI 9 from rfl]
  unfold fj_dd
  by_cases e : w < 10
  · rw [if_pos ((fi_nle (by omega) (by omega)).mpr (by omega)), if_pos e, Nat.mod_eq_of_lt e, show m + 17 = (m + 13) + 4 from rfl, fj_r5_104]
    exact ⟨_, rfl⟩
  · rw [if_neg (fun q => by have := (fi_nle (by omega) (by omega)).mp q; omega), if_neg e, show m + 17 = (m + 11) + 6 from rfl, fj_r5_91, Int32.neg_neg, fr_m1, show m + 11 = (m + 10) + 1 from rfl, fj_r5_102, fi_l1, cw, if_neg (fi_ix hw), show m + 10 = (m + 9) + 1 from rfl, fj_r5_103, if_pos la1, la2, c0, if_neg (fi_i16 (w := p) (by omega)), fi_tens w hw, show m + 9 = (m + 5) + 4 from rfl, fj_r5_104]
    exact ⟨_, rfl⟩
theorem fj_gc7 (n d m : Nat) (x : fn_M) {w p : Nat} (hw : w < 100) (hp : p + 2 ≤ 16) (l1 l3 l4 : Int32) : ∃ r, fn_run 2 (fn_ev 2 (n + 2000) d) (fn_lk fn_d155) (m + 31) 22 [(0, .int (-nI w)), (1, .int l1), (2, .ref 12), (3, .int l3), (4, .int l4), (5, .int (nI (p + 2))), (6, .int 0)] [] x = some (fj_dd x w p, some (.int r)) := by
  have cw : (nI w).toNatClampNeg = w := fr_cl (by omega)
  have c1 : (nI (p + 1)).toNatClampNeg = p + 1 := fr_cl (by omega)
  have c0 : (nI p).toNatClampNeg = p := fr_cl (by omega)
  have la1 : (fn_la 2 12).1 = 3 := by decide +kernel
  have la2 : (fn_la 2 12).2 = 16 := by decide +kernel
  rw [show m + 31 = (m + 28) + 3 from rfl, fj_r7_22, show (-100 : Int32) = -nI 100 from rfl, if_pos ((fi_nlt (by omega) (by omega)).mpr hw), show m + 28 = (m + 22) + 6 from rfl, fj_r7_72, Int32.neg_neg, show p + 2 = (p + 1) + 1 from rfl, fr_m1, show m + 22 = (m + 21) + 1 from rfl, fj_r7_83, fi_l0, cw, if_neg (fi_ix hw), show m + 21 = (m + 20) + 1 from rfl, fj_r7_84, if_pos la1, la2, c1, if_neg (fi_i16 (w := p + 1) (by omega)), fi_ones w hw, show m + 20 = (m + 17) + 3 from rfl, fj_r7_85, show (-9 : Int32) = -nI 9 from rfl]
  unfold fj_dd
  by_cases e : w < 10
  · rw [if_pos ((fi_nle (by omega) (by omega)).mpr (by omega)), if_pos e, Nat.mod_eq_of_lt e, show m + 17 = (m + 13) + 4 from rfl, fj_r7_104]
    exact ⟨_, rfl⟩
  · rw [if_neg (fun q => by have := (fi_nle (by omega) (by omega)).mp q; omega), if_neg e, show m + 17 = (m + 11) + 6 from rfl, fj_r7_91, Int32.neg_neg, fr_m1, show m + 11 = (m + 10) + 1 from rfl, fj_r7_102, fi_l1, cw, if_neg (fi_ix hw), show m + 10 = (m + 9) + 1 from rfl, fj_r7_103, if_pos la1, la2, c0, if_neg (fi_i16 (w := p) (by omega)), fi_tens w hw, show m + 9 = (m + 5) + 4 from rfl, fj_r7_104]
    exact ⟨_, rfl⟩
/-- two digits more -/
theorem fj_gs (n d m : Nat) (x : fn_M) {v p : Nat} (hv : v ≤ 9999) (h100 : 100 ≤ v) (hp : p + 2 ≤ 16) (l1 : Int32) : fn_run 2 (fn_ev 2 (n + 2000) d) (fn_lk fn_d155) (m + 31) 22 [(0, .int (-nI v)), (1, .int l1), (2, .ref 12), (5, .int (nI (p + 2))), (6, .int 0)] [] x =
    fn_run 2 (fn_ev 2 (n + 2000) d) (fn_lk fn_d155) (m + 1) 22 [(0, .int (-nI (v / 100))), (1, .int l1), (2, .ref 12), (3, .int (-nI (v / 100))), (4, .int (nI (v % 100))), (5, .int (nI p)), (6, .int 0)] [] (fn_w (fn_w x 12 (p + 1) (nI (48 + v % 100 % 10))) 12 p (nI (48 + v % 100 / 10))) := by
  have hr : v % 100 < 100 := Nat.mod_lt _ (by decide)
  have cw : (nI (v % 100)).toNatClampNeg = v % 100 := fr_cl (by omega)
  have c1 : (nI (p + 1)).toNatClampNeg = p + 1 := fr_cl (by omega)
  have c0 : (nI p).toNatClampNeg = p := fr_cl (by omega)
  have la1 : (fn_la 2 12).1 = 3 := by decide +kernel
  have la2 : (fn_la 2 12).2 = 16 := by decide +kernel
  rw [show m + 31 = (m + 28) + 3 from rfl, fj_r5_22, show (-100 : Int32) = -nI 100 from rfl, if_neg (fun q => by have := (fi_nlt (by omega) (by omega)).mp q; omega), show m + 28 = (m + 11) + 17 from rfl, fj_r5_28, fi_div hv, fi_rem, show p + 2 = (p + 1) + 1 from rfl, fr_m1, show m + 11 = (m + 10) + 1 from rfl, fj_r7_54, fi_l0, cw, if_neg (fi_ix hr), show m + 10 = (m + 9) + 1 from rfl, fj_r7_55, if_pos la1, la2, c1, if_neg (fi_i16 (w := p + 1) (by omega)), fi_ones _ hr, show m + 9 = (m + 4) + 5 from rfl, fj_r7_56, fr_m1, show m + 4 = (m + 3) + 1 from rfl, fj_r7_67, fi_l1, cw, if_neg (fi_ix hr), show m + 3 = (m + 2) + 1 from rfl, fj_r7_68, if_pos la1, la2, c0, if_neg (fi_i16 (w := p) (by omega)), fi_tens _ hr, show m + 2 = (m + 1) + 1 from rfl, fj_r7_69]
theorem fj_gc (n d : Nat) (x : fn_M) {v L : Nat} (hv : v ≤ 9999) (hL : 1 ≤ L) (h16 : L + fr_dg v ≤ 16) : ∃ x' r, fn_ev 2 (n + 2000) (d + 1) 155 [.int (nI v), .int (nI (L + fr_dg v)), .ref 12] x = some (x', some (.int r)) ∧ (∀ q, q ≠ 12 → x' q = x q) ∧ (∀ j, j < L → x' 12 j = x 12 j) ∧ (∀ i, i < fr_dg v → x' 12 (L + i) = nI (48 + v / 10 ^ (fr_dg v - 1 - i) % 10)) := by
  obtain ⟨p, rfl⟩ : ∃ p, L = p + 1 := ⟨L - 1, by omega⟩
  rw [fz_Int_getChars n d, if_pos (show (0 : Int32) ≤ nI v from nI_pos' (by omega))]
  rcases fi_dgv hv with ⟨a, e⟩ | ⟨a, b, e⟩ | ⟨a, b, e⟩ | ⟨a, e⟩
  · rw [e] at h16 ⊢
    obtain ⟨r, hr⟩ := fj_gc5 n d (n + 1958) x (w := v) (p := p) (by omega) (by omega) (nI (p + 1 + 1))
    refine ⟨_, r, hr, fun q b => ?_, fun j b => ?_, fun i b => ?_⟩
    all_goals (unfold fj_dd; rw [if_pos a])
    · exact fw_row b
    · exact fw_nj (by omega)
    · obtain rfl : i = 0 := by omega
      rw [show p + 1 + 0 = p + 1 from rfl, fw_eq, show 1 - 1 - 0 = 0 from rfl, Nat.pow_zero, Nat.div_one, Nat.mod_eq_of_lt a]
  · rw [e] at h16 ⊢
    obtain ⟨r, hr⟩ := fj_gc5 n d (n + 1958) x (w := v) (p := p + 1) (by omega) (by omega) (nI (p + 1 + 2))
    refine ⟨_, r, hr, fun q b => ?_, fun j b => ?_, fun i b => ?_⟩
    all_goals (unfold fj_dd; rw [if_neg (show ¬ v < 10 by omega)])
    · rw [fw_row b, fw_row b]
    · rw [fw_nj (by omega), fw_nj (by omega)]
    · obtain rfl | rfl : i = 0 ∨ i = 1 := by omega
      · rw [show p + 1 + 0 = p + 1 from rfl, fw_eq, show 2 - 1 - 0 = 1 from rfl, Nat.pow_one]
        all_goals (congr 2; omega)
      · rw [fw_nj (by omega), fw_eq, show 2 - 1 - 1 = 0 from rfl, Nat.pow_zero, Nat.div_one]
  · rw [e] at h16 ⊢
    have hq : v / 100 < 10 := by omega
    have hs := fj_gs n d (n + 1958) x (p := p + 2) hv a (by omega) (nI (p + 1 + 3))
    obtain ⟨r, hr⟩ := fj_gc7 n d (n + 1928) (fn_w (fn_w x 12 (p + 2 + 1) (nI (48 + v % 100 % 10))) 12 (p + 2) (nI (48 + v % 100 / 10))) (w := v / 100) (p := p) (by omega) (by omega) (nI (p + 1 + 3)) (-nI (v / 100)) (nI (v % 100))
    refine ⟨_, r, hs.trans hr, fun q b => ?_, fun j b => ?_, fun i b => ?_⟩
    all_goals (unfold fj_dd; rw [if_pos hq])
    · rw [fw_row b, fw_row b, fw_row b]
    · rw [fw_nj (by omega), fw_nj (by omega), fw_nj (by omega)]
    · obtain rfl | rfl | rfl : i = 0 ∨ i = 1 ∨ i = 2 := by omega
      · rw [show p + 1 + 0 = p + 1 from rfl, fw_eq, show 3 - 1 - 0 = 2 from rfl]
        all_goals (congr 2; omega)
      · rw [fw_nj (by omega), show p + 1 + 1 = p + 2 from rfl, fw_eq, show 3 - 1 - 1 = 1 from rfl, Nat.pow_one]
        all_goals (congr 2; omega)
      · rw [fw_nj (by omega), fw_nj (by omega), show p + 1 + 2 = p + 2 + 1 from rfl, fw_eq, show 3 - 1 - 2 = 0 from rfl, Nat.pow_zero, Nat.div_one]
        all_goals (congr 2; omega)
  · rw [e] at h16 ⊢
    have hq : ¬ v / 100 < 10 := by omega
    have hs := fj_gs n d (n + 1958) x (p := p + 3) hv (by omega) (by omega) (nI (p + 1 + 4))
    obtain ⟨r, hr⟩ := fj_gc7 n d (n + 1928) (fn_w (fn_w x 12 (p + 3 + 1) (nI (48 + v % 100 % 10))) 12 (p + 3) (nI (48 + v % 100 / 10))) (w := v / 100) (p := p + 1) (by omega) (by omega) (nI (p + 1 + 4)) (-nI (v / 100)) (nI (v % 100))
    refine ⟨_, r, hs.trans hr, fun q b => ?_, fun j b => ?_, fun i b => ?_⟩
    all_goals (unfold fj_dd; rw [if_neg hq])
    · rw [fw_row b, fw_row b, fw_row b, fw_row b]
    · rw [fw_nj (by omega), fw_nj (by omega), fw_nj (by omega), fw_nj (by omega)]
    · obtain rfl | rfl | rfl | rfl : i = 0 ∨ i = 1 ∨ i = 2 ∨ i = 3 := by omega
      · rw [show p + 1 + 0 = p + 1 from rfl, fw_eq, show 4 - 1 - 0 = 3 from rfl]
        all_goals (congr 2; omega)
      · rw [fw_nj (by omega), show p + 1 + 1 = p + 1 + 1 from rfl, fw_eq, show 4 - 1 - 1 = 2 from rfl]
        all_goals (congr 2; omega)
      · rw [fw_nj (by omega), fw_nj (by omega), show p + 1 + 2 = p + 3 from rfl, fw_eq, show 4 - 1 - 2 = 1 from rfl, Nat.pow_one]
        all_goals (congr 2; omega)
      · rw [fw_nj (by omega), fw_nj (by omega), fw_nj (by omega), show p + 1 + 3 = p + 3 + 1 from rfl, fw_eq, show 4 - 1 - 3 = 0 from rfl, Nat.pow_zero, Nat.div_one]
        all_goals (congr 2; omega)
theorem fj_cap (n d : Nat) (x : fn_M) {a : Nat} (ha : a ≤ 16) (e1 : x 8 1 = 0) : fn_ev 2 (n + 2000) (d + 1) 141 [.ref 8, .int (nI a)] x = some (x, none) := by
  rw [fz_ASB_ensureCapacityInternal n d, e1, if_pos (fi_capn a ha)]
theorem fj_lat (n d : Nat) (x : fn_M) (e1 : x 8 1 = 0) : fn_ev 2 (n + 2000) (d + 1) 146 [.ref 8] x = some (x, some (.int 1)) := by
  rw [fz_ASB_isLatin1 n d, if_pos e1]
theorem fj_appI (n d : Nat) (x : fn_M) {v L : Nat} (hv : v ≤ 9999) (hL : 1 ≤ L) (h16 : L + fr_dg v ≤ 16) (e1 : x 8 1 = 0) (e3 : x 8 3 = nI L) : ∃ x', fn_ev 2 (n + 2000) (d + 3) 136 [.ref 8, .int (nI v)] x = some (x', some (.ref 8)) ∧ (∀ q, q ≠ 8 → q ≠ 12 → x' q = x q) ∧ x' 8 1 = 0 ∧ x' 8 3 = nI (L + fr_dg v) ∧ (∀ j, j < L → x' 12 j = x 12 j) ∧ (∀ i, i < fr_dg v → x' 12 (L + i) = nI (48 + v / 10 ^ (fr_dg v - 1 - i) % 10)) := by
  obtain ⟨y, r, q1, q2, q3, q4⟩ := fj_gc n d x hv hL h16
  rw [fz_SB_appendI n (d + 2), fz_ASB_appendI n (d + 1), fj_size n d x hv, fb_i, e3, nI_add, fj_cap n d x h16 e1, fb_v, fj_lat n d x e1, fb_i, if_neg fr_10, q1, fb_i, fb_r]
  refine ⟨_, rfl, fun q b1 b2 => ?_, ?_, fw_eq, fun j b => ?_, fun i b => ?_⟩
  · rw [fw_row b1, q2 q b2]
  · rw [fw_nj (by decide), q2 _ (by omega)]
    exact e1
  · rw [fw_ne (by omega)]
    exact q3 j b
  · rw [fw_ne (by omega)]
    exact q4 i b
theorem fj_appC (n d : Nat) (x : fn_M) {L : Nat} (h16 : L + 1 ≤ 16) (e1 : x 8 1 = 0) (e3 : x 8 3 = nI L) : ∃ x', fn_ev 2 (n + 2000) (d + 3) 137 [.ref 8, .int 58] x = some (x', some (.ref 8)) ∧ (∀ q, q ≠ 8 → q ≠ 12 → x' q = x q) ∧ x' 8 1 = 0 ∧ x' 8 3 = nI (L + 1) ∧ (∀ j, j < L → x' 12 j = x 12 j) ∧ x' 12 L = nI 58 := by
  have cL : (nI L).toNatClampNeg = L := fr_cl (by omega)
  rw [fz_SB_appendC n (d + 2), fz_ASB_appendC n (d + 1), e3, nI_1, fj_cap n d x h16 e1, fb_v, fj_lat n d x e1, fb_i, if_neg fr_10, fz_Lat_canEncode n d, if_neg (show ¬ (255 : Int32) < 58 by decide), fb_i, if_neg fr_10, e3]
  simp only [cL, if_neg (fi_i16 (w := L) (by omega))]
  rw [fb_r, nI_1, fi_58]
  refine ⟨_, rfl, fun q b1 b2 => ?_, ?_, ?_, fun j b => ?_, fw_eq⟩
  · rw [fw_row b2, fw_row b1]
  · rw [fw_ne (by omega), fw_nj (by decide)]
    exact e1
  · rw [fw_ne (by omega), fw_eq]
  · rw [fw_nj (by omega), fw_ne (by omega)]
theorem fj_appS (n d : Nat) (x : fn_M) (e1 : x 8 1 = 0) (e3 : x 8 3 = nI 0) : ∃ x', fn_ev 2 (n + 2000) (d + 5) 135 [.ref 8, .ref 1002] x = some (x', some (.ref 8)) ∧ (∀ q, q ≠ 8 → q ≠ 12 → x' q = x q) ∧ x' 8 1 = 0 ∧ x' 8 3 = nI 5 ∧ (∀ j, j < 5 → x' 12 j = fn_lit.getD j 0) := by
  have hla : 1003 = 1003 ∧ (fn_la 2 12).1 = 3 ∧ true = true := ⟨rfl, by decide +kernel, rfl⟩
  have hbd : ¬ ((0 : Int32) < 0 ∨ (((0 : Int32) <<< ((0 : Int32) &&& 31)) : Int32) < 0 ∨ (5 : Int32) < 0 ∨ ¬ 0 + 5 ≤ 5 ∨ ¬ ((0 : Int32) <<< ((0 : Int32) &&& 31)).toNatClampNeg + 5 ≤ (fn_la 2 12).2) := by
    rw [show (fn_la 2 12).2 = 16 by decide +kernel]
    decide
  rw [fz_SB_appendS n (d + 4), fz_ASB_appendS n (d + 3), fz_Str_length n (d + 2), fz_Str_coder n (d + 1), fb_i, fb_i, show (5 : Int32) >>> ((0 : Int32) &&& 31) = nI 5 from rfl, e3, nI_add, fj_cap n (d + 2) x (by decide) e1, fb_v, fz_ASB_putStringAt n (d + 2), fz_ASB_inflateIfNeededFor n (d + 1), fz_Str_coder n d, fb_i, if_pos e1, fb_v, e1, e3, nI_0, fz_Str_getBytes n (d + 1), fz_Str_coder n d, fb_i, if_pos rfl, if_pos hla, if_neg hbd, fb_v, fb_v, fb_r]
  have hq : ∀ q, q ≠ 12 → fn_cp x 12 0 ((0 : Int32) <<< ((0 : Int32) &&& 31)).toNatClampNeg 5 q = x q := fun q b => if_neg b
  refine ⟨_, rfl, fun q b1 b2 => ?_, ?_, ?_, fun j b => ?_⟩
  · rw [fw_row b1, hq q b2]
  · rw [fw_nj (by decide), hq _ (by omega)]
    exact e1
  · rw [fw_eq, hq _ (by omega), e3, nI_add]
  · rw [fw_ne (by omega)]
    show (if 12 = 12 then va_cpy (fun j => fn_lit.getD j 0) (x 12) 0 ((0 : Int32) <<< ((0 : Int32) &&& 31)).toNatClampNeg 5 else x 12) j = _
    rw [if_pos rfl]
    show (if ((0 : Int32) <<< ((0 : Int32) &&& 31)).toNatClampNeg ≤ j ∧ j < ((0 : Int32) <<< ((0 : Int32) &&& 31)).toNatClampNeg + 5 then fn_lit.getD (0 + (j - ((0 : Int32) <<< ((0 : Int32) &&& 31)).toNatClampNeg)) 0 else x 12 j) = _
    rw [show ((0 : Int32) <<< ((0 : Int32) &&& 31)).toNatClampNeg = 0 from rfl, if_pos ⟨Nat.zero_le _, by omega⟩, Nat.zero_add, Nat.sub_zero]
theorem fj_set0 (n d : Nat) (x : fn_M) {L : Nat} (hL : L ≤ 16) (e1 : x 8 1 = 0) (e3 : x 8 3 = nI L) : ∃ x', fn_ev 2 (n + 2000) (d + 3) 134 [.ref 8, .int 0] x = some (x', none) ∧ (∀ q, q ≠ 8 → x' q = x q) ∧ x' 8 1 = 0 ∧ x' 8 3 = nI 0 := by
  have hc := fj_cap n d x (a := 0) (by decide) e1
  rw [nI_0] at hc
  rw [fz_SB_setLength n (d + 2), fz_ASB_setLength n (d + 1), if_pos (show (0 : Int32) ≤ 0 by decide), hc, fb_v, e3, if_pos (show (0 : Int32) ≤ nI L from nI_pos' (by omega))]
  by_cases e : nI L ≤ 0
  · rw [if_pos e, fb_v]
    refine ⟨_, rfl, fun q b => fw_row b, ?_, ?_⟩
    · rw [fw_nj (by decide)]; exact e1
    · rw [fw_eq, nI_0]
  · rw [if_neg e, fb_v]
    refine ⟨_, rfl, fun q b => ?_, ?_, ?_⟩
    · rw [fw_row b, fw_row b]
    · rw [fw_nj (by decide), fw_nj (by decide)]; exact e1
    · rw [fw_eq, nI_0]
/-- a node takes an identity -/
theorem fj_take {k : Nat} (h1 : 1 ≤ k) (h2 : k ≤ 4) (n d : Nat) (x : fn_M) {v L : Nat} (hv : v ≤ 9999) (hL : L ≤ 16) (e0 : x 0 0 = nI k) (e1 : x 8 1 = 0) (e3 : x 8 3 = nI L) : ∃ x', fn_ev 2 (n + 2000) (d + 6) 27 [.ref 0, .int (nI v)] x = some (x', none) ∧ (∀ q, q ≠ 4 → q ≠ 8 → q ≠ 12 → x' q = x q) ∧ x' 4 = (fn_w x 4 0 (nI v)) 4 ∧ x' 8 1 = 0 ∧ x' 8 3 = nI (7 + fr_dg v) ∧ (∀ j, j < 7 + fr_dg v → x' 12 j = nI (fr_nm k v j)) := by
  have hd := fr_dg_le v
  obtain ⟨y1, a1, a2, a3, a4⟩ := fj_set0 n (d + 2) (fn_w x 4 0 (nI v)) hL (by rw [fw_ne (by omega)]; exact e1) (by rw [fw_ne (by omega)]; exact e3)
  obtain ⟨y2, b1, b2, b3, b4, b5⟩ := fj_appS n d y1 a3 a4
  obtain ⟨y3, c1, c2, c3, c4, c5, c6⟩ := fj_appI n (d + 2) y2 (v := k) (L := 5) (by omega) (by decide) (by have := fr_dg_le k; omega) b3 b4
  have hdk : fr_dg k = 1 := by
    unfold fr_dg
    rw [if_neg (by omega), if_neg (by omega), if_neg (by omega)]
  rw [hdk] at c4 c6
  obtain ⟨y4, g1, g2, g3, g4, g5, g6⟩ := fj_appC n (d + 2) y3 (L := 6) (by decide) c3 c4
  obtain ⟨y5, i1, i2, i3, i4, i5, i6⟩ := fj_appI n (d + 2) y4 hv (L := 7) (by decide) (by omega) g3 g4
  have n2 : y2 0 0 = nI k := by
    rw [b2 _ (by omega) (by omega), a2 _ (by omega), fw_ne (by omega)]
    exact e0
  rw [fz_Node_takeIdentity n (d + 5), a1, fb_v, b1, fb_r, if_pos (show (fn_lc 2 8 == 9) = true by decide +kernel), n2, c1, fb_r, if_pos (show (fn_lc 2 8 == 9) = true by decide +kernel), g1, fb_r, if_pos (show (fn_lc 2 8 == 9) = true by decide +kernel), i1, fb_r]
  refine ⟨y5, rfl, fun q w1 w2 w3 => ?_, ?_, i3, i4, fun j w => ?_⟩
  · rw [i2 q w2 w3, g2 q w2 w3, c2 q w2 w3, b2 q w2 w3, a2 q w2, fw_row w1]
  · rw [i2 _ (by omega) (by omega), g2 _ (by omega) (by omega), c2 _ (by omega) (by omega), b2 _ (by omega) (by omega), a2 _ (by omega)]
  · by_cases j7 : j < 7
    · rw [i5 j j7]
      by_cases j6 : j = 6
      · subst j6
        rw [g6]
        rfl
      · rw [g5 j (by omega)]
        by_cases j5 : j = 5
        · subst j5
          have := c6 0 (by decide)
          rw [show 5 + 0 = 5 from rfl, show 1 - 1 - 0 = 0 from rfl, Nat.pow_zero, Nat.div_one, Nat.mod_eq_of_lt (by omega)] at this
          rw [this]
          rfl
        · rw [c5 j (by omega), b5 j (by omega), fi_lit k h2 j (by omega)]
          unfold fr_nm
          obtain rfl | rfl | rfl | rfl | rfl : j = 0 ∨ j = 1 ∨ j = 2 ∨ j = 3 ∨ j = 4 := by omega
          all_goals rfl
    · have := i6 (j - 7) (by omega)
      rw [show 7 + (j - 7) = j by omega] at this
      rw [this]
      unfold fr_nm
      rw [if_neg (by omega), if_neg (by omega), if_neg (by omega), if_neg (by omega), if_neg (by omega), if_neg (by omega), if_neg (by omega), show fr_dg v - 1 - (j - 7) = 6 + fr_dg v - j by omega]
end fjA
