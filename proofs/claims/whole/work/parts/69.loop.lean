/-! ===== the law: its loop ===== -/
section KWL
variable {p : Program} {l : Launch} {e : Env} {s : State} {m : MethodId} {below : List Frame} {meth : Method} {c : Code} {b L : Nat} {xs : Nat → Int32} {cells slots : Nat} {D : va_G} {dA : Nat → ClassId} {ad0 ad1 : Nat → Nat} {i t : Nat}
theorem kw_n31 (a : Int32) : ∃ n, n < 32 ∧ a &&& 31 = nI n := by
  have h : a &&& 31 = Int32.ofBitVec (a.toBitVec &&& 31#32) := rfl
  refine ⟨(a.toBitVec &&& 31#32).toNat, ?_, ?_⟩
  · rw [BitVec.toNat_and]
    exact Nat.lt_of_le_of_lt Nat.and_le_right (by decide)
  · rw [h]
    apply Int32.toBitVec_inj.mp
    show a.toBitVec &&& 31#32 = BitVec.ofNat 32 _
    rw [BitVec.ofNat_toNat, BitVec.setWidth_eq]
theorem kw_loop (FX : kw_F D dA ad0 ad1 p s m meth c b L xs) (hcs : cells ≤ 600000 ∧ slots ≤ 7302250) : ∀ (r i t : Nat), L ≤ i + r → t * 5 ≤ i → i ≤ 2565 → kw_Go l e D dA ad0 ad1 p s m below meth c b cells slots 18 i t := by
  intro r
  induction r using Nat.strongRecOn with
  | ind r ih =>
    intro i t hr0 ht hib H locs ls hl hst
    have FX' := FX
    obtain ⟨B, hr, hlocks, hX, hbl, hL, had0, had1, hRO0, hRO1, hge0, hge1, hap⟩ := FX
    have hx := B.1
    have hb := B.2.1
    have hbA : ¬ (fun q => s.heap.size ≤ q) b := Nat.not_le.mpr hbl
    have hS : va_S (fun q => s.heap.size ≤ q) s.heap H locs := by
      obtain ⟨x, z, c', f, -, -, hS, -⟩ := hst
      exact hS
    refine lv_iload_n hx hb ke_18 rfl (lv_at hl 0 rfl) ?_
    refine lv_aload_n hx hb ke_19 rfl (lv_at hl 3 rfl) ?_
    refine va_slen hx hb hX hbl hbA hS ke_20 ?_
    refine lv_iconst (v := 5) hx hb ke_21 (by decide) ?_
    refine lv_isub hx hb ke_22 ?_
    have hcmp : (nI L - 5 < nI i) ↔ L < i + 5 := by
      rw [Int32.lt_iff_toInt_lt, nI_toInt (by omega)]
      by_cases h5 : 5 ≤ L
      · rw [show nI L - 5 = nI (L - 5) from fr_sub (b := 5) h5, nI_toInt (by omega)]
        omega
      · rcases (by omega : L = 0 ∨ L = 1 ∨ L = 2 ∨ L = 3 ∨ L = 4) with rfl | rfl | rfl | rfl | rfl
        · rw [show (nI 0 - 5).toInt = -5 from rfl]; omega
        · rw [show (nI 1 - 5).toInt = -4 from rfl]; omega
        · rw [show (nI 2 - 5).toInt = -3 from rfl]; omega
        · rw [show (nI 3 - 5).toInt = -2 from rfl]; omega
        · rw [show (nI 4 - 5).toInt = -1 from rfl]; omega
    refine lv_icmp_gt (tgt := 732) hx hb ke_23 (by decide) (fun _ => ?_) (fun hgt => ?_)
    · refine lv_iconst (v := 1) hx hb ke_732 (by decide) ?_
      refine va_forget (fun q hq => hS.2.2 q hq) ?_
      refine W.widen (k := 600000) (n := 7302250) hcs.1 hcs.2 ?_
      exact lw_ret hx hb hr hlocks ke_733
    · have hi5 : i + 5 ≤ L := Nat.le_of_not_lt fun h => hgt (hcmp.mpr h)
      have c0 : (nI (i + 0)).toNatClampNeg = i + 0 := fr_cl (by omega)
      refine lv_aload_n hx hb ke_26 rfl (lv_at hl 3 rfl) ?_
      refine lv_iload_n hx hb ke_27 rfl (lv_at hl 0 rfl) ?_
      refine va_sld hx hb hX hbl hbA hS (kw_in (i := i) (j := 0) (by omega) hL) ke_28 ?_
      refine lv_bipush (v := 31) hx hb ke_29 (by decide) ?_
      refine lv_iand hx hb ke_31 ?_
      obtain ⟨w, hw, ew⟩ := kw_n31 (xs (nI (i + 0)).toNatClampNeg)
      rw [show xs (nI i).toNatClampNeg &&& 31 = nI w from ew]
      have back : ∀ t', t' * 5 ≤ i + 5 → kw_Go l e D dA ad0 ad1 p s m below meth c b cells slots 726 i t' := by
        intro t' ht' H locs ls hl hst
        refine lv_iinc (v := nI (i + 5)) (k := 0) (lv' := [(3, .int (nI (i + 5))), (2, .ref (ad1 0)), (1, .ref (ad0 0)), (0, .ref b)]) hx hb ke_726 hl rfl (nI_add i 5) (by decide) rfl (fun ls hl => ?_)
        refine lv_goto (tgt := 18) hx hb ke_729 (by decide) ?_
        exact ih (r - 5) (by omega) (i + 5) t' (by omega) ht' (by omega) H locs ls hl hst
      have wI : (nI w).toInt = (w : Int) := nI_toInt (by omega)
      by_cases h18 : w < 18
      · rcases (by omega : w = 0 ∨ w = 1 ∨ w = 2 ∨ w = 3 ∨ w = 4 ∨ w = 5 ∨ w = 6 ∨ w = 7 ∨ w = 8 ∨ w = 9 ∨ w = 10 ∨ w = 11 ∨ w = 12 ∨ w = 13 ∨ w = 14 ∨ w = 15 ∨ w = 16 ∨ w = 17) with rfl | rfl | rfl | rfl | rfl | rfl | rfl | rfl | rfl | rfl | rfl | rfl | rfl | rfl | rfl | rfl | rfl | rfl
        · refine lv_tableIn (tgt := 120) (off := 88) hx hb ke_32 (by decide) (by decide) rfl (by decide) ?_
          exact kw_power FX' hi5 hcs (back t (by omega)) H locs ls hl hst
        · refine lv_tableIn (tgt := 169) (off := 137) hx hb ke_32 (by decide) (by decide) rfl (by decide) ?_
          exact kw_identify FX' hi5 hcs (back t (by omega)) H locs ls hl hst
        · refine lv_tableIn (tgt := 202) (off := 170) hx hb ke_32 (by decide) (by decide) rfl (by decide) ?_
          exact kw_input FX' hi5 hcs (back t (by omega)) H locs ls hl hst
        · refine lv_tableIn (tgt := 245) (off := 213) hx hb ke_32 (by decide) (by decide) rfl (by decide) ?_
          exact kw_fail FX' hi5 hcs (back t (by omega)) H locs ls hl hst
        · refine lv_tableIn (tgt := 278) (off := 246) hx hb ke_32 (by decide) (by decide) rfl (by decide) ?_
          exact kw_expect FX' hi5 hcs (back t (by omega)) H locs ls hl hst
        · refine lv_tableIn (tgt := 321) (off := 289) hx hb ke_32 (by decide) (by decide) rfl (by decide) ?_
          exact kw_configure FX' hi5 hcs (back t (by omega)) H locs ls hl hst
        · refine lv_tableIn (tgt := 364) (off := 332) hx hb ke_32 (by decide) (by decide) rfl (by decide) ?_
          exact kw_transfer FX' hi5 hcs (back t (by omega)) H locs ls hl hst
        · refine lv_tableIn (tgt := 433) (off := 401) hx hb ke_32 (by decide) (by decide) rfl (by decide) ?_
          exact kw_sync FX' hi5 hcs (back t (by omega)) H locs ls hl hst
        · refine lv_tableIn (tgt := 456) (off := 424) hx hb ke_32 (by decide) (by decide) rfl (by decide) ?_
          exact kw_inject FX' hi5 hcs (back t (by omega)) H locs ls hl hst
        · refine lv_tableIn (tgt := 509) (off := 477) hx hb ke_32 (by decide) (by decide) rfl (by decide) ?_
          exact kw_disturb FX' hi5 hcs (back t (by omega)) H locs ls hl hst
        · refine lv_tableIn (tgt := 532) (off := 500) hx hb ke_32 (by decide) (by decide) rfl (by decide) ?_
          exact kw_tick FX' hi5 hcs (by omega) (back (t + 1) (by omega)) H locs ls hl hst
        · refine lv_tableIn (tgt := 545) (off := 513) hx hb ke_32 (by decide) (by decide) rfl (by decide) ?_
          exact kw_object FX' hi5 hcs (back t (by omega)) H locs ls hl hst
        · refine lv_tableIn (tgt := 578) (off := 546) hx hb ke_32 (by decide) (by decide) rfl (by decide) ?_
          exact kw_state FX' hi5 hcs (back t (by omega)) H locs ls hl hst
        · refine lv_tableIn (tgt := 601) (off := 569) hx hb ke_32 (by decide) (by decide) rfl (by decide) ?_
          exact kw_phase FX' hi5 hcs (back t (by omega)) H locs ls hl hst
        · refine lv_tableIn (tgt := 624) (off := 592) hx hb ke_32 (by decide) (by decide) rfl (by decide) ?_
          exact kw_client FX' hi5 hcs (back t (by omega)) H locs ls hl hst
        · refine lv_tableIn (tgt := 647) (off := 615) hx hb ke_32 (by decide) (by decide) rfl (by decide) ?_
          exact kw_text FX' hi5 hcs (back t (by omega)) H locs ls hl hst
        · refine lv_tableIn (tgt := 670) (off := 638) hx hb ke_32 (by decide) (by decide) rfl (by decide) ?_
          exact kw_report FX' hi5 hcs (back t (by omega)) H locs ls hl hst
        · refine lv_tableIn (tgt := 693) (off := 661) hx hb ke_32 (by decide) (by decide) rfl (by decide) ?_
          exact kw_bus FX' hi5 hcs (back t (by omega)) H locs ls hl hst
      · refine lv_tableOut (tgt := 726) hx hb ke_32 (Or.inr (by rw [wI]; omega)) (by decide) ?_
        exact back t (by omega) H locs ls hl hst
end KWL
