set_option maxHeartbeats 4000000 in
set_option maxRecDepth 100000 in
theorem q_isWithin {c : cx} {d : Nat} {X : nX} {Y : nY} {v lo hi : Int64} : sc c mX7_isWithin d [.long v, .long lo, .long hi] X Y (some (.int (bI (wi v lo hi)))) (X) (Y) := by
  intro Q hQ
  show ss c mX7_isWithin d Q 0 [(0, .long v), (2, .long lo), (4, .long hi)] [] X Y
  refine ss_lload_n dX7_isWithin_0 0 rfl ?_
  refine ss_lload_n dX7_isWithin_1 1 rfl ?_
  refine sv_lt 17 dX7_isWithin_2 dX7_isWithin_3 (by decide) (fun c2 => ?_) (fun c2 => ?_)
  · skip
    refine ss_iconst (v := nI 0) dX7_isWithin_17 (by decide) ?_
    exact ss_iret dX7_isWithin_18 rfl rfl (cvi (by first | (rw [wi_tt c2 c9]; rfl) | (rw [wi_f1 c2]; rfl) | (rw [wi_f2 c9]; rfl)) hQ)
  · skip
    refine ss_lload_n dX7_isWithin_6 0 rfl ?_
    refine ss_lload dX7_isWithin_7 2 rfl ?_
    refine sv_gt 17 dX7_isWithin_9 dX7_isWithin_10 (by decide) (fun c9 => ?_) (fun c9 => ?_)
    · skip
      refine ss_iconst (v := nI 0) dX7_isWithin_17 (by decide) ?_
      exact ss_iret dX7_isWithin_18 rfl rfl (cvi (by first | (rw [wi_tt c2 c9]; rfl) | (rw [wi_f1 c2]; rfl) | (rw [wi_f2 c9]; rfl)) hQ)
    · skip
      refine ss_iconst (v := nI 1) dX7_isWithin_13 (by decide) ?_
      refine ss_goto 18 dX7_isWithin_14 (by decide) ?_
      exact ss_iret dX7_isWithin_18 rfl rfl (cvi (by first | (rw [wi_tt c2 c9]; rfl) | (rw [wi_f1 c2]; rfl) | (rw [wi_f2 c9]; rfl)) hQ)
set_option maxHeartbeats 4000000 in
set_option maxRecDepth 100000 in
theorem q_isInSize {c : cx} {d : Nat} {X : nX} {Y : nY} {v z : Int64} : sc c mX7_isInSize (d + 1) [.long v, .long z] X Y (some (.int (bI (wi v (-z) z)))) (X) (Y) := by
  intro Q hQ
  show ss c mX7_isInSize (d + 1) Q 0 [(0, .long v), (2, .long z)] [] X Y
  refine ss_lload_n dX7_isInSize_0 0 rfl ?_
  refine ss_lload_n dX7_isInSize_1 1 rfl ?_
  refine ss_lneg dX7_isInSize_2 ?_
  refine ss_lload_n dX7_isInSize_3 1 rfl ?_
  refine ss_callS (As := [_, _, _]) dX7_isInSize_4 vlX7_53 clX7_isWithin rfl rfl (Nat.le_of_ble_eq_true rfl) (Nat.le_of_ble_eq_true rfl) (q_isWithin) ?_
  exact ss_iret dX7_isInSize_7 rfl (bI_nar _) (hQ)
set_option maxHeartbeats 4000000 in
set_option maxRecDepth 100000 in
theorem q_hasThing {c : cx} {d : Nat} {X : nX} {Y : nY} {s t : Nat} (hs : s < 2 ^ 31) (ht : t < 32) : sc c mX7_hasThing d [.int (nI s), .int (nI t)] X Y (some (.int (bI (hb s t)))) (X) (Y) := by
  intro Q hQ
  show ss c mX7_hasThing d Q 0 [(0, .int (nI s)), (1, .int (nI t))] [] X Y
  refine ss_iload_n dX7_hasThing_0 0 rfl ?_
  refine ss_iload_n dX7_hasThing_1 1 rfl ?_
  refine sz_ishr dX7_hasThing_2 (by omega) (by omega) ?_
  refine ss_iconst (v := nI 1) dX7_hasThing_3 (by decide) ?_
  refine sz_iand dX7_hasThing_4 ?_
  refine ss_iconst (v := nI 1) dX7_hasThing_5 (by decide) ?_
  refine sz_icmp_ne 13 dX7_hasThing_6 (by decide) (by have := xb_bit s t; have := Bool.toNat_le (hb s t); omega) (by decide) (fun c6 => ?_) (fun c6 => ?_)
  · skip
    refine ss_iconst (v := nI 0) dX7_hasThing_13 (by decide) ?_
    exact ss_iret dX7_hasThing_14 rfl rfl (cvi (by first | (rw [(xb_bit1 s t).mp c6]; rfl) | (rw [show hb s t = false from by cases h : hb s t with | false => rfl | true => exact absurd ((xb_bit1 s t).mpr h) c6]; rfl)) hQ)
  · skip
    refine ss_iconst (v := nI 1) dX7_hasThing_9 (by decide) ?_
    refine ss_goto 14 dX7_hasThing_10 (by decide) ?_
    exact ss_iret dX7_hasThing_14 rfl rfl (cvi (by first | (rw [(xb_bit1 s t).mp c6]; rfl) | (rw [show hb s t = false from by cases h : hb s t with | false => rfl | true => exact absurd ((xb_bit1 s t).mpr h) c6]; rfl)) hQ)
def bc (x : Int32) : Int32 :=
  let a := x - ((x.toUInt32 >>> ((nI 1).toUInt32 &&& Int32.toUInt32 31)).toInt32 &&& 1431655765)
  let b := (a &&& 858993459) + ((a.toUInt32 >>> ((nI 2).toUInt32 &&& Int32.toUInt32 31)).toInt32 &&& 858993459)
  let e := (b + (b.toUInt32 >>> ((nI 4).toUInt32 &&& Int32.toUInt32 31)).toInt32) &&& 252645135
  let f := e + (e.toUInt32 >>> ((nI 8).toUInt32 &&& Int32.toUInt32 31)).toInt32
  let g := f + (f.toUInt32 >>> ((nI 16).toUInt32 &&& Int32.toUInt32 31)).toInt32
  g &&& nI 63
theorem bc_all : (List.range 1024).all (fun s => decide (bc (nI s) = nI (cnt s 10))) = true := by decide +kernel
theorem bc_cnt {s : Nat} (h : s < 1024) : bc (nI s) = nI (cnt s 10) := of_decide_eq_true (List.all_eq_true.mp bc_all s (List.mem_range.mpr h))
set_option maxHeartbeats 4000000 in
set_option maxRecDepth 100000 in
theorem q_bitCount {c : cx} {d : Nat} {X : nX} {Y : nY} {s : Nat} (hs : s < 1024) : sc c mJ6_bitCount_0f7a4 d [.int (nI s)] X Y (some (.int (nI (cnt s 10)))) (X) (Y) := by
  intro Q hQ
  show ss c mJ6_bitCount_0f7a4 d Q 0 [(0, .int (nI s))] [] X Y
  refine ss_iload_n dJ6_bitCount_0f7a4_0 0 rfl ?_
  refine ss_iload_n dJ6_bitCount_0f7a4_1 0 rfl ?_
  refine ss_iconst (v := nI 1) dJ6_bitCount_0f7a4_2 (by decide) ?_
  refine ss_iushr dJ6_bitCount_0f7a4_3 ?_
  refine ss_ldcw dJ6_bitCount_0f7a4_4 kcJ6_265 ?_
  refine ss_iand dJ6_bitCount_0f7a4_7 ?_
  refine ss_isub dJ6_bitCount_0f7a4_8 ?_
  refine ss_istore_n (lv' := [(0, _)]) dJ6_bitCount_0f7a4_9 (by decide) rfl ?_
  refine ss_iload_n dJ6_bitCount_0f7a4_10 0 rfl ?_
  refine ss_ldcw dJ6_bitCount_0f7a4_11 kcJ6_266 ?_
  refine ss_iand dJ6_bitCount_0f7a4_14 ?_
  refine ss_iload_n dJ6_bitCount_0f7a4_15 0 rfl ?_
  refine ss_iconst (v := nI 2) dJ6_bitCount_0f7a4_16 (by decide) ?_
  refine ss_iushr dJ6_bitCount_0f7a4_17 ?_
  refine ss_ldcw dJ6_bitCount_0f7a4_18 kcJ6_266 ?_
  refine ss_iand dJ6_bitCount_0f7a4_21 ?_
  refine ss_iadd dJ6_bitCount_0f7a4_22 ?_
  refine ss_istore_n (lv' := [(0, _)]) dJ6_bitCount_0f7a4_23 (by decide) rfl ?_
  refine ss_iload_n dJ6_bitCount_0f7a4_24 0 rfl ?_
  refine ss_iload_n dJ6_bitCount_0f7a4_25 0 rfl ?_
  refine ss_iconst (v := nI 4) dJ6_bitCount_0f7a4_26 (by decide) ?_
  refine ss_iushr dJ6_bitCount_0f7a4_27 ?_
  refine ss_iadd dJ6_bitCount_0f7a4_28 ?_
  refine ss_ldcw dJ6_bitCount_0f7a4_29 kcJ6_267 ?_
  refine ss_iand dJ6_bitCount_0f7a4_32 ?_
  refine ss_istore_n (lv' := [(0, _)]) dJ6_bitCount_0f7a4_33 (by decide) rfl ?_
  refine ss_iload_n dJ6_bitCount_0f7a4_34 0 rfl ?_
  refine ss_iload_n dJ6_bitCount_0f7a4_35 0 rfl ?_
  refine ss_bipush (v := nI 8) dJ6_bitCount_0f7a4_36 (by decide) ?_
  refine ss_iushr dJ6_bitCount_0f7a4_38 ?_
  refine ss_iadd dJ6_bitCount_0f7a4_39 ?_
  refine ss_istore_n (lv' := [(0, _)]) dJ6_bitCount_0f7a4_40 (by decide) rfl ?_
  refine ss_iload_n dJ6_bitCount_0f7a4_41 0 rfl ?_
  refine ss_iload_n dJ6_bitCount_0f7a4_42 0 rfl ?_
  refine ss_bipush (v := nI 16) dJ6_bitCount_0f7a4_43 (by decide) ?_
  refine ss_iushr dJ6_bitCount_0f7a4_45 ?_
  refine ss_iadd dJ6_bitCount_0f7a4_46 ?_
  refine ss_istore_n (lv' := [(0, _)]) dJ6_bitCount_0f7a4_47 (by decide) rfl ?_
  refine ss_iload_n dJ6_bitCount_0f7a4_48 0 rfl ?_
  refine ss_bipush (v := nI 63) dJ6_bitCount_0f7a4_49 (by decide) ?_
  refine ss_iand dJ6_bitCount_0f7a4_51 ?_
  exact ss_iret dJ6_bitCount_0f7a4_52 rfl rfl (cvi (show bc (nI s) = nI (cnt s 10) from bc_cnt hs) hQ)
set_option maxHeartbeats 4000000 in
set_option maxRecDepth 100000 in
theorem q_gain {c : cx} {d : Nat} {X : nX} {Y : nY} {w s t : Nat} (hw : w < 12) (hs : s < 1024) (ht : t < 10) : sc c mX6_gain d [.ref (c_ad c (2 + 7 * w)), .int (nI s), .int (nI t)] X Y (some (.long (Y (3 + 7 * w) (s ||| 2 ^ t) - Y (3 + 7 * w) s))) (X) (Y) := by
  intro Q hQ
  show ss c mX6_gain d Q 0 [(0, .ref (c_ad c (2 + 7 * w))), (1, .int (nI s)), (2, .int (nI t))] [] X Y
  refine ss_aload_n dX6_gain_0 0 rfl ?_
  refine ss_get (i := 2 + 7 * w) dX6_gain_1 flX6_9 (by omega) (sh_w0 hw _ _) rfl ?_
  refine ss_iload_n dX6_gain_4 1 rfl ?_
  refine ss_iconst (v := nI 1) dX6_gain_5 (by decide) ?_
  refine ss_iload_n dX6_gain_6 2 rfl ?_
  refine sz_shl1 dX6_gain_7 (by omega) ?_
  refine sz_ior dX6_gain_8 ?_
  refine ss_lald (i := 3 + 7 * w) dX6_gain_9 (by omega) (sh_w1 hw) (xb_or10 hs (xb_p10 ht)) (by decide) ?_
  refine ss_aload_n dX6_gain_10 0 rfl ?_
  refine ss_get (i := 2 + 7 * w) dX6_gain_11 flX6_9 (by omega) (sh_w0 hw _ _) rfl ?_
  refine ss_iload_n dX6_gain_14 1 rfl ?_
  refine ss_lald (i := 3 + 7 * w) dX6_gain_15 (by omega) (sh_w1 hw) (by omega) (by decide) ?_
  refine ss_lsub dX6_gain_16 ?_
  exact ss_lret dX6_gain_17 rfl (hQ)
