set_option maxHeartbeats 4000000 in
set_option maxRecDepth 100000 in
theorem q_cutToForm0 {c : cx} {d : Nat} {X : nX} {Y : nY} {v : Int64} : sc c mX7_cutToForm d [.int (nI 0), .long v] (X) (Y) (some (.long (v.toInt32.toInt8.toInt32.toInt64))) (X) (Y) := by
  intro Q hQ
  show ss c mX7_cutToForm d Q 0 [(0, .int (nI 0)), (1, .long v)] [] (X) (Y)
  refine ss_iload_n dX7_cutToForm_0 0 rfl ?_
  refine ss_lookup (off := 27) 28 dX7_cutToForm_1 (by decide) (by decide) (by decide) ?_
  refine ss_lload_n dX7_cutToForm_28 1 rfl ?_
  refine ss_l2i dX7_cutToForm_29 ?_
  refine ss_i2b dX7_cutToForm_30 ?_
  refine ss_i2l dX7_cutToForm_31 ?_
  exact ss_lret dX7_cutToForm_32 rfl (hQ)
set_option maxHeartbeats 4000000 in
set_option maxRecDepth 100000 in
theorem q_cutToForm1 {c : cx} {d : Nat} {X : nX} {Y : nY} {v : Int64} : sc c mX7_cutToForm d [.int (nI 1), .long v] (X) (Y) (some (.long (v.toInt32.toInt64))) (X) (Y) := by
  intro Q hQ
  show ss c mX7_cutToForm d Q 0 [(0, .int (nI 1)), (1, .long v)] [] (X) (Y)
  refine ss_iload_n dX7_cutToForm_0 0 rfl ?_
  refine ss_lookup (off := 32) 33 dX7_cutToForm_1 (by decide) (by decide) (by decide) ?_
  refine ss_lload_n dX7_cutToForm_33 1 rfl ?_
  refine ss_l2i dX7_cutToForm_34 ?_
  refine ss_i2l dX7_cutToForm_35 ?_
  exact ss_lret dX7_cutToForm_36 rfl (hQ)
set_option maxHeartbeats 4000000 in
set_option maxRecDepth 100000 in
theorem q_cutToForm2 {c : cx} {d : Nat} {X : nX} {Y : nY} {v : Int64} : sc c mX7_cutToForm d [.int (nI 2), .long v] (X) (Y) (some (.long (v))) (X) (Y) := by
  intro Q hQ
  show ss c mX7_cutToForm d Q 0 [(0, .int (nI 2)), (1, .long v)] [] (X) (Y)
  refine ss_iload_n dX7_cutToForm_0 0 rfl ?_
  refine ss_lookup (off := 36) 37 dX7_cutToForm_1 (by decide) (by decide) (by decide) ?_
  refine ss_lload_n dX7_cutToForm_37 1 rfl ?_
  exact ss_lret dX7_cutToForm_38 rfl (hQ)
set_option maxHeartbeats 4000000 in
set_option maxRecDepth 100000 in
theorem c_things_o {c : cx} {d : Nat} {X : nX} {Y : nY} {i : Int32} (hi : ix i 11 = false) : sc c mX7_things (d + 1) [.ref (c_ad c 0), .int i] (X) (Y) (some (.int (-1002))) (X) (Y) := by
  intro Q hQ
  show ss c mX7_things (d + 1) Q 0 [(0, .ref (c_ad c 0)), (1, .int i)] [] (X) (Y)
  refine ss_iload_n dX7_things_0 1 rfl ?_
  refine ss_i2l dX7_things_1 ?_
  refine ss_lconst (v := 0) dX7_things_2 (by decide) ?_
  refine ss_ldc2 dX7_things_3 kcX7_51 ?_
  refine ss_callS (As := [_, _, _]) dX7_things_6 vlX7_53 clX7_isWithin rfl rfl (Nat.le_of_ble_eq_true rfl) (Nat.le_of_ble_eq_true rfl) (q_isWithin) ?_
  refine sy_if_ne 16 dX7_things_9 (by decide) (fun c9 => by first | exact kd_tf (by rw [wi_ix (n := 11) rfl]; exact hi) c9 | exact kd_ft (by rw [wi_ix (n := 11) rfl]; exact hi) c9 | exact absurd (by rw [wi_ix (n := 11) rfl]; exact hi) c9 | exact absurd c9 (by rw [wi_ix (n := 11) rfl]; exact hi)) (fun c9 => ?_)
  refine ss_sipush (v := -1002) dX7_things_12 (by decide) ?_
  exact ss_iret dX7_things_15 rfl rfl (hQ)
set_option maxHeartbeats 4000000 in
set_option maxRecDepth 100000 in
theorem c_things_k {c : cx} {d : Nat} {X : nX} {Y : nY} {m : Nat} (hm : m ≤ 12) (h7 : X 0 7 = nI m) {k : Nat} (hk : k ≤ 10) : sc c mX7_things (d + 1) [.ref (c_ad c 0), .int (nI k)] (X) (Y) (some (.int (nI m))) (mpx (up2 (up2 (up2 (up2 X 0 6 (nI k)) 0 7 (nI 0)) 101 3 (nI k)) 101 4 (nI 1)) 102 0 k (fun k => nI k)) (mpl Y 103 0 k (fun _ => 0)) := by
  intro Q hQ
  show ss c mX7_things (d + 1) Q 0 [(0, .ref (c_ad c 0)), (1, .int (nI k))] [] (X) (Y)
  refine ss_iload_n dX7_things_0 1 rfl ?_
  refine ss_i2l dX7_things_1 ?_
  refine ss_lconst (v := 0) dX7_things_2 (by decide) ?_
  refine ss_ldc2 dX7_things_3 kcX7_51 ?_
  refine ss_callS (As := [_, _, _]) dX7_things_6 vlX7_53 clX7_isWithin rfl rfl (Nat.le_of_ble_eq_true rfl) (Nat.le_of_ble_eq_true rfl) (q_isWithin) ?_
  refine sy_if_ne 16 dX7_things_9 (by decide) (fun c9 => ?_) (fun c9 => by first | exact kd_tf (by rw [wi_ix (n := 11) rfl]; exact ix_of (by omega) (by decide)) c9 | exact kd_ft (by rw [wi_ix (n := 11) rfl]; exact ix_of (by omega) (by decide)) c9 | exact absurd (by rw [wi_ix (n := 11) rfl]; exact ix_of (by omega) (by decide)) c9 | exact absurd c9 (by rw [wi_ix (n := 11) rfl]; exact ix_of (by omega) (by decide)))
  refine ss_aload_n dX7_things_16 0 rfl ?_
  refine ss_get (i := 0) dX7_things_17 flX7_57 (by omega) (sh_r0 _ _) rfl ?_
  rw [h7]
  refine ss_istore_n (lv' := [(2, _), (0, _), (1, _)]) dX7_things_20 (by decide) rfl ?_
  refine ss_aload_n dX7_things_21 1 rfl ?_
  refine ss_iload_n dX7_things_22 2 rfl ?_
  refine ss_put (i := 0) dX7_things_23 fwX7_61 (by omega) (sh_r0 _ _) rfl rfl (Nat.le_of_ble_eq_true rfl) (sh_r0 _ _) ?_
  refine ss_aload_n dX7_things_26 1 rfl ?_
  refine ss_iconst (v := nI 0) dX7_things_27 (by decide) ?_
  refine ss_put (i := 0) dX7_things_28 fwX7_57 (by omega) (sh_r0 _ _) rfl rfl (Nat.le_of_ble_eq_true rfl) (sh_r0 _ _) ?_
  refine ss_aload_n dX7_things_31 1 rfl ?_
  refine ss_get (i := 0) dX7_things_32 flX7_47 (by omega) (sh_r0 _ _) rfl ?_
  refine ss_iload_n dX7_things_35 2 rfl ?_
  refine ss_callV (As := [_]) (i := 101) dX7_things_36 vlX7_64 clX4_begin rfl rfl (by omega) (sh_r101 _ _) rfl (Nat.le_of_ble_eq_true rfl) (Nat.le_of_ble_eq_true rfl) (q_sbegin hk) ?_
  refine ss_iload_n dX7_things_39 0 rfl ?_
  exact ss_iret dX7_things_40 rfl rfl (hQ)
set_option maxHeartbeats 4000000 in
set_option maxRecDepth 100000 in
theorem c_sheet_u {c : cx} {d : Nat} {X : nX} {Y : nY} {s : Int32} (hs : ix s 4 = false) {f i : Int32} : sc c mX7_sheet (d + 2) [.ref (c_ad c 0), .int s, .int f, .int i] (X) (Y) (some (.int (-1001))) (X) (Y) := by
  intro Q hQ
  show ss c mX7_sheet (d + 2) Q 0 [(0, .ref (c_ad c 0)), (1, .int s), (2, .int f), (3, .int i)] [] (X) (Y)
  refine ss_iload_n dX7_sheet_0 1 rfl ?_
  refine ss_callS (As := [_]) dX7_sheet_1 vlX7_68 clX7_isSheet rfl rfl (Nat.le_of_ble_eq_true rfl) (Nat.le_of_ble_eq_true rfl) (q_isSheet) ?_
  refine sy_if_ne 11 dX7_sheet_4 (by decide) (fun c4 => by first | exact kd_tf (hs) c4 | exact kd_ft (hs) c4 | exact absurd (hs) c4 | exact absurd c4 (hs)) (fun c4 => ?_)
  refine ss_sipush (v := -1001) dX7_sheet_7 (by decide) ?_
  exact ss_iret dX7_sheet_10 rfl rfl (hQ)
set_option maxHeartbeats 4000000 in
set_option maxRecDepth 100000 in
theorem c_sheet_o1 {c : cx} {d : Nat} {X : nX} {Y : nY} {s : Nat} (hs : s < 4) {f i : Int32} (hf : ix f 3 = false) : sc c mX7_sheet (d + 2) [.ref (c_ad c 0), .int (nI s), .int f, .int i] (X) (Y) (some (.int (-1002))) (X) (Y) := by
  intro Q hQ
  show ss c mX7_sheet (d + 2) Q 0 [(0, .ref (c_ad c 0)), (1, .int (nI s)), (2, .int f), (3, .int i)] [] (X) (Y)
  have hs9 : ix (nI s) 4 = true := ix_of hs (by decide)
  refine ss_iload_n dX7_sheet_0 1 rfl ?_
  refine ss_callS (As := [_]) dX7_sheet_1 vlX7_68 clX7_isSheet rfl rfl (Nat.le_of_ble_eq_true rfl) (Nat.le_of_ble_eq_true rfl) (q_isSheet) ?_
  refine sy_if_ne 11 dX7_sheet_4 (by decide) (fun c4 => ?_) (fun c4 => by first | exact kd_tf (hs9) c4 | exact kd_ft (hs9) c4 | exact absurd (hs9) c4 | exact absurd c4 (hs9))
  refine ss_iload_n dX7_sheet_11 2 rfl ?_
  refine ss_callS (As := [_]) dX7_sheet_12 vlX7_72 clX7_isForm rfl rfl (Nat.le_of_ble_eq_true rfl) (Nat.le_of_ble_eq_true rfl) (q_isForm) ?_
  refine sy_if_eq 25 dX7_sheet_15 (by decide) (fun c15 => ?_) (fun c15 => by first | exact kd_tf (hf) c15 | exact kd_ft (hf) c15 | exact absurd (hf) c15 | exact absurd c15 (hf))
  refine ss_sipush (v := -1002) dX7_sheet_25 (by decide) ?_
  exact ss_iret dX7_sheet_28 rfl rfl (hQ)
set_option maxHeartbeats 4000000 in
set_option maxRecDepth 100000 in
theorem c_sheet_o2 {c : cx} {d : Nat} {X : nX} {Y : nY} {s : Nat} (hs : s < 4) {f i : Int32} (hf : ix f 3 = true) (hi : ¬ i ≤ nI 1100) : sc c mX7_sheet (d + 2) [.ref (c_ad c 0), .int (nI s), .int f, .int i] (X) (Y) (some (.int (-1002))) (X) (Y) := by
  intro Q hQ
  show ss c mX7_sheet (d + 2) Q 0 [(0, .ref (c_ad c 0)), (1, .int (nI s)), (2, .int f), (3, .int i)] [] (X) (Y)
  have hs9 : ix (nI s) 4 = true := ix_of hs (by decide)
  refine ss_iload_n dX7_sheet_0 1 rfl ?_
  refine ss_callS (As := [_]) dX7_sheet_1 vlX7_68 clX7_isSheet rfl rfl (Nat.le_of_ble_eq_true rfl) (Nat.le_of_ble_eq_true rfl) (q_isSheet) ?_
  refine sy_if_ne 11 dX7_sheet_4 (by decide) (fun c4 => ?_) (fun c4 => by first | exact kd_tf (hs9) c4 | exact kd_ft (hs9) c4 | exact absurd (hs9) c4 | exact absurd c4 (hs9))
  refine ss_iload_n dX7_sheet_11 2 rfl ?_
  refine ss_callS (As := [_]) dX7_sheet_12 vlX7_72 clX7_isForm rfl rfl (Nat.le_of_ble_eq_true rfl) (Nat.le_of_ble_eq_true rfl) (q_isForm) ?_
  refine sy_if_eq 25 dX7_sheet_15 (by decide) (fun c15 => by first | exact kd_tf (hf) c15 | exact kd_ft (hf) c15 | exact absurd (hf) c15 | exact absurd c15 (hf)) (fun c15 => ?_)
  refine ss_iload_n dX7_sheet_18 3 rfl ?_
  refine ss_sipush (v := nI 1100) dX7_sheet_19 (by decide) ?_
  refine ss_icmp_le 29 dX7_sheet_22 (by decide) (fun c22 => by first | exact kd_tf (hi) c22 | exact kd_ft (hi) c22 | exact absurd (hi) c22 | exact absurd c22 (hi)) (fun c22 => ?_)
  refine ss_sipush (v := -1002) dX7_sheet_25 (by decide) ?_
  exact ss_iret dX7_sheet_28 rfl rfl (hQ)
set_option maxHeartbeats 4000000 in
set_option maxRecDepth 100000 in
theorem c_sheet_c {c : cx} {d : Nat} {X : nX} {Y : nY} {s : Nat} (hs : s < 4) {f i : Int32} (hf : ix f 3 = true) (hi : i ≤ nI 1100) (hi0 : ¬ 0 ≤ i) : sc c mX7_sheet (d + 2) [.ref (c_ad c 0), .int (nI s), .int f, .int i] (X) (Y) (some (.int (nI 0))) (up2 X 0 8 (nI 4)) (Y) := by
  intro Q hQ
  show ss c mX7_sheet (d + 2) Q 0 [(0, .ref (c_ad c 0)), (1, .int (nI s)), (2, .int f), (3, .int i)] [] (X) (Y)
  have hs9 : ix (nI s) 4 = true := ix_of hs (by decide)
  refine ss_iload_n dX7_sheet_0 1 rfl ?_
  refine ss_callS (As := [_]) dX7_sheet_1 vlX7_68 clX7_isSheet rfl rfl (Nat.le_of_ble_eq_true rfl) (Nat.le_of_ble_eq_true rfl) (q_isSheet) ?_
  refine sy_if_ne 11 dX7_sheet_4 (by decide) (fun c4 => ?_) (fun c4 => by first | exact kd_tf (hs9) c4 | exact kd_ft (hs9) c4 | exact absurd (hs9) c4 | exact absurd c4 (hs9))
  refine ss_iload_n dX7_sheet_11 2 rfl ?_
  refine ss_callS (As := [_]) dX7_sheet_12 vlX7_72 clX7_isForm rfl rfl (Nat.le_of_ble_eq_true rfl) (Nat.le_of_ble_eq_true rfl) (q_isForm) ?_
  refine sy_if_eq 25 dX7_sheet_15 (by decide) (fun c15 => by first | exact kd_tf (hf) c15 | exact kd_ft (hf) c15 | exact absurd (hf) c15 | exact absurd c15 (hf)) (fun c15 => ?_)
  refine ss_iload_n dX7_sheet_18 3 rfl ?_
  refine ss_sipush (v := nI 1100) dX7_sheet_19 (by decide) ?_
  refine ss_icmp_le 29 dX7_sheet_22 (by decide) (fun c22 => ?_) (fun c22 => by first | exact kd_tf (hi) c22 | exact kd_ft (hi) c22 | exact absurd (hi) c22 | exact absurd c22 (hi))
  refine ss_iload_n dX7_sheet_29 3 rfl ?_
  refine ss_if_ge 39 dX7_sheet_30 (by decide) (fun c30 => by first | exact kd_tf (hi0) c30 | exact kd_ft (hi0) c30 | exact absurd (hi0) c30 | exact absurd c30 (hi0)) (fun c30 => ?_)
  refine ss_aload_n dX7_sheet_33 0 rfl ?_
  refine ss_iconst (v := nI 4) dX7_sheet_34 (by decide) ?_
  refine ss_callV (As := [_]) (i := 0) dX7_sheet_35 vlX7_75 clX7_meet rfl rfl (by omega) (sh_r0 _ _) rfl (Nat.le_of_ble_eq_true rfl) (Nat.le_of_ble_eq_true rfl) (q_meet) ?_
  exact ss_iret dX7_sheet_38 rfl rfl (hQ)
set_option maxHeartbeats 4000000 in
set_option maxRecDepth 100000 in
theorem c_sheet_k {c : cx} {d : Nat} {X : nX} {Y : nY} {s : Nat} (hs : s < 4) {f : Int32} {i : Nat} (hf : ix f 3 = true) (hi : i ≤ 1100) : sc c mX7_sheet (d + 2) [.ref (c_ad c 0), .int (nI s), .int f, .int (nI i)] (X) (Y) (some (.int (nI i))) (x_lay (up2 X 0 8 (nI 0)) s f i) (mpl Y (88 + 2 * s) 0 i (fun _ => 0)) := by
  intro Q hQ
  show ss c mX7_sheet (d + 2) Q 0 [(0, .ref (c_ad c 0)), (1, .int (nI s)), (2, .int f), (3, .int (nI i))] [] (X) (Y)
  have hs9 : ix (nI s) 4 = true := ix_of hs (by decide)
  refine ss_iload_n dX7_sheet_0 1 rfl ?_
  refine ss_callS (As := [_]) dX7_sheet_1 vlX7_68 clX7_isSheet rfl rfl (Nat.le_of_ble_eq_true rfl) (Nat.le_of_ble_eq_true rfl) (q_isSheet) ?_
  refine sy_if_ne 11 dX7_sheet_4 (by decide) (fun c4 => ?_) (fun c4 => by first | exact kd_tf (hs9) c4 | exact kd_ft (hs9) c4 | exact absurd (hs9) c4 | exact absurd c4 (hs9))
  refine ss_iload_n dX7_sheet_11 2 rfl ?_
  refine ss_callS (As := [_]) dX7_sheet_12 vlX7_72 clX7_isForm rfl rfl (Nat.le_of_ble_eq_true rfl) (Nat.le_of_ble_eq_true rfl) (q_isForm) ?_
  refine sy_if_eq 25 dX7_sheet_15 (by decide) (fun c15 => by first | exact kd_tf (hf) c15 | exact kd_ft (hf) c15 | exact absurd (hf) c15 | exact absurd c15 (hf)) (fun c15 => ?_)
  refine ss_iload_n dX7_sheet_18 3 rfl ?_
  refine ss_sipush (v := nI 1100) dX7_sheet_19 (by decide) ?_
  refine sz_icmp_le 29 dX7_sheet_22 (by decide) (by omega) (by omega) (fun c22 => ?_) (fun c22 => by omega)
  refine ss_iload_n dX7_sheet_29 3 rfl ?_
  refine ss_if_ge 39 dX7_sheet_30 (by decide) (fun c30 => ?_) (fun c30 => by first | exact kd_tf (nI_pos' (by omega)) c30 | exact kd_ft (nI_pos' (by omega)) c30 | exact absurd (nI_pos' (by omega)) c30 | exact absurd c30 (nI_pos' (by omega)))
  refine ss_aload_n dX7_sheet_39 0 rfl ?_
  refine ss_iconst (v := nI 0) dX7_sheet_40 (by decide) ?_
  refine ss_put (i := 0) dX7_sheet_41 fwX7_79 (by omega) (sh_r0 _ _) rfl rfl (Nat.le_of_ble_eq_true rfl) (sh_r0 _ _) ?_
  refine ss_aload_n dX7_sheet_44 0 rfl ?_
  refine ss_get (i := 0) dX7_sheet_45 flX7_18 (by omega) (sh_r0 _ _) rfl ?_
  refine ss_iload_n dX7_sheet_48 1 rfl ?_
  refine ss_sheet (w := s) dX7_sheet_49 hs ?_
  refine ss_iload_n dX7_sheet_50 2 rfl ?_
  refine ss_iload_n dX7_sheet_51 3 rfl ?_
  refine ss_callV (As := [_, _]) (i := 87 + 2 * s) dX7_sheet_52 vlX7_82 clX5_lay rfl rfl (by omega) (sh_s0 hs _ _) rfl (Nat.le_of_ble_eq_true rfl) (Nat.le_of_ble_eq_true rfl) (q_lay hs hi) ?_
  refine ss_iload_n dX7_sheet_55 3 rfl ?_
  exact ss_iret dX7_sheet_56 rfl rfl (hQ)
set_option maxHeartbeats 4000000 in
set_option maxRecDepth 100000 in
theorem c_tear_u {c : cx} {d : Nat} {X : nX} {Y : nY} {s : Int32} (hs : ix s 4 = false) : sc c mX7_tear (d + 2) [.ref (c_ad c 0), .int s] (X) (Y) (some (.int (-1001))) (X) (Y) := by
  intro Q hQ
  show ss c mX7_tear (d + 2) Q 0 [(0, .ref (c_ad c 0)), (1, .int s)] [] (X) (Y)
  refine ss_iload_n dX7_tear_0 1 rfl ?_
  refine ss_callS (As := [_]) dX7_tear_1 vlX7_68 clX7_isSheet rfl rfl (Nat.le_of_ble_eq_true rfl) (Nat.le_of_ble_eq_true rfl) (q_isSheet) ?_
  refine sy_if_ne 11 dX7_tear_4 (by decide) (fun c4 => by first | exact kd_tf (hs) c4 | exact kd_ft (hs) c4 | exact absurd (hs) c4 | exact absurd c4 (hs)) (fun c4 => ?_)
  refine ss_sipush (v := -1001) dX7_tear_7 (by decide) ?_
  exact ss_iret dX7_tear_10 rfl rfl (hQ)
set_option maxHeartbeats 4000000 in
set_option maxRecDepth 100000 in
theorem c_tear_true {c : cx} {d : Nat} {X : nX} {Y : nY} {s : Nat} (hs : s < 4) (hh : X (87 + 2 * s) 1 = bI true) : sc c mX7_tear (d + 2) [.ref (c_ad c 0), .int (nI s)] (X) (Y) (some (.int (nI 1))) (up2 X (87 + 2 * s) 1 (nI 0)) (Y) := by
  intro Q hQ
  show ss c mX7_tear (d + 2) Q 0 [(0, .ref (c_ad c 0)), (1, .int (nI s))] [] (X) (Y)
  have hs9 : ix (nI s) 4 = true := ix_of hs (by decide)
  refine ss_iload_n dX7_tear_0 1 rfl ?_
  refine ss_callS (As := [_]) dX7_tear_1 vlX7_68 clX7_isSheet rfl rfl (Nat.le_of_ble_eq_true rfl) (Nat.le_of_ble_eq_true rfl) (q_isSheet) ?_
  refine sy_if_ne 11 dX7_tear_4 (by decide) (fun c4 => ?_) (fun c4 => by first | exact kd_tf (hs9) c4 | exact kd_ft (hs9) c4 | exact absurd (hs9) c4 | exact absurd c4 (hs9))
  refine ss_aload_n dX7_tear_11 0 rfl ?_
  refine ss_get (i := 0) dX7_tear_12 flX7_18 (by omega) (sh_r0 _ _) rfl ?_
  refine ss_iload_n dX7_tear_15 1 rfl ?_
  refine ss_sheet (w := s) dX7_tear_16 hs ?_
  refine ss_get (i := 87 + 2 * s) dX7_tear_17 flX7_86 (by omega) (sh_s0 hs _ _) rfl ?_
  rw [hh]
  refine sy_if_eq 27 dX7_tear_20 (by decide) (fun c20 => by first | exact kd_tf (rfl) c20 | exact kd_ft (rfl) c20 | exact absurd (rfl) c20 | exact absurd c20 (rfl)) (fun c20 => ?_)
  refine ss_iconst (v := nI 1) dX7_tear_23 (by decide) ?_
  refine ss_goto 28 dX7_tear_24 (by decide) ?_
  refine ss_istore_n (lv' := [(2, _), (0, _), (1, _)]) dX7_tear_28 (by decide) rfl ?_
  refine ss_aload_n dX7_tear_29 1 rfl ?_
  refine ss_get (i := 0) dX7_tear_30 flX7_18 (by omega) (sh_r0 _ _) rfl ?_
  refine ss_iload_n dX7_tear_33 2 rfl ?_
  refine ss_sheet (w := s) dX7_tear_34 hs ?_
  refine ss_iconst (v := nI 0) dX7_tear_35 (by decide) ?_
  refine ss_put (i := 87 + 2 * s) dX7_tear_36 fwX7_86 (by omega) (sh_s0 hs _ _) rfl rfl (Nat.le_of_ble_eq_true rfl) (sh_s0 hs _ _) ?_
  refine ss_iload_n dX7_tear_39 0 rfl ?_
  exact ss_iret dX7_tear_40 rfl rfl (hQ)
set_option maxHeartbeats 4000000 in
set_option maxRecDepth 100000 in
theorem c_tear_false {c : cx} {d : Nat} {X : nX} {Y : nY} {s : Nat} (hs : s < 4) (hh : X (87 + 2 * s) 1 = bI false) : sc c mX7_tear (d + 2) [.ref (c_ad c 0), .int (nI s)] (X) (Y) (some (.int (nI 0))) (up2 X (87 + 2 * s) 1 (nI 0)) (Y) := by
  intro Q hQ
  show ss c mX7_tear (d + 2) Q 0 [(0, .ref (c_ad c 0)), (1, .int (nI s))] [] (X) (Y)
  have hs9 : ix (nI s) 4 = true := ix_of hs (by decide)
  refine ss_iload_n dX7_tear_0 1 rfl ?_
  refine ss_callS (As := [_]) dX7_tear_1 vlX7_68 clX7_isSheet rfl rfl (Nat.le_of_ble_eq_true rfl) (Nat.le_of_ble_eq_true rfl) (q_isSheet) ?_
  refine sy_if_ne 11 dX7_tear_4 (by decide) (fun c4 => ?_) (fun c4 => by first | exact kd_tf (hs9) c4 | exact kd_ft (hs9) c4 | exact absurd (hs9) c4 | exact absurd c4 (hs9))
  refine ss_aload_n dX7_tear_11 0 rfl ?_
  refine ss_get (i := 0) dX7_tear_12 flX7_18 (by omega) (sh_r0 _ _) rfl ?_
  refine ss_iload_n dX7_tear_15 1 rfl ?_
  refine ss_sheet (w := s) dX7_tear_16 hs ?_
  refine ss_get (i := 87 + 2 * s) dX7_tear_17 flX7_86 (by omega) (sh_s0 hs _ _) rfl ?_
  rw [hh]
  refine sy_if_eq 27 dX7_tear_20 (by decide) (fun c20 => ?_) (fun c20 => by first | exact kd_tf (rfl) c20 | exact kd_ft (rfl) c20 | exact absurd (rfl) c20 | exact absurd c20 (rfl))
  refine ss_iconst (v := nI 0) dX7_tear_27 (by decide) ?_
  refine ss_istore_n (lv' := [(2, _), (0, _), (1, _)]) dX7_tear_28 (by decide) rfl ?_
  refine ss_aload_n dX7_tear_29 1 rfl ?_
  refine ss_get (i := 0) dX7_tear_30 flX7_18 (by omega) (sh_r0 _ _) rfl ?_
  refine ss_iload_n dX7_tear_33 2 rfl ?_
  refine ss_sheet (w := s) dX7_tear_34 hs ?_
  refine ss_iconst (v := nI 0) dX7_tear_35 (by decide) ?_
  refine ss_put (i := 87 + 2 * s) dX7_tear_36 fwX7_86 (by omega) (sh_s0 hs _ _) rfl rfl (Nat.le_of_ble_eq_true rfl) (sh_s0 hs _ _) ?_
  refine ss_iload_n dX7_tear_39 0 rfl ?_
  exact ss_iret dX7_tear_40 rfl rfl (hQ)
set_option maxHeartbeats 4000000 in
set_option maxRecDepth 100000 in
theorem c_put_u {c : cx} {d : Nat} {X : nX} {Y : nY} {s : Int32} (hs : ix s 4 = false) {f i : Int32} {v : Int64} : sc c mX7_put (d + 3) [.ref (c_ad c 0), .int s, .int f, .int i, .long v] (X) (Y) (some (.long (-1001))) (X) (Y) := by
  intro Q hQ
  show ss c mX7_put (d + 3) Q 0 [(0, .ref (c_ad c 0)), (1, .int s), (2, .int f), (3, .int i), (4, .long v)] [] (X) (Y)
  refine ss_iload_n dX7_put_0 1 rfl ?_
  refine ss_callS (As := [_]) dX7_put_1 vlX7_68 clX7_isSheet rfl rfl (Nat.le_of_ble_eq_true rfl) (Nat.le_of_ble_eq_true rfl) (q_isSheet) ?_
  refine sy_if_ne 11 dX7_put_4 (by decide) (fun c4 => by first | exact kd_tf (hs) c4 | exact kd_ft (hs) c4 | exact absurd (hs) c4 | exact absurd c4 (hs)) (fun c4 => ?_)
  refine ss_ldc2 dX7_put_7 kcX7_90 ?_
  exact ss_lret dX7_put_10 rfl (hQ)
set_option maxHeartbeats 4000000 in
set_option maxRecDepth 100000 in
theorem c_put_o {c : cx} {d : Nat} {X : nX} {Y : nY} {s : Nat} (hs : s < 4) {f i : Int32} {v : Int64} (hf : ix f 3 = false) : sc c mX7_put (d + 3) [.ref (c_ad c 0), .int (nI s), .int f, .int i, .long v] (X) (Y) (some (.long (-1002))) (X) (Y) := by
  intro Q hQ
  show ss c mX7_put (d + 3) Q 0 [(0, .ref (c_ad c 0)), (1, .int (nI s)), (2, .int f), (3, .int i), (4, .long v)] [] (X) (Y)
  have hs9 : ix (nI s) 4 = true := ix_of hs (by decide)
  refine ss_iload_n dX7_put_0 1 rfl ?_
  refine ss_callS (As := [_]) dX7_put_1 vlX7_68 clX7_isSheet rfl rfl (Nat.le_of_ble_eq_true rfl) (Nat.le_of_ble_eq_true rfl) (q_isSheet) ?_
  refine sy_if_ne 11 dX7_put_4 (by decide) (fun c4 => ?_) (fun c4 => by first | exact kd_tf (hs9) c4 | exact kd_ft (hs9) c4 | exact absurd (hs9) c4 | exact absurd c4 (hs9))
  refine ss_iload_n dX7_put_11 2 rfl ?_
  refine ss_callS (As := [_]) dX7_put_12 vlX7_72 clX7_isForm rfl rfl (Nat.le_of_ble_eq_true rfl) (Nat.le_of_ble_eq_true rfl) (q_isForm) ?_
  refine sy_if_ne 22 dX7_put_15 (by decide) (fun c15 => by first | exact kd_tf (hf) c15 | exact kd_ft (hf) c15 | exact absurd (hf) c15 | exact absurd c15 (hf)) (fun c15 => ?_)
  refine ss_ldc2 dX7_put_18 kcX7_92 ?_
  exact ss_lret dX7_put_21 rfl (hQ)
set_option maxHeartbeats 4000000 in
set_option maxRecDepth 100000 in
theorem c_put_c1 {c : cx} {d : Nat} {X : nX} {Y : nY} {s : Nat} (hs : s < 4) {f i : Int32} {v : Int64} (hf : ix f 3 = true) (hh : X (87 + 2 * s) 1 = bI false) : sc c mX7_put (d + 3) [.ref (c_ad c 0), .int (nI s), .int f, .int i, .long v] (X) (Y) (some (.long (nI 0).toInt64)) (up2 X 0 8 (nI 1)) (Y) := by
  intro Q hQ
  show ss c mX7_put (d + 3) Q 0 [(0, .ref (c_ad c 0)), (1, .int (nI s)), (2, .int f), (3, .int i), (4, .long v)] [] (X) (Y)
  have hs9 : ix (nI s) 4 = true := ix_of hs (by decide)
  refine ss_iload_n dX7_put_0 1 rfl ?_
  refine ss_callS (As := [_]) dX7_put_1 vlX7_68 clX7_isSheet rfl rfl (Nat.le_of_ble_eq_true rfl) (Nat.le_of_ble_eq_true rfl) (q_isSheet) ?_
  refine sy_if_ne 11 dX7_put_4 (by decide) (fun c4 => ?_) (fun c4 => by first | exact kd_tf (hs9) c4 | exact kd_ft (hs9) c4 | exact absurd (hs9) c4 | exact absurd c4 (hs9))
  refine ss_iload_n dX7_put_11 2 rfl ?_
  refine ss_callS (As := [_]) dX7_put_12 vlX7_72 clX7_isForm rfl rfl (Nat.le_of_ble_eq_true rfl) (Nat.le_of_ble_eq_true rfl) (q_isForm) ?_
  refine sy_if_ne 22 dX7_put_15 (by decide) (fun c15 => ?_) (fun c15 => by first | exact kd_tf (hf) c15 | exact kd_ft (hf) c15 | exact absurd (hf) c15 | exact absurd c15 (hf))
  refine ss_aload_n dX7_put_22 0 rfl ?_
  refine ss_get (i := 0) dX7_put_23 flX7_18 (by omega) (sh_r0 _ _) rfl ?_
  refine ss_iload_n dX7_put_26 1 rfl ?_
  refine ss_sheet (w := s) dX7_put_27 hs ?_
  refine ss_astore (lv' := [(6, _), (0, _), (1, _), (2, _), (3, _), (4, _)]) dX7_put_28 (by decide) rfl ?_
  refine ss_aload dX7_put_30 0 rfl ?_
  refine ss_get (i := 87 + 2 * s) dX7_put_32 flX7_86 (by omega) (sh_s0 hs _ _) rfl ?_
  rw [hh]
  refine sy_if_ne 45 dX7_put_35 (by decide) (fun c35 => by first | exact kd_tf (rfl) c35 | exact kd_ft (rfl) c35 | exact absurd (rfl) c35 | exact absurd c35 (rfl)) (fun c35 => ?_)
  refine ss_aload_n dX7_put_38 1 rfl ?_
  refine ss_iconst (v := nI 1) dX7_put_39 (by decide) ?_
  refine ss_callV (As := [_]) (i := 0) dX7_put_40 vlX7_75 clX7_meet rfl rfl (by omega) (sh_r0 _ _) rfl (Nat.le_of_ble_eq_true rfl) (Nat.le_of_ble_eq_true rfl) (q_meet) ?_
  refine ss_i2l dX7_put_43 ?_
  exact ss_lret dX7_put_44 rfl (hQ)
set_option maxHeartbeats 4000000 in
set_option maxRecDepth 100000 in
theorem c_put_c2 {c : cx} {d : Nat} {X : nX} {Y : nY} {s : Nat} (hs : s < 4) {f i : Int32} {v : Int64} (hf : ix f 3 = true) (hh : X (87 + 2 * s) 1 = bI true) (hff : ¬ X (87 + 2 * s) 2 = f) : sc c mX7_put (d + 3) [.ref (c_ad c 0), .int (nI s), .int f, .int i, .long v] (X) (Y) (some (.long (nI 0).toInt64)) (up2 X 0 8 (nI 2)) (Y) := by
  intro Q hQ
  show ss c mX7_put (d + 3) Q 0 [(0, .ref (c_ad c 0)), (1, .int (nI s)), (2, .int f), (3, .int i), (4, .long v)] [] (X) (Y)
  have hs9 : ix (nI s) 4 = true := ix_of hs (by decide)
  refine ss_iload_n dX7_put_0 1 rfl ?_
  refine ss_callS (As := [_]) dX7_put_1 vlX7_68 clX7_isSheet rfl rfl (Nat.le_of_ble_eq_true rfl) (Nat.le_of_ble_eq_true rfl) (q_isSheet) ?_
  refine sy_if_ne 11 dX7_put_4 (by decide) (fun c4 => ?_) (fun c4 => by first | exact kd_tf (hs9) c4 | exact kd_ft (hs9) c4 | exact absurd (hs9) c4 | exact absurd c4 (hs9))
  refine ss_iload_n dX7_put_11 2 rfl ?_
  refine ss_callS (As := [_]) dX7_put_12 vlX7_72 clX7_isForm rfl rfl (Nat.le_of_ble_eq_true rfl) (Nat.le_of_ble_eq_true rfl) (q_isForm) ?_
  refine sy_if_ne 22 dX7_put_15 (by decide) (fun c15 => ?_) (fun c15 => by first | exact kd_tf (hf) c15 | exact kd_ft (hf) c15 | exact absurd (hf) c15 | exact absurd c15 (hf))
  refine ss_aload_n dX7_put_22 0 rfl ?_
  refine ss_get (i := 0) dX7_put_23 flX7_18 (by omega) (sh_r0 _ _) rfl ?_
  refine ss_iload_n dX7_put_26 1 rfl ?_
  refine ss_sheet (w := s) dX7_put_27 hs ?_
  refine ss_astore (lv' := [(6, _), (0, _), (1, _), (2, _), (3, _), (4, _)]) dX7_put_28 (by decide) rfl ?_
  refine ss_aload dX7_put_30 0 rfl ?_
  refine ss_get (i := 87 + 2 * s) dX7_put_32 flX7_86 (by omega) (sh_s0 hs _ _) rfl ?_
  rw [hh]
  refine sy_if_ne 45 dX7_put_35 (by decide) (fun c35 => ?_) (fun c35 => by first | exact kd_tf (rfl) c35 | exact kd_ft (rfl) c35 | exact absurd (rfl) c35 | exact absurd c35 (rfl))
  refine ss_aload dX7_put_45 0 rfl ?_
  refine ss_get (i := 87 + 2 * s) dX7_put_47 flX7_94 (by omega) (sh_s0 hs _ _) rfl ?_
  refine ss_iload_n dX7_put_50 3 rfl ?_
  refine ss_icmp_eq 61 dX7_put_51 (by decide) (fun c51 => by first | exact kd_tf (hff) c51 | exact kd_ft (hff) c51 | exact absurd (hff) c51 | exact absurd c51 (hff)) (fun c51 => ?_)
  refine ss_aload_n dX7_put_54 1 rfl ?_
  refine ss_iconst (v := nI 2) dX7_put_55 (by decide) ?_
  refine ss_callV (As := [_]) (i := 0) dX7_put_56 vlX7_75 clX7_meet rfl rfl (by omega) (sh_r0 _ _) rfl (Nat.le_of_ble_eq_true rfl) (Nat.le_of_ble_eq_true rfl) (q_meet) ?_
  refine ss_i2l dX7_put_59 ?_
  exact ss_lret dX7_put_60 rfl (hQ)
set_option maxHeartbeats 4000000 in
set_option maxRecDepth 100000 in
theorem c_put_c3 {c : cx} {d : Nat} {X : nX} {Y : nY} {s : Nat} (hs : s < 4) {f i : Int32} {v : Int64} (hf : ix f 3 = true) (hh : X (87 + 2 * s) 1 = bI true) (hff : X (87 + 2 * s) 2 = f) {k : Nat} (hk : k ≤ 1100) (hpl : X (87 + 2 * s) 3 = nI k) (hi : ix i k = false) : sc c mX7_put (d + 3) [.ref (c_ad c 0), .int (nI s), .int f, .int i, .long v] (X) (Y) (some (.long (nI 0).toInt64)) (up2 X 0 8 (nI 3)) (Y) := by
  intro Q hQ
  show ss c mX7_put (d + 3) Q 0 [(0, .ref (c_ad c 0)), (1, .int (nI s)), (2, .int f), (3, .int i), (4, .long v)] [] (X) (Y)
  have hs9 : ix (nI s) 4 = true := ix_of hs (by decide)
  refine ss_iload_n dX7_put_0 1 rfl ?_
  refine ss_callS (As := [_]) dX7_put_1 vlX7_68 clX7_isSheet rfl rfl (Nat.le_of_ble_eq_true rfl) (Nat.le_of_ble_eq_true rfl) (q_isSheet) ?_
  refine sy_if_ne 11 dX7_put_4 (by decide) (fun c4 => ?_) (fun c4 => by first | exact kd_tf (hs9) c4 | exact kd_ft (hs9) c4 | exact absurd (hs9) c4 | exact absurd c4 (hs9))
  refine ss_iload_n dX7_put_11 2 rfl ?_
  refine ss_callS (As := [_]) dX7_put_12 vlX7_72 clX7_isForm rfl rfl (Nat.le_of_ble_eq_true rfl) (Nat.le_of_ble_eq_true rfl) (q_isForm) ?_
  refine sy_if_ne 22 dX7_put_15 (by decide) (fun c15 => ?_) (fun c15 => by first | exact kd_tf (hf) c15 | exact kd_ft (hf) c15 | exact absurd (hf) c15 | exact absurd c15 (hf))
  refine ss_aload_n dX7_put_22 0 rfl ?_
  refine ss_get (i := 0) dX7_put_23 flX7_18 (by omega) (sh_r0 _ _) rfl ?_
  refine ss_iload_n dX7_put_26 1 rfl ?_
  refine ss_sheet (w := s) dX7_put_27 hs ?_
  refine ss_astore (lv' := [(6, _), (0, _), (1, _), (2, _), (3, _), (4, _)]) dX7_put_28 (by decide) rfl ?_
  refine ss_aload dX7_put_30 0 rfl ?_
  refine ss_get (i := 87 + 2 * s) dX7_put_32 flX7_86 (by omega) (sh_s0 hs _ _) rfl ?_
  rw [hh]
  refine sy_if_ne 45 dX7_put_35 (by decide) (fun c35 => ?_) (fun c35 => by first | exact kd_tf (rfl) c35 | exact kd_ft (rfl) c35 | exact absurd (rfl) c35 | exact absurd c35 (rfl))
  refine ss_aload dX7_put_45 0 rfl ?_
  refine ss_get (i := 87 + 2 * s) dX7_put_47 flX7_94 (by omega) (sh_s0 hs _ _) rfl ?_
  refine ss_iload_n dX7_put_50 3 rfl ?_
  refine ss_icmp_eq 61 dX7_put_51 (by decide) (fun c51 => ?_) (fun c51 => by first | exact kd_tf (hff) c51 | exact kd_ft (hff) c51 | exact absurd (hff) c51 | exact absurd c51 (hff))
  refine ss_aload dX7_put_61 0 rfl ?_
  refine ss_iload_n dX7_put_63 4 rfl ?_
  refine ss_callV (As := [_]) (i := 87 + 2 * s) dX7_put_64 vlX7_97 clX5_hasPlace rfl rfl (by omega) (sh_s0 hs _ _) rfl (Nat.le_of_ble_eq_true rfl) (Nat.le_of_ble_eq_true rfl) (q_hasPlace hs hk hpl) ?_
  refine sy_if_ne 77 dX7_put_67 (by decide) (fun c67 => by first | exact kd_tf (hi) c67 | exact kd_ft (hi) c67 | exact absurd (hi) c67 | exact absurd c67 (hi)) (fun c67 => ?_)
  refine ss_aload_n dX7_put_70 1 rfl ?_
  refine ss_iconst (v := nI 3) dX7_put_71 (by decide) ?_
  refine ss_callV (As := [_]) (i := 0) dX7_put_72 vlX7_75 clX7_meet rfl rfl (by omega) (sh_r0 _ _) rfl (Nat.le_of_ble_eq_true rfl) (Nat.le_of_ble_eq_true rfl) (q_meet) ?_
  refine ss_i2l dX7_put_75 ?_
  exact ss_lret dX7_put_76 rfl (hQ)
set_option maxHeartbeats 4000000 in
set_option maxRecDepth 100000 in
theorem c_put_k0 {c : cx} {d : Nat} {X : nX} {Y : nY} {s : Nat} (hs : s < 4) {v : Int64} (hh : X (87 + 2 * s) 1 = bI true) (hff : X (87 + 2 * s) 2 = nI 0) {k i : Nat} (hk : k ≤ 1100) (hpl : X (87 + 2 * s) 3 = nI k) (hi : i < k) : sc c mX7_put (d + 3) [.ref (c_ad c 0), .int (nI s), .int (nI 0), .int (nI i), .long v] (X) (Y) (some (.long (v.toInt32.toInt8.toInt32.toInt64))) (up2 X 0 8 (nI 0)) (upl Y (88 + 2 * s) i (v.toInt32.toInt8.toInt32.toInt64)) := by
  intro Q hQ
  show ss c mX7_put (d + 3) Q 0 [(0, .ref (c_ad c 0)), (1, .int (nI s)), (2, .int (nI 0)), (3, .int (nI i)), (4, .long v)] [] (X) (Y)
  have hs9 : ix (nI s) 4 = true := ix_of hs (by decide)
  refine ss_iload_n dX7_put_0 1 rfl ?_
  refine ss_callS (As := [_]) dX7_put_1 vlX7_68 clX7_isSheet rfl rfl (Nat.le_of_ble_eq_true rfl) (Nat.le_of_ble_eq_true rfl) (q_isSheet) ?_
  refine sy_if_ne 11 dX7_put_4 (by decide) (fun c4 => ?_) (fun c4 => by first | exact kd_tf (hs9) c4 | exact kd_ft (hs9) c4 | exact absurd (hs9) c4 | exact absurd c4 (hs9))
  refine ss_iload_n dX7_put_11 2 rfl ?_
  refine ss_callS (As := [_]) dX7_put_12 vlX7_72 clX7_isForm rfl rfl (Nat.le_of_ble_eq_true rfl) (Nat.le_of_ble_eq_true rfl) (q_isForm) ?_
  refine sy_if_ne 22 dX7_put_15 (by decide) (fun c15 => ?_) (fun c15 => by first | exact kd_tf (ix_of (by decide) (by decide)) c15 | exact kd_ft (ix_of (by decide) (by decide)) c15 | exact absurd (ix_of (by decide) (by decide)) c15 | exact absurd c15 (ix_of (by decide) (by decide)))
  refine ss_aload_n dX7_put_22 0 rfl ?_
  refine ss_get (i := 0) dX7_put_23 flX7_18 (by omega) (sh_r0 _ _) rfl ?_
  refine ss_iload_n dX7_put_26 1 rfl ?_
  refine ss_sheet (w := s) dX7_put_27 hs ?_
  refine ss_astore (lv' := [(6, _), (0, _), (1, _), (2, _), (3, _), (4, _)]) dX7_put_28 (by decide) rfl ?_
  refine ss_aload dX7_put_30 0 rfl ?_
  refine ss_get (i := 87 + 2 * s) dX7_put_32 flX7_86 (by omega) (sh_s0 hs _ _) rfl ?_
  rw [hh]
  refine sy_if_ne 45 dX7_put_35 (by decide) (fun c35 => ?_) (fun c35 => by first | exact kd_tf (rfl) c35 | exact kd_ft (rfl) c35 | exact absurd (rfl) c35 | exact absurd c35 (rfl))
  refine ss_aload dX7_put_45 0 rfl ?_
  refine ss_get (i := 87 + 2 * s) dX7_put_47 flX7_94 (by omega) (sh_s0 hs _ _) rfl ?_
  refine ss_iload_n dX7_put_50 3 rfl ?_
  refine ss_icmp_eq 61 dX7_put_51 (by decide) (fun c51 => ?_) (fun c51 => by first | exact kd_tf (hff) c51 | exact kd_ft (hff) c51 | exact absurd (hff) c51 | exact absurd c51 (hff))
  refine ss_aload dX7_put_61 0 rfl ?_
  refine ss_iload_n dX7_put_63 4 rfl ?_
  refine ss_callV (As := [_]) (i := 87 + 2 * s) dX7_put_64 vlX7_97 clX5_hasPlace rfl rfl (by omega) (sh_s0 hs _ _) rfl (Nat.le_of_ble_eq_true rfl) (Nat.le_of_ble_eq_true rfl) (q_hasPlace hs hk hpl) ?_
  refine sy_if_ne 77 dX7_put_67 (by decide) (fun c67 => ?_) (fun c67 => by first | exact kd_tf (ix_of hi (by omega)) c67 | exact kd_ft (ix_of hi (by omega)) c67 | exact absurd (ix_of hi (by omega)) c67 | exact absurd c67 (ix_of hi (by omega)))
  refine ss_aload_n dX7_put_77 1 rfl ?_
  refine ss_iconst (v := nI 0) dX7_put_78 (by decide) ?_
  refine ss_put (i := 0) dX7_put_79 fwX7_79 (by omega) (sh_r0 _ _) rfl rfl (Nat.le_of_ble_eq_true rfl) (sh_r0 _ _) ?_
  refine ss_aload dX7_put_82 0 rfl ?_
  refine ss_get (i := 87 + 2 * s) dX7_put_84 flX7_100 (by omega) (sh_s0 hs _ _) rfl ?_
  refine ss_iload_n dX7_put_87 4 rfl ?_
  refine ss_iload_n dX7_put_88 3 rfl ?_
  refine ss_lload dX7_put_89 5 rfl ?_
  refine ss_callS (As := [_, _]) dX7_put_91 vlX7_104 clX7_cutToForm rfl rfl (Nat.le_of_ble_eq_true rfl) (Nat.le_of_ble_eq_true rfl) (q_cutToForm0) ?_
  refine ss_last (i := 88 + 2 * s) dX7_put_94 (by omega) (sh_s1 hs) (by omega) (by decide) ?_
  refine ss_aload dX7_put_95 0 rfl ?_
  refine ss_get (i := 87 + 2 * s) dX7_put_97 flX7_100 (by omega) (sh_s0 hs _ _) rfl ?_
  refine ss_iload_n dX7_put_100 4 rfl ?_
  refine ss_lald (i := 88 + 2 * s) dX7_put_101 (by omega) (sh_s1 hs) (by omega) (by decide) ?_
  rw [upl_at, if_pos ⟨rfl, rfl⟩]
  exact ss_lret dX7_put_102 rfl (hQ)
set_option maxHeartbeats 4000000 in
set_option maxRecDepth 100000 in
theorem c_put_k1 {c : cx} {d : Nat} {X : nX} {Y : nY} {s : Nat} (hs : s < 4) {v : Int64} (hh : X (87 + 2 * s) 1 = bI true) (hff : X (87 + 2 * s) 2 = nI 1) {k i : Nat} (hk : k ≤ 1100) (hpl : X (87 + 2 * s) 3 = nI k) (hi : i < k) : sc c mX7_put (d + 3) [.ref (c_ad c 0), .int (nI s), .int (nI 1), .int (nI i), .long v] (X) (Y) (some (.long (v.toInt32.toInt64))) (up2 X 0 8 (nI 0)) (upl Y (88 + 2 * s) i (v.toInt32.toInt64)) := by
  intro Q hQ
  show ss c mX7_put (d + 3) Q 0 [(0, .ref (c_ad c 0)), (1, .int (nI s)), (2, .int (nI 1)), (3, .int (nI i)), (4, .long v)] [] (X) (Y)
  have hs9 : ix (nI s) 4 = true := ix_of hs (by decide)
  refine ss_iload_n dX7_put_0 1 rfl ?_
  refine ss_callS (As := [_]) dX7_put_1 vlX7_68 clX7_isSheet rfl rfl (Nat.le_of_ble_eq_true rfl) (Nat.le_of_ble_eq_true rfl) (q_isSheet) ?_
  refine sy_if_ne 11 dX7_put_4 (by decide) (fun c4 => ?_) (fun c4 => by first | exact kd_tf (hs9) c4 | exact kd_ft (hs9) c4 | exact absurd (hs9) c4 | exact absurd c4 (hs9))
  refine ss_iload_n dX7_put_11 2 rfl ?_
  refine ss_callS (As := [_]) dX7_put_12 vlX7_72 clX7_isForm rfl rfl (Nat.le_of_ble_eq_true rfl) (Nat.le_of_ble_eq_true rfl) (q_isForm) ?_
  refine sy_if_ne 22 dX7_put_15 (by decide) (fun c15 => ?_) (fun c15 => by first | exact kd_tf (ix_of (by decide) (by decide)) c15 | exact kd_ft (ix_of (by decide) (by decide)) c15 | exact absurd (ix_of (by decide) (by decide)) c15 | exact absurd c15 (ix_of (by decide) (by decide)))
  refine ss_aload_n dX7_put_22 0 rfl ?_
  refine ss_get (i := 0) dX7_put_23 flX7_18 (by omega) (sh_r0 _ _) rfl ?_
  refine ss_iload_n dX7_put_26 1 rfl ?_
  refine ss_sheet (w := s) dX7_put_27 hs ?_
  refine ss_astore (lv' := [(6, _), (0, _), (1, _), (2, _), (3, _), (4, _)]) dX7_put_28 (by decide) rfl ?_
  refine ss_aload dX7_put_30 0 rfl ?_
  refine ss_get (i := 87 + 2 * s) dX7_put_32 flX7_86 (by omega) (sh_s0 hs _ _) rfl ?_
  rw [hh]
  refine sy_if_ne 45 dX7_put_35 (by decide) (fun c35 => ?_) (fun c35 => by first | exact kd_tf (rfl) c35 | exact kd_ft (rfl) c35 | exact absurd (rfl) c35 | exact absurd c35 (rfl))
  refine ss_aload dX7_put_45 0 rfl ?_
  refine ss_get (i := 87 + 2 * s) dX7_put_47 flX7_94 (by omega) (sh_s0 hs _ _) rfl ?_
  refine ss_iload_n dX7_put_50 3 rfl ?_
  refine ss_icmp_eq 61 dX7_put_51 (by decide) (fun c51 => ?_) (fun c51 => by first | exact kd_tf (hff) c51 | exact kd_ft (hff) c51 | exact absurd (hff) c51 | exact absurd c51 (hff))
  refine ss_aload dX7_put_61 0 rfl ?_
  refine ss_iload_n dX7_put_63 4 rfl ?_
  refine ss_callV (As := [_]) (i := 87 + 2 * s) dX7_put_64 vlX7_97 clX5_hasPlace rfl rfl (by omega) (sh_s0 hs _ _) rfl (Nat.le_of_ble_eq_true rfl) (Nat.le_of_ble_eq_true rfl) (q_hasPlace hs hk hpl) ?_
  refine sy_if_ne 77 dX7_put_67 (by decide) (fun c67 => ?_) (fun c67 => by first | exact kd_tf (ix_of hi (by omega)) c67 | exact kd_ft (ix_of hi (by omega)) c67 | exact absurd (ix_of hi (by omega)) c67 | exact absurd c67 (ix_of hi (by omega)))
  refine ss_aload_n dX7_put_77 1 rfl ?_
  refine ss_iconst (v := nI 0) dX7_put_78 (by decide) ?_
  refine ss_put (i := 0) dX7_put_79 fwX7_79 (by omega) (sh_r0 _ _) rfl rfl (Nat.le_of_ble_eq_true rfl) (sh_r0 _ _) ?_
  refine ss_aload dX7_put_82 0 rfl ?_
  refine ss_get (i := 87 + 2 * s) dX7_put_84 flX7_100 (by omega) (sh_s0 hs _ _) rfl ?_
  refine ss_iload_n dX7_put_87 4 rfl ?_
  refine ss_iload_n dX7_put_88 3 rfl ?_
  refine ss_lload dX7_put_89 5 rfl ?_
  refine ss_callS (As := [_, _]) dX7_put_91 vlX7_104 clX7_cutToForm rfl rfl (Nat.le_of_ble_eq_true rfl) (Nat.le_of_ble_eq_true rfl) (q_cutToForm1) ?_
  refine ss_last (i := 88 + 2 * s) dX7_put_94 (by omega) (sh_s1 hs) (by omega) (by decide) ?_
  refine ss_aload dX7_put_95 0 rfl ?_
  refine ss_get (i := 87 + 2 * s) dX7_put_97 flX7_100 (by omega) (sh_s0 hs _ _) rfl ?_
  refine ss_iload_n dX7_put_100 4 rfl ?_
  refine ss_lald (i := 88 + 2 * s) dX7_put_101 (by omega) (sh_s1 hs) (by omega) (by decide) ?_
  rw [upl_at, if_pos ⟨rfl, rfl⟩]
  exact ss_lret dX7_put_102 rfl (hQ)
set_option maxHeartbeats 4000000 in
set_option maxRecDepth 100000 in
theorem c_put_k2 {c : cx} {d : Nat} {X : nX} {Y : nY} {s : Nat} (hs : s < 4) {v : Int64} (hh : X (87 + 2 * s) 1 = bI true) (hff : X (87 + 2 * s) 2 = nI 2) {k i : Nat} (hk : k ≤ 1100) (hpl : X (87 + 2 * s) 3 = nI k) (hi : i < k) : sc c mX7_put (d + 3) [.ref (c_ad c 0), .int (nI s), .int (nI 2), .int (nI i), .long v] (X) (Y) (some (.long (v))) (up2 X 0 8 (nI 0)) (upl Y (88 + 2 * s) i (v)) := by
  intro Q hQ
  show ss c mX7_put (d + 3) Q 0 [(0, .ref (c_ad c 0)), (1, .int (nI s)), (2, .int (nI 2)), (3, .int (nI i)), (4, .long v)] [] (X) (Y)
  have hs9 : ix (nI s) 4 = true := ix_of hs (by decide)
  refine ss_iload_n dX7_put_0 1 rfl ?_
  refine ss_callS (As := [_]) dX7_put_1 vlX7_68 clX7_isSheet rfl rfl (Nat.le_of_ble_eq_true rfl) (Nat.le_of_ble_eq_true rfl) (q_isSheet) ?_
  refine sy_if_ne 11 dX7_put_4 (by decide) (fun c4 => ?_) (fun c4 => by first | exact kd_tf (hs9) c4 | exact kd_ft (hs9) c4 | exact absurd (hs9) c4 | exact absurd c4 (hs9))
  refine ss_iload_n dX7_put_11 2 rfl ?_
  refine ss_callS (As := [_]) dX7_put_12 vlX7_72 clX7_isForm rfl rfl (Nat.le_of_ble_eq_true rfl) (Nat.le_of_ble_eq_true rfl) (q_isForm) ?_
  refine sy_if_ne 22 dX7_put_15 (by decide) (fun c15 => ?_) (fun c15 => by first | exact kd_tf (ix_of (by decide) (by decide)) c15 | exact kd_ft (ix_of (by decide) (by decide)) c15 | exact absurd (ix_of (by decide) (by decide)) c15 | exact absurd c15 (ix_of (by decide) (by decide)))
  refine ss_aload_n dX7_put_22 0 rfl ?_
  refine ss_get (i := 0) dX7_put_23 flX7_18 (by omega) (sh_r0 _ _) rfl ?_
  refine ss_iload_n dX7_put_26 1 rfl ?_
  refine ss_sheet (w := s) dX7_put_27 hs ?_
  refine ss_astore (lv' := [(6, _), (0, _), (1, _), (2, _), (3, _), (4, _)]) dX7_put_28 (by decide) rfl ?_
  refine ss_aload dX7_put_30 0 rfl ?_
  refine ss_get (i := 87 + 2 * s) dX7_put_32 flX7_86 (by omega) (sh_s0 hs _ _) rfl ?_
  rw [hh]
  refine sy_if_ne 45 dX7_put_35 (by decide) (fun c35 => ?_) (fun c35 => by first | exact kd_tf (rfl) c35 | exact kd_ft (rfl) c35 | exact absurd (rfl) c35 | exact absurd c35 (rfl))
  refine ss_aload dX7_put_45 0 rfl ?_
  refine ss_get (i := 87 + 2 * s) dX7_put_47 flX7_94 (by omega) (sh_s0 hs _ _) rfl ?_
  refine ss_iload_n dX7_put_50 3 rfl ?_
  refine ss_icmp_eq 61 dX7_put_51 (by decide) (fun c51 => ?_) (fun c51 => by first | exact kd_tf (hff) c51 | exact kd_ft (hff) c51 | exact absurd (hff) c51 | exact absurd c51 (hff))
  refine ss_aload dX7_put_61 0 rfl ?_
  refine ss_iload_n dX7_put_63 4 rfl ?_
  refine ss_callV (As := [_]) (i := 87 + 2 * s) dX7_put_64 vlX7_97 clX5_hasPlace rfl rfl (by omega) (sh_s0 hs _ _) rfl (Nat.le_of_ble_eq_true rfl) (Nat.le_of_ble_eq_true rfl) (q_hasPlace hs hk hpl) ?_
  refine sy_if_ne 77 dX7_put_67 (by decide) (fun c67 => ?_) (fun c67 => by first | exact kd_tf (ix_of hi (by omega)) c67 | exact kd_ft (ix_of hi (by omega)) c67 | exact absurd (ix_of hi (by omega)) c67 | exact absurd c67 (ix_of hi (by omega)))
  refine ss_aload_n dX7_put_77 1 rfl ?_
  refine ss_iconst (v := nI 0) dX7_put_78 (by decide) ?_
  refine ss_put (i := 0) dX7_put_79 fwX7_79 (by omega) (sh_r0 _ _) rfl rfl (Nat.le_of_ble_eq_true rfl) (sh_r0 _ _) ?_
  refine ss_aload dX7_put_82 0 rfl ?_
  refine ss_get (i := 87 + 2 * s) dX7_put_84 flX7_100 (by omega) (sh_s0 hs _ _) rfl ?_
  refine ss_iload_n dX7_put_87 4 rfl ?_
  refine ss_iload_n dX7_put_88 3 rfl ?_
  refine ss_lload dX7_put_89 5 rfl ?_
  refine ss_callS (As := [_, _]) dX7_put_91 vlX7_104 clX7_cutToForm rfl rfl (Nat.le_of_ble_eq_true rfl) (Nat.le_of_ble_eq_true rfl) (q_cutToForm2) ?_
  refine ss_last (i := 88 + 2 * s) dX7_put_94 (by omega) (sh_s1 hs) (by omega) (by decide) ?_
  refine ss_aload dX7_put_95 0 rfl ?_
  refine ss_get (i := 87 + 2 * s) dX7_put_97 flX7_100 (by omega) (sh_s0 hs _ _) rfl ?_
  refine ss_iload_n dX7_put_100 4 rfl ?_
  refine ss_lald (i := 88 + 2 * s) dX7_put_101 (by omega) (sh_s1 hs) (by omega) (by decide) ?_
  rw [upl_at, if_pos ⟨rfl, rfl⟩]
  exact ss_lret dX7_put_102 rfl (hQ)
set_option maxHeartbeats 4000000 in
set_option maxRecDepth 100000 in
theorem c_at_u {c : cx} {d : Nat} {X : nX} {Y : nY} {s : Int32} (hs : ix s 4 = false) {i : Int32} : sc c mX7_at (d + 3) [.ref (c_ad c 0), .int s, .int i] (X) (Y) (some (.long (-1001))) (X) (Y) := by
  intro Q hQ
  show ss c mX7_at (d + 3) Q 0 [(0, .ref (c_ad c 0)), (1, .int s), (2, .int i)] [] (X) (Y)
  refine ss_iload_n dX7_at_0 1 rfl ?_
  refine ss_callS (As := [_]) dX7_at_1 vlX7_68 clX7_isSheet rfl rfl (Nat.le_of_ble_eq_true rfl) (Nat.le_of_ble_eq_true rfl) (q_isSheet) ?_
  refine sy_if_ne 11 dX7_at_4 (by decide) (fun c4 => by first | exact kd_tf (hs) c4 | exact kd_ft (hs) c4 | exact absurd (hs) c4 | exact absurd c4 (hs)) (fun c4 => ?_)
  refine ss_ldc2 dX7_at_7 kcX7_90 ?_
  exact ss_lret dX7_at_10 rfl (hQ)
set_option maxHeartbeats 4000000 in
set_option maxRecDepth 100000 in
theorem c_at_c1 {c : cx} {d : Nat} {X : nX} {Y : nY} {s : Nat} (hs : s < 4) {i : Int32} (hh : X (87 + 2 * s) 1 = bI false) : sc c mX7_at (d + 3) [.ref (c_ad c 0), .int (nI s), .int i] (X) (Y) (some (.long (nI 0).toInt64)) (up2 X 0 8 (nI 1)) (Y) := by
  intro Q hQ
  show ss c mX7_at (d + 3) Q 0 [(0, .ref (c_ad c 0)), (1, .int (nI s)), (2, .int i)] [] (X) (Y)
  have hs9 : ix (nI s) 4 = true := ix_of hs (by decide)
  refine ss_iload_n dX7_at_0 1 rfl ?_
  refine ss_callS (As := [_]) dX7_at_1 vlX7_68 clX7_isSheet rfl rfl (Nat.le_of_ble_eq_true rfl) (Nat.le_of_ble_eq_true rfl) (q_isSheet) ?_
  refine sy_if_ne 11 dX7_at_4 (by decide) (fun c4 => ?_) (fun c4 => by first | exact kd_tf (hs9) c4 | exact kd_ft (hs9) c4 | exact absurd (hs9) c4 | exact absurd c4 (hs9))
  refine ss_aload_n dX7_at_11 0 rfl ?_
  refine ss_get (i := 0) dX7_at_12 flX7_18 (by omega) (sh_r0 _ _) rfl ?_
  refine ss_iload_n dX7_at_15 1 rfl ?_
  refine ss_sheet (w := s) dX7_at_16 hs ?_
  refine ss_astore_n (lv' := [(3, _), (0, _), (1, _), (2, _)]) dX7_at_17 (by decide) rfl ?_
  refine ss_aload_n dX7_at_18 0 rfl ?_
  refine ss_get (i := 87 + 2 * s) dX7_at_19 flX7_86 (by omega) (sh_s0 hs _ _) rfl ?_
  rw [hh]
  refine sy_if_ne 32 dX7_at_22 (by decide) (fun c22 => by first | exact kd_tf (rfl) c22 | exact kd_ft (rfl) c22 | exact absurd (rfl) c22 | exact absurd c22 (rfl)) (fun c22 => ?_)
  refine ss_aload_n dX7_at_25 1 rfl ?_
  refine ss_iconst (v := nI 1) dX7_at_26 (by decide) ?_
  refine ss_callV (As := [_]) (i := 0) dX7_at_27 vlX7_75 clX7_meet rfl rfl (by omega) (sh_r0 _ _) rfl (Nat.le_of_ble_eq_true rfl) (Nat.le_of_ble_eq_true rfl) (q_meet) ?_
  refine ss_i2l dX7_at_30 ?_
  exact ss_lret dX7_at_31 rfl (hQ)
set_option maxHeartbeats 4000000 in
set_option maxRecDepth 100000 in
theorem c_at_c3 {c : cx} {d : Nat} {X : nX} {Y : nY} {s : Nat} (hs : s < 4) {i : Int32} (hh : X (87 + 2 * s) 1 = bI true) {k : Nat} (hk : k ≤ 1100) (hpl : X (87 + 2 * s) 3 = nI k) (hi : ix i k = false) : sc c mX7_at (d + 3) [.ref (c_ad c 0), .int (nI s), .int i] (X) (Y) (some (.long (nI 0).toInt64)) (up2 X 0 8 (nI 3)) (Y) := by
  intro Q hQ
  show ss c mX7_at (d + 3) Q 0 [(0, .ref (c_ad c 0)), (1, .int (nI s)), (2, .int i)] [] (X) (Y)
  have hs9 : ix (nI s) 4 = true := ix_of hs (by decide)
  refine ss_iload_n dX7_at_0 1 rfl ?_
  refine ss_callS (As := [_]) dX7_at_1 vlX7_68 clX7_isSheet rfl rfl (Nat.le_of_ble_eq_true rfl) (Nat.le_of_ble_eq_true rfl) (q_isSheet) ?_
  refine sy_if_ne 11 dX7_at_4 (by decide) (fun c4 => ?_) (fun c4 => by first | exact kd_tf (hs9) c4 | exact kd_ft (hs9) c4 | exact absurd (hs9) c4 | exact absurd c4 (hs9))
  refine ss_aload_n dX7_at_11 0 rfl ?_
  refine ss_get (i := 0) dX7_at_12 flX7_18 (by omega) (sh_r0 _ _) rfl ?_
  refine ss_iload_n dX7_at_15 1 rfl ?_
  refine ss_sheet (w := s) dX7_at_16 hs ?_
  refine ss_astore_n (lv' := [(3, _), (0, _), (1, _), (2, _)]) dX7_at_17 (by decide) rfl ?_
  refine ss_aload_n dX7_at_18 0 rfl ?_
  refine ss_get (i := 87 + 2 * s) dX7_at_19 flX7_86 (by omega) (sh_s0 hs _ _) rfl ?_
  rw [hh]
  refine sy_if_ne 32 dX7_at_22 (by decide) (fun c22 => ?_) (fun c22 => by first | exact kd_tf (rfl) c22 | exact kd_ft (rfl) c22 | exact absurd (rfl) c22 | exact absurd c22 (rfl))
  refine ss_aload_n dX7_at_32 0 rfl ?_
  refine ss_iload_n dX7_at_33 3 rfl ?_
  refine ss_callV (As := [_]) (i := 87 + 2 * s) dX7_at_34 vlX7_97 clX5_hasPlace rfl rfl (by omega) (sh_s0 hs _ _) rfl (Nat.le_of_ble_eq_true rfl) (Nat.le_of_ble_eq_true rfl) (q_hasPlace hs hk hpl) ?_
  refine sy_if_ne 47 dX7_at_37 (by decide) (fun c37 => by first | exact kd_tf (hi) c37 | exact kd_ft (hi) c37 | exact absurd (hi) c37 | exact absurd c37 (hi)) (fun c37 => ?_)
  refine ss_aload_n dX7_at_40 1 rfl ?_
  refine ss_iconst (v := nI 3) dX7_at_41 (by decide) ?_
  refine ss_callV (As := [_]) (i := 0) dX7_at_42 vlX7_75 clX7_meet rfl rfl (by omega) (sh_r0 _ _) rfl (Nat.le_of_ble_eq_true rfl) (Nat.le_of_ble_eq_true rfl) (q_meet) ?_
  refine ss_i2l dX7_at_45 ?_
  exact ss_lret dX7_at_46 rfl (hQ)
set_option maxHeartbeats 4000000 in
set_option maxRecDepth 100000 in
theorem c_at_k {c : cx} {d : Nat} {X : nX} {Y : nY} {s : Nat} (hs : s < 4) (hh : X (87 + 2 * s) 1 = bI true) {k i : Nat} (hk : k ≤ 1100) (hpl : X (87 + 2 * s) 3 = nI k) (hi : i < k) : sc c mX7_at (d + 3) [.ref (c_ad c 0), .int (nI s), .int (nI i)] (X) (Y) (some (.long (Y (88 + 2 * s) i))) (up2 X 0 8 (nI 0)) (Y) := by
  intro Q hQ
  show ss c mX7_at (d + 3) Q 0 [(0, .ref (c_ad c 0)), (1, .int (nI s)), (2, .int (nI i))] [] (X) (Y)
  have hs9 : ix (nI s) 4 = true := ix_of hs (by decide)
  refine ss_iload_n dX7_at_0 1 rfl ?_
  refine ss_callS (As := [_]) dX7_at_1 vlX7_68 clX7_isSheet rfl rfl (Nat.le_of_ble_eq_true rfl) (Nat.le_of_ble_eq_true rfl) (q_isSheet) ?_
  refine sy_if_ne 11 dX7_at_4 (by decide) (fun c4 => ?_) (fun c4 => by first | exact kd_tf (hs9) c4 | exact kd_ft (hs9) c4 | exact absurd (hs9) c4 | exact absurd c4 (hs9))
  refine ss_aload_n dX7_at_11 0 rfl ?_
  refine ss_get (i := 0) dX7_at_12 flX7_18 (by omega) (sh_r0 _ _) rfl ?_
  refine ss_iload_n dX7_at_15 1 rfl ?_
  refine ss_sheet (w := s) dX7_at_16 hs ?_
  refine ss_astore_n (lv' := [(3, _), (0, _), (1, _), (2, _)]) dX7_at_17 (by decide) rfl ?_
  refine ss_aload_n dX7_at_18 0 rfl ?_
  refine ss_get (i := 87 + 2 * s) dX7_at_19 flX7_86 (by omega) (sh_s0 hs _ _) rfl ?_
  rw [hh]
  refine sy_if_ne 32 dX7_at_22 (by decide) (fun c22 => ?_) (fun c22 => by first | exact kd_tf (rfl) c22 | exact kd_ft (rfl) c22 | exact absurd (rfl) c22 | exact absurd c22 (rfl))
  refine ss_aload_n dX7_at_32 0 rfl ?_
  refine ss_iload_n dX7_at_33 3 rfl ?_
  refine ss_callV (As := [_]) (i := 87 + 2 * s) dX7_at_34 vlX7_97 clX5_hasPlace rfl rfl (by omega) (sh_s0 hs _ _) rfl (Nat.le_of_ble_eq_true rfl) (Nat.le_of_ble_eq_true rfl) (q_hasPlace hs hk hpl) ?_
  refine sy_if_ne 47 dX7_at_37 (by decide) (fun c37 => ?_) (fun c37 => by first | exact kd_tf (ix_of hi (by omega)) c37 | exact kd_ft (ix_of hi (by omega)) c37 | exact absurd (ix_of hi (by omega)) c37 | exact absurd c37 (ix_of hi (by omega)))
  refine ss_aload_n dX7_at_47 1 rfl ?_
  refine ss_iconst (v := nI 0) dX7_at_48 (by decide) ?_
  refine ss_put (i := 0) dX7_at_49 fwX7_79 (by omega) (sh_r0 _ _) rfl rfl (Nat.le_of_ble_eq_true rfl) (sh_r0 _ _) ?_
  refine ss_aload_n dX7_at_52 0 rfl ?_
  refine ss_get (i := 87 + 2 * s) dX7_at_53 flX7_100 (by omega) (sh_s0 hs _ _) rfl ?_
  refine ss_iload_n dX7_at_56 3 rfl ?_
  refine ss_lald (i := 88 + 2 * s) dX7_at_57 (by omega) (sh_s1 hs) (by omega) (by decide) ?_
  exact ss_lret dX7_at_58 rfl (hQ)
set_option maxHeartbeats 4000000 in
set_option maxRecDepth 100000 in
theorem c_worth_o {c : cx} {d : Nat} {X : nX} {Y : nY} {k : Int32} (hk : ix k 5 = false) : sc c mX7_worth (d + 3) [.ref (c_ad c 0), .int k] (X) (Y) (some (.int (-1002))) (X) (Y) := by
  intro Q hQ
  show ss c mX7_worth (d + 3) Q 0 [(0, .ref (c_ad c 0)), (1, .int k)] [] (X) (Y)
  refine ss_iload_n dX7_worth_0 1 rfl ?_
  refine ss_i2l dX7_worth_1 ?_
  refine ss_lconst (v := 0) dX7_worth_2 (by decide) ?_
  refine ss_ldc2 dX7_worth_3 kcX7_108 ?_
  refine ss_callS (As := [_, _, _]) dX7_worth_6 vlX7_53 clX7_isWithin rfl rfl (Nat.le_of_ble_eq_true rfl) (Nat.le_of_ble_eq_true rfl) (q_isWithin) ?_
  refine sy_if_ne 16 dX7_worth_9 (by decide) (fun c9 => by first | exact kd_tf (by rw [wi_ix (n := 5) rfl]; exact hk) c9 | exact kd_ft (by rw [wi_ix (n := 5) rfl]; exact hk) c9 | exact absurd (by rw [wi_ix (n := 5) rfl]; exact hk) c9 | exact absurd c9 (by rw [wi_ix (n := 5) rfl]; exact hk)) (fun c9 => ?_)
  refine ss_sipush (v := -1002) dX7_worth_12 (by decide) ?_
  exact ss_iret dX7_worth_15 rfl rfl (hQ)
set_option maxHeartbeats 4000000 in
set_option maxRecDepth 100000 in
theorem c_worth_f {c : cx} {d : Nat} {X : nX} {Y : nY} {k : Int32} (hk : ix k 5 = true) (h7 : X 0 7 = nI 12) : sc c mX7_worth (d + 3) [.ref (c_ad c 0), .int k] (X) (Y) (some (.int (-1004))) (X) (Y) := by
  intro Q hQ
  show ss c mX7_worth (d + 3) Q 0 [(0, .ref (c_ad c 0)), (1, .int k)] [] (X) (Y)
  refine ss_iload_n dX7_worth_0 1 rfl ?_
  refine ss_i2l dX7_worth_1 ?_
  refine ss_lconst (v := 0) dX7_worth_2 (by decide) ?_
  refine ss_ldc2 dX7_worth_3 kcX7_108 ?_
  refine ss_callS (As := [_, _, _]) dX7_worth_6 vlX7_53 clX7_isWithin rfl rfl (Nat.le_of_ble_eq_true rfl) (Nat.le_of_ble_eq_true rfl) (q_isWithin) ?_
  refine sy_if_ne 16 dX7_worth_9 (by decide) (fun c9 => ?_) (fun c9 => by first | exact kd_tf (by rw [wi_ix (n := 5) rfl]; exact hk) c9 | exact kd_ft (by rw [wi_ix (n := 5) rfl]; exact hk) c9 | exact absurd (by rw [wi_ix (n := 5) rfl]; exact hk) c9 | exact absurd c9 (by rw [wi_ix (n := 5) rfl]; exact hk))
  refine ss_aload_n dX7_worth_16 0 rfl ?_
  refine ss_get (i := 0) dX7_worth_17 flX7_57 (by omega) (sh_r0 _ _) rfl ?_
  rw [h7]
  refine ss_bipush (v := nI 12) dX7_worth_20 (by decide) ?_
  refine sz_icmp_lt 29 dX7_worth_22 (by decide) (by omega) (by omega) (fun c22 => by omega) (fun c22 => ?_)
  refine ss_sipush (v := -1004) dX7_worth_25 (by decide) ?_
  exact ss_iret dX7_worth_28 rfl rfl (hQ)
set_option maxHeartbeats 4000000 in
set_option maxRecDepth 100000 in
theorem c_worth_k {c : cx} {d : Nat} {X : nX} {Y : nY} {n : Nat} (hn : n ≤ 10) (h6 : X 0 6 = nI n) {j : Nat} (hj : j < 12) (h7 : X 0 7 = nI j) {k : Int32} (hk : ix k 5 = true) : sc c mX7_worth (d + 3) [.ref (c_ad c 0), .int k] (X) (Y) (some (.int (nI j))) (up2 (x_begin X j k n) 0 7 (nI (j + 1))) (y_begin Y j n) := by
  intro Q hQ
  show ss c mX7_worth (d + 3) Q 0 [(0, .ref (c_ad c 0)), (1, .int k)] [] (X) (Y)
  refine ss_iload_n dX7_worth_0 1 rfl ?_
  refine ss_i2l dX7_worth_1 ?_
  refine ss_lconst (v := 0) dX7_worth_2 (by decide) ?_
  refine ss_ldc2 dX7_worth_3 kcX7_108 ?_
  refine ss_callS (As := [_, _, _]) dX7_worth_6 vlX7_53 clX7_isWithin rfl rfl (Nat.le_of_ble_eq_true rfl) (Nat.le_of_ble_eq_true rfl) (q_isWithin) ?_
  refine sy_if_ne 16 dX7_worth_9 (by decide) (fun c9 => ?_) (fun c9 => by first | exact kd_tf (by rw [wi_ix (n := 5) rfl]; exact hk) c9 | exact kd_ft (by rw [wi_ix (n := 5) rfl]; exact hk) c9 | exact absurd (by rw [wi_ix (n := 5) rfl]; exact hk) c9 | exact absurd c9 (by rw [wi_ix (n := 5) rfl]; exact hk))
  refine ss_aload_n dX7_worth_16 0 rfl ?_
  refine ss_get (i := 0) dX7_worth_17 flX7_57 (by omega) (sh_r0 _ _) rfl ?_
  rw [h7]
  refine ss_bipush (v := nI 12) dX7_worth_20 (by decide) ?_
  refine sz_icmp_lt 29 dX7_worth_22 (by decide) (by omega) (by omega) (fun c22 => ?_) (fun c22 => by omega)
  refine ss_aload_n dX7_worth_29 0 rfl ?_
  refine ss_iload_n dX7_worth_30 1 rfl ?_
  refine ss_callV (As := [_]) (i := 0) dX7_worth_31 vlX7_110 clX7_beginWorth rfl rfl (by omega) (sh_r0 _ _) rfl (Nat.le_of_ble_eq_true rfl) (Nat.le_of_ble_eq_true rfl) (q_beginWorth hn h6 hj h7) ?_
  exact ss_iret dX7_worth_34 rfl rfl (hQ)
set_option maxHeartbeats 4000000 in
set_option maxRecDepth 100000 in
theorem c_sum_f {c : cx} {d : Nat} {X : nX} {Y : nY} (h7 : X 0 7 = nI 12) : sc c mX7_sum (d + 3) [.ref (c_ad c 0)] (X) (Y) (some (.int (-1004))) (X) (Y) := by
  intro Q hQ
  show ss c mX7_sum (d + 3) Q 0 [(0, .ref (c_ad c 0))] [] (X) (Y)
  refine ss_aload_n dX7_sum_0 0 rfl ?_
  refine ss_get (i := 0) dX7_sum_1 flX7_57 (by omega) (sh_r0 _ _) rfl ?_
  rw [h7]
  refine ss_bipush (v := nI 12) dX7_sum_4 (by decide) ?_
  refine sz_icmp_lt 13 dX7_sum_6 (by decide) (by omega) (by omega) (fun c6 => by omega) (fun c6 => ?_)
  refine ss_sipush (v := -1004) dX7_sum_9 (by decide) ?_
  exact ss_iret dX7_sum_12 rfl rfl (hQ)
set_option maxHeartbeats 4000000 in
set_option maxRecDepth 100000 in
theorem c_sum_k {c : cx} {d : Nat} {X : nX} {Y : nY} {n : Nat} (hn : n ≤ 10) (h6 : X 0 6 = nI n) {j : Nat} (hj : j < 12) (h7 : X 0 7 = nI j) : sc c mX7_sum (d + 3) [.ref (c_ad c 0)] (X) (Y) (some (.int (nI j))) (up2 (x_begin X j (nI 5) n) 0 7 (nI (j + 1))) (y_begin Y j n) := by
  intro Q hQ
  show ss c mX7_sum (d + 3) Q 0 [(0, .ref (c_ad c 0))] [] (X) (Y)
  refine ss_aload_n dX7_sum_0 0 rfl ?_
  refine ss_get (i := 0) dX7_sum_1 flX7_57 (by omega) (sh_r0 _ _) rfl ?_
  rw [h7]
  refine ss_bipush (v := nI 12) dX7_sum_4 (by decide) ?_
  refine sz_icmp_lt 13 dX7_sum_6 (by decide) (by omega) (by omega) (fun c6 => ?_) (fun c6 => by omega)
  refine ss_aload_n dX7_sum_13 0 rfl ?_
  refine ss_iconst (v := nI 5) dX7_sum_14 (by decide) ?_
  refine ss_callV (As := [_]) (i := 0) dX7_sum_15 vlX7_110 clX7_beginWorth rfl rfl (by omega) (sh_r0 _ _) rfl (Nat.le_of_ble_eq_true rfl) (Nat.le_of_ble_eq_true rfl) (q_beginWorth hn h6 hj h7) ?_
  exact ss_iret dX7_sum_18 rfl rfl (hQ)
set_option maxHeartbeats 4000000 in
set_option maxRecDepth 100000 in
theorem c_part_u {c : cx} {d : Nat} {X : nX} {Y : nY} {n : Nat} (hn : n ≤ 10) (h6 : X 0 6 = nI n) {m : Nat} (hm : m ≤ 12) (h7 : X 0 7 = nI m) {w s : Int32} (hu : ix w m = false ∨ ix s (2 ^ n) = false) : sc c mX7_part (d + 4) [.ref (c_ad c 0), .int w, .int s] (X) (Y) (some (.int (-1001))) (X) (Y) := by
  intro Q hQ
  show ss c mX7_part (d + 4) Q 0 [(0, .ref (c_ad c 0)), (1, .int w), (2, .int s)] [] (X) (Y)
  refine ss_aload_n dX7_part_0 0 rfl ?_
  refine ss_iload_n dX7_part_1 1 rfl ?_
  refine ss_callV (As := [_]) (i := 0) dX7_part_2 vlX7_113 clX7_isWorth rfl rfl (by omega) (sh_r0 _ _) rfl (Nat.le_of_ble_eq_true rfl) (Nat.le_of_ble_eq_true rfl) (q_isWorth hm h7) ?_
  refine sy_if_eq 16 dX7_part_5 (by decide) (fun c5 => ?_) (fun c5 => ?_)
  · skip
    refine ss_sipush (v := -1001) dX7_part_16 (by decide) ?_
    exact ss_iret dX7_part_19 rfl rfl (hQ)
  · skip
    refine ss_aload_n dX7_part_8 0 rfl ?_
    refine ss_iload_n dX7_part_9 2 rfl ?_
    refine ss_callV (As := [_]) (i := 0) dX7_part_10 vlX7_116 clX7_isSet rfl rfl (by omega) (sh_r0 _ _) rfl (Nat.le_of_ble_eq_true rfl) (Nat.le_of_ble_eq_true rfl) (q_isSet hn h6) ?_
    refine sy_if_ne 20 dX7_part_13 (by decide) (fun c13 => by rcases hu with h8 | h8; exact kd_tf c5 h8; exact kd_tf c13 h8) (fun c13 => ?_)
    refine ss_sipush (v := -1001) dX7_part_16 (by decide) ?_
    exact ss_iret dX7_part_19 rfl rfl (hQ)
set_option maxHeartbeats 4000000 in
set_option maxRecDepth 100000 in
theorem c_part_f {c : cx} {d : Nat} {X : nX} {Y : nY} {n : Nat} (hn : n ≤ 10) (h6 : X 0 6 = nI n) (h7 : X 0 7 = nI 12) {j : Nat} (hjm : j < 12) {s : Nat} (hs : s < 2 ^ n) : sc c mX7_part (d + 4) [.ref (c_ad c 0), .int (nI j), .int (nI s)] (X) (Y) (some (.int (-1004))) (X) (Y) := by
  intro Q hQ
  show ss c mX7_part (d + 4) Q 0 [(0, .ref (c_ad c 0)), (1, .int (nI j)), (2, .int (nI s))] [] (X) (Y)
  have hwj : ix (nI j) 12 = true := ix_of hjm (by decide)
  have hs9 : ix (nI s) (2 ^ n) = true := ix_of hs (by have := p2_le hn; omega)
  have hs8 := ix_2p hs hn
  refine ss_aload_n dX7_part_0 0 rfl ?_
  refine ss_iload_n dX7_part_1 1 rfl ?_
  refine ss_callV (As := [_]) (i := 0) dX7_part_2 vlX7_113 clX7_isWorth rfl rfl (by omega) (sh_r0 _ _) rfl (Nat.le_of_ble_eq_true rfl) (Nat.le_of_ble_eq_true rfl) (q_isWorth (Nat.le_refl 12) h7) ?_
  refine sy_if_eq 16 dX7_part_5 (by decide) (fun c5 => by first | exact kd_tf (hwj) c5 | exact kd_ft (hwj) c5 | exact absurd (hwj) c5 | exact absurd c5 (hwj)) (fun c5 => ?_)
  refine ss_aload_n dX7_part_8 0 rfl ?_
  refine ss_iload_n dX7_part_9 2 rfl ?_
  refine ss_callV (As := [_]) (i := 0) dX7_part_10 vlX7_116 clX7_isSet rfl rfl (by omega) (sh_r0 _ _) rfl (Nat.le_of_ble_eq_true rfl) (Nat.le_of_ble_eq_true rfl) (q_isSet hn h6) ?_
  refine sy_if_ne 20 dX7_part_13 (by decide) (fun c13 => ?_) (fun c13 => by first | exact kd_tf (hs9) c13 | exact kd_ft (hs9) c13 | exact absurd (hs9) c13 | exact absurd c13 (hs9))
  refine ss_aload_n dX7_part_20 0 rfl ?_
  refine ss_get (i := 0) dX7_part_21 flX7_57 (by omega) (sh_r0 _ _) rfl ?_
  rw [h7]
  refine ss_bipush (v := nI 12) dX7_part_24 (by decide) ?_
  refine sz_icmp_lt 33 dX7_part_26 (by decide) (by omega) (by omega) (fun c26 => by omega) (fun c26 => ?_)
  refine ss_sipush (v := -1004) dX7_part_29 (by decide) ?_
  exact ss_iret dX7_part_32 rfl rfl (hQ)
set_option maxHeartbeats 4000000 in
set_option maxRecDepth 100000 in
theorem c_beyond_u {c : cx} {d : Nat} {X : nX} {Y : nY} {n : Nat} (hn : n ≤ 10) (h6 : X 0 6 = nI n) {m : Nat} (hm : m ≤ 12) (h7 : X 0 7 = nI m) {w s : Int32} (hu : ix w m = false ∨ ix s (2 ^ n) = false) : sc c mX7_beyond (d + 4) [.ref (c_ad c 0), .int w, .int s] (X) (Y) (some (.int (-1001))) (X) (Y) := by
  intro Q hQ
  show ss c mX7_beyond (d + 4) Q 0 [(0, .ref (c_ad c 0)), (1, .int w), (2, .int s)] [] (X) (Y)
  refine ss_aload_n dX7_beyond_0 0 rfl ?_
  refine ss_iload_n dX7_beyond_1 1 rfl ?_
  refine ss_callV (As := [_]) (i := 0) dX7_beyond_2 vlX7_113 clX7_isWorth rfl rfl (by omega) (sh_r0 _ _) rfl (Nat.le_of_ble_eq_true rfl) (Nat.le_of_ble_eq_true rfl) (q_isWorth hm h7) ?_
  refine sy_if_eq 16 dX7_beyond_5 (by decide) (fun c5 => ?_) (fun c5 => ?_)
  · skip
    refine ss_sipush (v := -1001) dX7_beyond_16 (by decide) ?_
    exact ss_iret dX7_beyond_19 rfl rfl (hQ)
  · skip
    refine ss_aload_n dX7_beyond_8 0 rfl ?_
    refine ss_iload_n dX7_beyond_9 2 rfl ?_
    refine ss_callV (As := [_]) (i := 0) dX7_beyond_10 vlX7_116 clX7_isSet rfl rfl (by omega) (sh_r0 _ _) rfl (Nat.le_of_ble_eq_true rfl) (Nat.le_of_ble_eq_true rfl) (q_isSet hn h6) ?_
    refine sy_if_ne 20 dX7_beyond_13 (by decide) (fun c13 => by rcases hu with h8 | h8; exact kd_tf c5 h8; exact kd_tf c13 h8) (fun c13 => ?_)
    refine ss_sipush (v := -1001) dX7_beyond_16 (by decide) ?_
    exact ss_iret dX7_beyond_19 rfl rfl (hQ)
set_option maxHeartbeats 4000000 in
set_option maxRecDepth 100000 in
theorem c_beyond_f {c : cx} {d : Nat} {X : nX} {Y : nY} {n : Nat} (hn : n ≤ 10) (h6 : X 0 6 = nI n) (h7 : X 0 7 = nI 12) {j : Nat} (hjm : j < 12) {s : Nat} (hs : s < 2 ^ n) : sc c mX7_beyond (d + 4) [.ref (c_ad c 0), .int (nI j), .int (nI s)] (X) (Y) (some (.int (-1004))) (X) (Y) := by
  intro Q hQ
  show ss c mX7_beyond (d + 4) Q 0 [(0, .ref (c_ad c 0)), (1, .int (nI j)), (2, .int (nI s))] [] (X) (Y)
  have hwj : ix (nI j) 12 = true := ix_of hjm (by decide)
  have hs9 : ix (nI s) (2 ^ n) = true := ix_of hs (by have := p2_le hn; omega)
  have hs8 := ix_2p hs hn
  refine ss_aload_n dX7_beyond_0 0 rfl ?_
  refine ss_iload_n dX7_beyond_1 1 rfl ?_
  refine ss_callV (As := [_]) (i := 0) dX7_beyond_2 vlX7_113 clX7_isWorth rfl rfl (by omega) (sh_r0 _ _) rfl (Nat.le_of_ble_eq_true rfl) (Nat.le_of_ble_eq_true rfl) (q_isWorth (Nat.le_refl 12) h7) ?_
  refine sy_if_eq 16 dX7_beyond_5 (by decide) (fun c5 => by first | exact kd_tf (hwj) c5 | exact kd_ft (hwj) c5 | exact absurd (hwj) c5 | exact absurd c5 (hwj)) (fun c5 => ?_)
  refine ss_aload_n dX7_beyond_8 0 rfl ?_
  refine ss_iload_n dX7_beyond_9 2 rfl ?_
  refine ss_callV (As := [_]) (i := 0) dX7_beyond_10 vlX7_116 clX7_isSet rfl rfl (by omega) (sh_r0 _ _) rfl (Nat.le_of_ble_eq_true rfl) (Nat.le_of_ble_eq_true rfl) (q_isSet hn h6) ?_
  refine sy_if_ne 20 dX7_beyond_13 (by decide) (fun c13 => ?_) (fun c13 => by first | exact kd_tf (hs9) c13 | exact kd_ft (hs9) c13 | exact absurd (hs9) c13 | exact absurd c13 (hs9))
  refine ss_aload_n dX7_beyond_20 0 rfl ?_
  refine ss_get (i := 0) dX7_beyond_21 flX7_57 (by omega) (sh_r0 _ _) rfl ?_
  rw [h7]
  refine ss_bipush (v := nI 12) dX7_beyond_24 (by decide) ?_
  refine sz_icmp_lt 33 dX7_beyond_26 (by decide) (by omega) (by omega) (fun c26 => by omega) (fun c26 => ?_)
  refine ss_sipush (v := -1004) dX7_beyond_29 (by decide) ?_
  exact ss_iret dX7_beyond_32 rfl rfl (hQ)
set_option maxHeartbeats 4000000 in
set_option maxRecDepth 100000 in
theorem c_part_k {c : cx} {d : Nat} {X : nX} {Y : nY} {n : Nat} (hn : n ≤ 10) (h6 : X 0 6 = nI n) {j p : Nat} (hj : j < 12) (h7 : X 0 7 = nI j) (hpj : p < j) {s : Nat} (hs : s < 2 ^ n) : sc c mX7_part (d + 4) [.ref (c_ad c 0), .int (nI p), .int (nI s)] (X) (Y) (some (.int (nI j))) (up2 (up2 (x_begin X j (nI 6) n) 0 7 (nI (j + 1))) (2 + 7 * p) 4 (nI 1)) (mpl (y_begin Y j n) (3 + 7 * j) 0 (2 ^ n) (f_part (y_begin Y j n) p s)) := by
  intro Q hQ
  show ss c mX7_part (d + 4) Q 0 [(0, .ref (c_ad c 0)), (1, .int (nI p)), (2, .int (nI s))] [] (X) (Y)
  have hp : p < 12 := by omega
  have hwj : ix (nI p) j = true := ix_of hpj (by omega)
  have hs9 : ix (nI s) (2 ^ n) = true := ix_of hs (by have := p2_le hn; omega)
  have hs8 := ix_2p hs hn
  refine ss_aload_n dX7_part_0 0 rfl ?_
  refine ss_iload_n dX7_part_1 1 rfl ?_
  refine ss_callV (As := [_]) (i := 0) dX7_part_2 vlX7_113 clX7_isWorth rfl rfl (by omega) (sh_r0 _ _) rfl (Nat.le_of_ble_eq_true rfl) (Nat.le_of_ble_eq_true rfl) (q_isWorth (Nat.le_of_lt hj) h7) ?_
  refine sy_if_eq 16 dX7_part_5 (by decide) (fun c5 => by first | exact kd_tf (hwj) c5 | exact kd_ft (hwj) c5 | exact absurd (hwj) c5 | exact absurd c5 (hwj)) (fun c5 => ?_)
  refine ss_aload_n dX7_part_8 0 rfl ?_
  refine ss_iload_n dX7_part_9 2 rfl ?_
  refine ss_callV (As := [_]) (i := 0) dX7_part_10 vlX7_116 clX7_isSet rfl rfl (by omega) (sh_r0 _ _) rfl (Nat.le_of_ble_eq_true rfl) (Nat.le_of_ble_eq_true rfl) (q_isSet hn h6) ?_
  refine sy_if_ne 20 dX7_part_13 (by decide) (fun c13 => ?_) (fun c13 => by first | exact kd_tf (hs9) c13 | exact kd_ft (hs9) c13 | exact absurd (hs9) c13 | exact absurd c13 (hs9))
  refine ss_aload_n dX7_part_20 0 rfl ?_
  refine ss_get (i := 0) dX7_part_21 flX7_57 (by omega) (sh_r0 _ _) rfl ?_
  rw [h7]
  refine ss_bipush (v := nI 12) dX7_part_24 (by decide) ?_
  refine sz_icmp_lt 33 dX7_part_26 (by decide) (by omega) (by omega) (fun c26 => ?_) (fun c26 => by omega)
  refine ss_aload_n dX7_part_33 0 rfl ?_
  refine ss_bipush (v := nI 6) dX7_part_34 (by decide) ?_
  refine ss_callV (As := [_]) (i := 0) dX7_part_36 vlX7_110 clX7_beginWorth rfl rfl (by omega) (sh_r0 _ _) rfl (Nat.le_of_ble_eq_true rfl) (Nat.le_of_ble_eq_true rfl) (q_beginWorth hn h6 hj h7) ?_
  refine ss_istore_n (lv' := [(3, _), (0, _), (1, _), (2, _)]) dX7_part_39 (by decide) rfl ?_
  refine ss_aload_n dX7_part_40 1 rfl ?_
  refine ss_get (i := 0) dX7_part_41 flX7_11 (by omega) (sh_r0 _ _) rfl ?_
  refine ss_iload_n dX7_part_44 0 rfl ?_
  refine ss_worth (w := j) dX7_part_45 hj ?_
  refine ss_aload_n dX7_part_46 1 rfl ?_
  refine ss_get (i := 0) dX7_part_47 flX7_11 (by omega) (sh_r0 _ _) rfl ?_
  refine ss_iload_n dX7_part_50 2 rfl ?_
  refine ss_worth (w := p) dX7_part_51 hp ?_
  refine ss_iload_n dX7_part_52 3 rfl ?_
  refine ss_callV (As := [_, _]) (i := 2 + 7 * j) dX7_part_53 vlX7_119 clX6_takePart rfl rfl (by omega) (sh_w0 hj _ _) rfl (Nat.le_of_ble_eq_true rfl) (Nat.le_of_ble_eq_true rfl) (q_takePart hj hp (by omega) (p2_le hn) (by rw [up2_at, if_neg (by omega)]; simp [x_begin, x_begin0, mpx_def, up2_at]) hs8) ?_
  refine ss_aload_n dX7_part_56 1 rfl ?_
  refine ss_get (i := 0) dX7_part_57 flX7_11 (by omega) (sh_r0 _ _) rfl ?_
  refine ss_iload_n dX7_part_60 2 rfl ?_
  refine ss_worth (w := p) dX7_part_61 hp ?_
  refine ss_iconst (v := nI 1) dX7_part_62 (by decide) ?_
  refine ss_put (i := 2 + 7 * p) dX7_part_63 fwX7_123 (by omega) (sh_w0 hp _ _) rfl rfl (Nat.le_of_ble_eq_true rfl) (sh_w0 hp _ _) ?_
  refine ss_iload_n dX7_part_66 0 rfl ?_
  exact ss_iret dX7_part_67 rfl rfl (hQ)
set_option maxHeartbeats 4000000 in
set_option maxRecDepth 100000 in
theorem c_beyond_l {c : cx} {d : Nat} {X : nX} {Y : nY} {n : Nat} (hn : n ≤ 10) (h6 : X 0 6 = nI n) {j p : Nat} (hj : j < 12) (h7 : X 0 7 = nI j) (hpj : p < j) {s : Nat} (hs : s < 2 ^ n) (hsp : X (2 + 7 * p) 7 = nI (2 ^ n)) (hl : lany (p_beyond Y p s) (2 ^ n) = true) : sc c mX7_beyond (d + 4) [.ref (c_ad c 0), .int (nI p), .int (nI s)] (X) (Y) (some (.int (-1005))) (X) (Y) := by
  intro Q hQ
  show ss c mX7_beyond (d + 4) Q 0 [(0, .ref (c_ad c 0)), (1, .int (nI p)), (2, .int (nI s))] [] (X) (Y)
  have hp : p < 12 := by omega
  have hwj : ix (nI p) j = true := ix_of hpj (by omega)
  have hs9 : ix (nI s) (2 ^ n) = true := ix_of hs (by have := p2_le hn; omega)
  have hs8 := ix_2p hs hn
  refine ss_aload_n dX7_beyond_0 0 rfl ?_
  refine ss_iload_n dX7_beyond_1 1 rfl ?_
  refine ss_callV (As := [_]) (i := 0) dX7_beyond_2 vlX7_113 clX7_isWorth rfl rfl (by omega) (sh_r0 _ _) rfl (Nat.le_of_ble_eq_true rfl) (Nat.le_of_ble_eq_true rfl) (q_isWorth (Nat.le_of_lt hj) h7) ?_
  refine sy_if_eq 16 dX7_beyond_5 (by decide) (fun c5 => by first | exact kd_tf (hwj) c5 | exact kd_ft (hwj) c5 | exact absurd (hwj) c5 | exact absurd c5 (hwj)) (fun c5 => ?_)
  refine ss_aload_n dX7_beyond_8 0 rfl ?_
  refine ss_iload_n dX7_beyond_9 2 rfl ?_
  refine ss_callV (As := [_]) (i := 0) dX7_beyond_10 vlX7_116 clX7_isSet rfl rfl (by omega) (sh_r0 _ _) rfl (Nat.le_of_ble_eq_true rfl) (Nat.le_of_ble_eq_true rfl) (q_isSet hn h6) ?_
  refine sy_if_ne 20 dX7_beyond_13 (by decide) (fun c13 => ?_) (fun c13 => by first | exact kd_tf (hs9) c13 | exact kd_ft (hs9) c13 | exact absurd (hs9) c13 | exact absurd c13 (hs9))
  refine ss_aload_n dX7_beyond_20 0 rfl ?_
  refine ss_get (i := 0) dX7_beyond_21 flX7_57 (by omega) (sh_r0 _ _) rfl ?_
  rw [h7]
  refine ss_bipush (v := nI 12) dX7_beyond_24 (by decide) ?_
  refine sz_icmp_lt 33 dX7_beyond_26 (by decide) (by omega) (by omega) (fun c26 => ?_) (fun c26 => by omega)
  refine ss_aload_n dX7_beyond_33 0 rfl ?_
  refine ss_get (i := 0) dX7_beyond_34 flX7_11 (by omega) (sh_r0 _ _) rfl ?_
  refine ss_iload_n dX7_beyond_37 1 rfl ?_
  refine ss_worth (w := p) dX7_beyond_38 hp ?_
  refine ss_iload_n dX7_beyond_39 2 rfl ?_
  refine ss_callV (As := [_]) (i := 2 + 7 * p) dX7_beyond_40 vlX7_126 clX6_isLargeBeyond rfl rfl (by omega) (sh_w0 hp _ _) rfl (Nat.le_of_ble_eq_true rfl) (Nat.le_of_ble_eq_true rfl) (q_isLargeBeyond hp (p2_le hn) hsp hs8) ?_
  refine sy_if_eq 50 dX7_beyond_43 (by decide) (fun c43 => by first | exact kd_tf (hl) c43 | exact kd_ft (hl) c43 | exact absurd (hl) c43 | exact absurd c43 (hl)) (fun c43 => ?_)
  refine ss_sipush (v := -1005) dX7_beyond_46 (by decide) ?_
  exact ss_iret dX7_beyond_49 rfl rfl (hQ)
set_option maxHeartbeats 4000000 in
set_option maxRecDepth 100000 in
theorem c_beyond_k {c : cx} {d : Nat} {X : nX} {Y : nY} {n : Nat} (hn : n ≤ 10) (h6 : X 0 6 = nI n) {j p : Nat} (hj : j < 12) (h7 : X 0 7 = nI j) (hpj : p < j) {s : Nat} (hs : s < 2 ^ n) (hsp : X (2 + 7 * p) 7 = nI (2 ^ n)) (hl : lany (p_beyond Y p s) (2 ^ n) = false) : sc c mX7_beyond (d + 4) [.ref (c_ad c 0), .int (nI p), .int (nI s)] (X) (Y) (some (.int (nI j))) (up2 (up2 (x_begin X j (nI 7) n) 0 7 (nI (j + 1))) (2 + 7 * p) 4 (nI 1)) (mpl (y_begin Y j n) (3 + 7 * j) 0 (2 ^ n) (f_beyond (y_begin Y j n) p s)) := by
  intro Q hQ
  show ss c mX7_beyond (d + 4) Q 0 [(0, .ref (c_ad c 0)), (1, .int (nI p)), (2, .int (nI s))] [] (X) (Y)
  have hp : p < 12 := by omega
  have hwj : ix (nI p) j = true := ix_of hpj (by omega)
  have hs9 : ix (nI s) (2 ^ n) = true := ix_of hs (by have := p2_le hn; omega)
  have hs8 := ix_2p hs hn
  refine ss_aload_n dX7_beyond_0 0 rfl ?_
  refine ss_iload_n dX7_beyond_1 1 rfl ?_
  refine ss_callV (As := [_]) (i := 0) dX7_beyond_2 vlX7_113 clX7_isWorth rfl rfl (by omega) (sh_r0 _ _) rfl (Nat.le_of_ble_eq_true rfl) (Nat.le_of_ble_eq_true rfl) (q_isWorth (Nat.le_of_lt hj) h7) ?_
  refine sy_if_eq 16 dX7_beyond_5 (by decide) (fun c5 => by first | exact kd_tf (hwj) c5 | exact kd_ft (hwj) c5 | exact absurd (hwj) c5 | exact absurd c5 (hwj)) (fun c5 => ?_)
  refine ss_aload_n dX7_beyond_8 0 rfl ?_
  refine ss_iload_n dX7_beyond_9 2 rfl ?_
  refine ss_callV (As := [_]) (i := 0) dX7_beyond_10 vlX7_116 clX7_isSet rfl rfl (by omega) (sh_r0 _ _) rfl (Nat.le_of_ble_eq_true rfl) (Nat.le_of_ble_eq_true rfl) (q_isSet hn h6) ?_
  refine sy_if_ne 20 dX7_beyond_13 (by decide) (fun c13 => ?_) (fun c13 => by first | exact kd_tf (hs9) c13 | exact kd_ft (hs9) c13 | exact absurd (hs9) c13 | exact absurd c13 (hs9))
  refine ss_aload_n dX7_beyond_20 0 rfl ?_
  refine ss_get (i := 0) dX7_beyond_21 flX7_57 (by omega) (sh_r0 _ _) rfl ?_
  rw [h7]
  refine ss_bipush (v := nI 12) dX7_beyond_24 (by decide) ?_
  refine sz_icmp_lt 33 dX7_beyond_26 (by decide) (by omega) (by omega) (fun c26 => ?_) (fun c26 => by omega)
  refine ss_aload_n dX7_beyond_33 0 rfl ?_
  refine ss_get (i := 0) dX7_beyond_34 flX7_11 (by omega) (sh_r0 _ _) rfl ?_
  refine ss_iload_n dX7_beyond_37 1 rfl ?_
  refine ss_worth (w := p) dX7_beyond_38 hp ?_
  refine ss_iload_n dX7_beyond_39 2 rfl ?_
  refine ss_callV (As := [_]) (i := 2 + 7 * p) dX7_beyond_40 vlX7_126 clX6_isLargeBeyond rfl rfl (by omega) (sh_w0 hp _ _) rfl (Nat.le_of_ble_eq_true rfl) (Nat.le_of_ble_eq_true rfl) (q_isLargeBeyond hp (p2_le hn) hsp hs8) ?_
  refine sy_if_eq 50 dX7_beyond_43 (by decide) (fun c43 => ?_) (fun c43 => by first | exact kd_tf (hl) c43 | exact kd_ft (hl) c43 | exact absurd (hl) c43 | exact absurd c43 (hl))
  refine ss_aload_n dX7_beyond_50 0 rfl ?_
  refine ss_bipush (v := nI 7) dX7_beyond_51 (by decide) ?_
  refine ss_callV (As := [_]) (i := 0) dX7_beyond_53 vlX7_110 clX7_beginWorth rfl rfl (by omega) (sh_r0 _ _) rfl (Nat.le_of_ble_eq_true rfl) (Nat.le_of_ble_eq_true rfl) (q_beginWorth hn h6 hj h7) ?_
  refine ss_istore_n (lv' := [(3, _), (0, _), (1, _), (2, _)]) dX7_beyond_56 (by decide) rfl ?_
  refine ss_aload_n dX7_beyond_57 1 rfl ?_
  refine ss_get (i := 0) dX7_beyond_58 flX7_11 (by omega) (sh_r0 _ _) rfl ?_
  refine ss_iload_n dX7_beyond_61 0 rfl ?_
  refine ss_worth (w := j) dX7_beyond_62 hj ?_
  refine ss_aload_n dX7_beyond_63 1 rfl ?_
  refine ss_get (i := 0) dX7_beyond_64 flX7_11 (by omega) (sh_r0 _ _) rfl ?_
  refine ss_iload_n dX7_beyond_67 2 rfl ?_
  refine ss_worth (w := p) dX7_beyond_68 hp ?_
  refine ss_iload_n dX7_beyond_69 3 rfl ?_
  refine ss_callV (As := [_, _]) (i := 2 + 7 * j) dX7_beyond_70 vlX7_129 clX6_takeBeyond rfl rfl (by omega) (sh_w0 hj _ _) rfl (Nat.le_of_ble_eq_true rfl) (Nat.le_of_ble_eq_true rfl) (q_takeBeyond hj hp (by omega) (p2_le hn) (by rw [up2_at, if_neg (by omega)]; simp [x_begin, x_begin0, mpx_def, up2_at]) hs8) ?_
  refine ss_aload_n dX7_beyond_73 1 rfl ?_
  refine ss_get (i := 0) dX7_beyond_74 flX7_11 (by omega) (sh_r0 _ _) rfl ?_
  refine ss_iload_n dX7_beyond_77 2 rfl ?_
  refine ss_worth (w := p) dX7_beyond_78 hp ?_
  refine ss_iconst (v := nI 1) dX7_beyond_79 (by decide) ?_
  refine ss_put (i := 2 + 7 * p) dX7_beyond_80 fwX7_123 (by omega) (sh_w0 hp _ _) rfl rfl (Nat.le_of_ble_eq_true rfl) (sh_w0 hp _ _) ?_
  refine ss_iload_n dX7_beyond_83 0 rfl ?_
  exact ss_iret dX7_beyond_84 rfl rfl (hQ)
