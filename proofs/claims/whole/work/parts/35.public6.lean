set_option maxHeartbeats 4000000 in
set_option maxRecDepth 100000 in
theorem c_why_o {c : cx} {d : Nat} {X : nX} {Y : nY} {m : Nat} (hm : m ≤ 12) (h7 : X 0 7 = nI m) {j : Nat} (hjm : j < m) {i : Int32} (hi : ix i 3 = false) : sc c mX7_why (d + 3) [.ref (c_ad c 0), .int (nI j), .int i] (X) (Y) (some (.int (-1002))) (X) (Y) := by
  intro Q hQ
  show ss c mX7_why (d + 3) Q 0 [(0, .ref (c_ad c 0)), (1, .int (nI j)), (2, .int i)] [] (X) (Y)
  have hj : j < 12 := by omega
  have hwj : ix (nI j) m = true := ix_of hjm (by omega)
  refine ss_aload_n dX7_why_0 0 rfl ?_
  refine ss_iload_n dX7_why_1 1 rfl ?_
  refine ss_callV (As := [_]) (i := 0) dX7_why_2 vlX7_113 clX7_isWorth rfl rfl (by omega) (sh_r0 _ _) rfl (Nat.le_of_ble_eq_true rfl) (Nat.le_of_ble_eq_true rfl) (q_isWorth hm h7) ?_
  refine sy_if_ne 12 dX7_why_5 (by decide) (fun c5 => ?_) (fun c5 => by first | exact kd_tf (hwj) c5 | exact kd_ft (hwj) c5 | exact absurd (hwj) c5 | exact absurd c5 (hwj))
  refine ss_iload_n dX7_why_12 2 rfl ?_
  refine ss_i2l dX7_why_13 ?_
  refine ss_lconst (v := 0) dX7_why_14 (by decide) ?_
  refine ss_ldc2 dX7_why_15 kcX7_225 ?_
  refine ss_callS (As := [_, _, _]) dX7_why_18 vlX7_53 clX7_isWithin rfl rfl (Nat.le_of_ble_eq_true rfl) (Nat.le_of_ble_eq_true rfl) (q_isWithin) ?_
  refine sy_if_ne 28 dX7_why_21 (by decide) (fun c21 => by first | exact kd_tf (by rw [wi_ix (n := 3) rfl]; exact hi) c21 | exact kd_ft (by rw [wi_ix (n := 3) rfl]; exact hi) c21 | exact absurd (by rw [wi_ix (n := 3) rfl]; exact hi) c21 | exact absurd c21 (by rw [wi_ix (n := 3) rfl]; exact hi)) (fun c21 => ?_)
  refine ss_sipush (v := -1002) dX7_why_24 (by decide) ?_
  exact ss_iret dX7_why_27 rfl rfl (hQ)
set_option maxHeartbeats 4000000 in
set_option maxRecDepth 100000 in
theorem c_all_o {c : cx} {d : Nat} {X : nX} {Y : nY} {m : Nat} (hm : m ≤ 12) (h7 : X 0 7 = nI m) {j : Nat} (hjm : j < m) {i : Int32} (hi : ix i 4 = false) : sc c mX7_all (d + 3) [.ref (c_ad c 0), .int (nI j), .int i] (X) (Y) (some (.int (-1002))) (X) (Y) := by
  intro Q hQ
  show ss c mX7_all (d + 3) Q 0 [(0, .ref (c_ad c 0)), (1, .int (nI j)), (2, .int i)] [] (X) (Y)
  have hj : j < 12 := by omega
  have hwj : ix (nI j) m = true := ix_of hjm (by omega)
  refine ss_aload_n dX7_all_0 0 rfl ?_
  refine ss_iload_n dX7_all_1 1 rfl ?_
  refine ss_callV (As := [_]) (i := 0) dX7_all_2 vlX7_113 clX7_isWorth rfl rfl (by omega) (sh_r0 _ _) rfl (Nat.le_of_ble_eq_true rfl) (Nat.le_of_ble_eq_true rfl) (q_isWorth hm h7) ?_
  refine sy_if_ne 12 dX7_all_5 (by decide) (fun c5 => ?_) (fun c5 => by first | exact kd_tf (hwj) c5 | exact kd_ft (hwj) c5 | exact absurd (hwj) c5 | exact absurd c5 (hwj))
  refine ss_iload_n dX7_all_12 2 rfl ?_
  refine ss_i2l dX7_all_13 ?_
  refine ss_lconst (v := 0) dX7_all_14 (by decide) ?_
  refine ss_ldc2 dX7_all_15 kcX7_240 ?_
  refine ss_callS (As := [_, _, _]) dX7_all_18 vlX7_53 clX7_isWithin rfl rfl (Nat.le_of_ble_eq_true rfl) (Nat.le_of_ble_eq_true rfl) (q_isWithin) ?_
  refine sy_if_ne 28 dX7_all_21 (by decide) (fun c21 => by first | exact kd_tf (by rw [wi_ix (n := 4) rfl]; exact hi) c21 | exact kd_ft (by rw [wi_ix (n := 4) rfl]; exact hi) c21 | exact absurd (by rw [wi_ix (n := 4) rfl]; exact hi) c21 | exact absurd c21 (by rw [wi_ix (n := 4) rfl]; exact hi)) (fun c21 => ?_)
  refine ss_sipush (v := -1002) dX7_all_24 (by decide) ?_
  exact ss_iret dX7_all_27 rfl rfl (hQ)
set_option maxHeartbeats 4000000 in
set_option maxRecDepth 100000 in
theorem c_why_n {c : cx} {d : Nat} {X : nX} {Y : nY} {n : Nat} (hn : n ≤ 10) (h6 : X 0 6 = nI n) {m : Nat} (hm : m ≤ 12) (h7 : X 0 7 = nI m) {j : Nat} (hjm : j < m) (hse : X (2 + 7 * j) 7 = nI (2 ^ n)) (hth : X (2 + 7 * j) 6 = nI n) {k : Nat} (hk : k < 3) (hb0 : (ffind (p_brk (Y (3 + 7 * j)) n) (2 ^ n)).isSome = false) : sc c mX7_why (d + 3) [.ref (c_ad c 0), .int (nI j), .int (nI k)] (X) (Y) (some (.int (-1))) (x_brk X (Y (3 + 7 * j)) n (2 ^ n)) (Y) := by
  intro Q hQ
  show ss c mX7_why (d + 3) Q 0 [(0, .ref (c_ad c 0)), (1, .int (nI j)), (2, .int (nI k))] [] (X) (Y)
  have hj : j < 12 := by omega
  have hwj : ix (nI j) m = true := ix_of hjm (by omega)
  refine ss_aload_n dX7_why_0 0 rfl ?_
  refine ss_iload_n dX7_why_1 1 rfl ?_
  refine ss_callV (As := [_]) (i := 0) dX7_why_2 vlX7_113 clX7_isWorth rfl rfl (by omega) (sh_r0 _ _) rfl (Nat.le_of_ble_eq_true rfl) (Nat.le_of_ble_eq_true rfl) (q_isWorth hm h7) ?_
  refine sy_if_ne 12 dX7_why_5 (by decide) (fun c5 => ?_) (fun c5 => by first | exact kd_tf (hwj) c5 | exact kd_ft (hwj) c5 | exact absurd (hwj) c5 | exact absurd c5 (hwj))
  refine ss_iload_n dX7_why_12 2 rfl ?_
  refine ss_i2l dX7_why_13 ?_
  refine ss_lconst (v := 0) dX7_why_14 (by decide) ?_
  refine ss_ldc2 dX7_why_15 kcX7_225 ?_
  refine ss_callS (As := [_, _, _]) dX7_why_18 vlX7_53 clX7_isWithin rfl rfl (Nat.le_of_ble_eq_true rfl) (Nat.le_of_ble_eq_true rfl) (q_isWithin) ?_
  refine sy_if_ne 28 dX7_why_21 (by decide) (fun c21 => ?_) (fun c21 => by first | exact kd_tf (by rw [wi_ix (n := 3) rfl]; exact ix_of hk (by decide)) c21 | exact kd_ft (by rw [wi_ix (n := 3) rfl]; exact ix_of hk (by decide)) c21 | exact absurd (by rw [wi_ix (n := 3) rfl]; exact ix_of hk (by decide)) c21 | exact absurd c21 (by rw [wi_ix (n := 3) rfl]; exact ix_of hk (by decide)))
  refine ss_aload_n dX7_why_28 0 rfl ?_
  refine ss_get (i := 0) dX7_why_29 flX7_26 (by omega) (sh_r0 _ _) rfl ?_
  refine ss_aload_n dX7_why_32 0 rfl ?_
  refine ss_get (i := 0) dX7_why_33 flX7_11 (by omega) (sh_r0 _ _) rfl ?_
  refine ss_iload_n dX7_why_36 1 rfl ?_
  refine ss_worth (w := j) dX7_why_37 hj ?_
  refine ss_callV (As := [_]) (i := 95) dX7_why_38 vlX7_221 clX0_findBreak rfl rfl (by omega) (sh_r95 _ _) rfl (Nat.le_of_ble_eq_true rfl) (Nat.le_of_ble_eq_true rfl) (q_findBreak hj (p2_le hn) hse hn hth) ?_
  refine sy_if_ne 46 dX7_why_41 (by decide) (fun c41 => by first | exact kd_tf (hb0) c41 | exact kd_ft (hb0) c41 | exact absurd (hb0) c41 | exact absurd c41 (hb0)) (fun c41 => ?_)
  refine ss_iconst (v := -1) dX7_why_44 (by decide) ?_
  exact ss_iret dX7_why_45 rfl rfl (hQ)
set_option maxHeartbeats 4000000 in
set_option maxRecDepth 100000 in
theorem c_why_0 {c : cx} {d : Nat} {X : nX} {Y : nY} {n : Nat} (hn : n ≤ 10) (h6 : X 0 6 = nI n) {m : Nat} (hm : m ≤ 12) (h7 : X 0 7 = nI m) {j : Nat} (hjm : j < m) (hse : X (2 + 7 * j) 7 = nI (2 ^ n)) (hth : X (2 + 7 * j) 6 = nI n) (hb0 : (ffind (p_brk (Y (3 + 7 * j)) n) (2 ^ n)).isSome = true) : sc c mX7_why (d + 3) [.ref (c_ad c 0), .int (nI j), .int (nI 0)] (X) (Y) (some (.int ((x_brk X (Y (3 + 7 * j)) n (2 ^ n)) 95 0))) (x_brk X (Y (3 + 7 * j)) n (2 ^ n)) (Y) := by
  intro Q hQ
  show ss c mX7_why (d + 3) Q 0 [(0, .ref (c_ad c 0)), (1, .int (nI j)), (2, .int (nI 0))] [] (X) (Y)
  have hj : j < 12 := by omega
  have hwj : ix (nI j) m = true := ix_of hjm (by omega)
  refine ss_aload_n dX7_why_0 0 rfl ?_
  refine ss_iload_n dX7_why_1 1 rfl ?_
  refine ss_callV (As := [_]) (i := 0) dX7_why_2 vlX7_113 clX7_isWorth rfl rfl (by omega) (sh_r0 _ _) rfl (Nat.le_of_ble_eq_true rfl) (Nat.le_of_ble_eq_true rfl) (q_isWorth hm h7) ?_
  refine sy_if_ne 12 dX7_why_5 (by decide) (fun c5 => ?_) (fun c5 => by first | exact kd_tf (hwj) c5 | exact kd_ft (hwj) c5 | exact absurd (hwj) c5 | exact absurd c5 (hwj))
  refine ss_iload_n dX7_why_12 2 rfl ?_
  refine ss_i2l dX7_why_13 ?_
  refine ss_lconst (v := 0) dX7_why_14 (by decide) ?_
  refine ss_ldc2 dX7_why_15 kcX7_225 ?_
  refine ss_callS (As := [_, _, _]) dX7_why_18 vlX7_53 clX7_isWithin rfl rfl (Nat.le_of_ble_eq_true rfl) (Nat.le_of_ble_eq_true rfl) (q_isWithin) ?_
  refine sy_if_ne 28 dX7_why_21 (by decide) (fun c21 => ?_) (fun c21 => by first | exact kd_tf (by rw [wi_ix (n := 3) rfl]; exact ix_of (by decide) (by decide)) c21 | exact kd_ft (by rw [wi_ix (n := 3) rfl]; exact ix_of (by decide) (by decide)) c21 | exact absurd (by rw [wi_ix (n := 3) rfl]; exact ix_of (by decide) (by decide)) c21 | exact absurd c21 (by rw [wi_ix (n := 3) rfl]; exact ix_of (by decide) (by decide)))
  refine ss_aload_n dX7_why_28 0 rfl ?_
  refine ss_get (i := 0) dX7_why_29 flX7_26 (by omega) (sh_r0 _ _) rfl ?_
  refine ss_aload_n dX7_why_32 0 rfl ?_
  refine ss_get (i := 0) dX7_why_33 flX7_11 (by omega) (sh_r0 _ _) rfl ?_
  refine ss_iload_n dX7_why_36 1 rfl ?_
  refine ss_worth (w := j) dX7_why_37 hj ?_
  refine ss_callV (As := [_]) (i := 95) dX7_why_38 vlX7_221 clX0_findBreak rfl rfl (by omega) (sh_r95 _ _) rfl (Nat.le_of_ble_eq_true rfl) (Nat.le_of_ble_eq_true rfl) (q_findBreak hj (p2_le hn) hse hn hth) ?_
  refine sy_if_ne 46 dX7_why_41 (by decide) (fun c41 => ?_) (fun c41 => by first | exact kd_tf (hb0) c41 | exact kd_ft (hb0) c41 | exact absurd (hb0) c41 | exact absurd c41 (hb0))
  refine ss_iload_n dX7_why_46 2 rfl ?_
  refine ss_lookup (off := 25) 72 dX7_why_47 (by decide) (by decide) (by decide) ?_
  refine ss_aload_n dX7_why_72 0 rfl ?_
  refine ss_get (i := 0) dX7_why_73 flX7_26 (by omega) (sh_r0 _ _) rfl ?_
  refine ss_get (i := 95) dX7_why_76 flX7_227 (by omega) (sh_r95 _ _) rfl ?_
  exact ss_iret dX7_why_79 rfl rfl (hQ)
set_option maxHeartbeats 4000000 in
set_option maxRecDepth 100000 in
theorem c_why_1 {c : cx} {d : Nat} {X : nX} {Y : nY} {n : Nat} (hn : n ≤ 10) (h6 : X 0 6 = nI n) {m : Nat} (hm : m ≤ 12) (h7 : X 0 7 = nI m) {j : Nat} (hjm : j < m) (hse : X (2 + 7 * j) 7 = nI (2 ^ n)) (hth : X (2 + 7 * j) 6 = nI n) (hb0 : (ffind (p_brk (Y (3 + 7 * j)) n) (2 ^ n)).isSome = true) : sc c mX7_why (d + 3) [.ref (c_ad c 0), .int (nI j), .int (nI 1)] (X) (Y) (some (.int ((x_brk X (Y (3 + 7 * j)) n (2 ^ n)) 95 1))) (x_brk X (Y (3 + 7 * j)) n (2 ^ n)) (Y) := by
  intro Q hQ
  show ss c mX7_why (d + 3) Q 0 [(0, .ref (c_ad c 0)), (1, .int (nI j)), (2, .int (nI 1))] [] (X) (Y)
  have hj : j < 12 := by omega
  have hwj : ix (nI j) m = true := ix_of hjm (by omega)
  refine ss_aload_n dX7_why_0 0 rfl ?_
  refine ss_iload_n dX7_why_1 1 rfl ?_
  refine ss_callV (As := [_]) (i := 0) dX7_why_2 vlX7_113 clX7_isWorth rfl rfl (by omega) (sh_r0 _ _) rfl (Nat.le_of_ble_eq_true rfl) (Nat.le_of_ble_eq_true rfl) (q_isWorth hm h7) ?_
  refine sy_if_ne 12 dX7_why_5 (by decide) (fun c5 => ?_) (fun c5 => by first | exact kd_tf (hwj) c5 | exact kd_ft (hwj) c5 | exact absurd (hwj) c5 | exact absurd c5 (hwj))
  refine ss_iload_n dX7_why_12 2 rfl ?_
  refine ss_i2l dX7_why_13 ?_
  refine ss_lconst (v := 0) dX7_why_14 (by decide) ?_
  refine ss_ldc2 dX7_why_15 kcX7_225 ?_
  refine ss_callS (As := [_, _, _]) dX7_why_18 vlX7_53 clX7_isWithin rfl rfl (Nat.le_of_ble_eq_true rfl) (Nat.le_of_ble_eq_true rfl) (q_isWithin) ?_
  refine sy_if_ne 28 dX7_why_21 (by decide) (fun c21 => ?_) (fun c21 => by first | exact kd_tf (by rw [wi_ix (n := 3) rfl]; exact ix_of (by decide) (by decide)) c21 | exact kd_ft (by rw [wi_ix (n := 3) rfl]; exact ix_of (by decide) (by decide)) c21 | exact absurd (by rw [wi_ix (n := 3) rfl]; exact ix_of (by decide) (by decide)) c21 | exact absurd c21 (by rw [wi_ix (n := 3) rfl]; exact ix_of (by decide) (by decide)))
  refine ss_aload_n dX7_why_28 0 rfl ?_
  refine ss_get (i := 0) dX7_why_29 flX7_26 (by omega) (sh_r0 _ _) rfl ?_
  refine ss_aload_n dX7_why_32 0 rfl ?_
  refine ss_get (i := 0) dX7_why_33 flX7_11 (by omega) (sh_r0 _ _) rfl ?_
  refine ss_iload_n dX7_why_36 1 rfl ?_
  refine ss_worth (w := j) dX7_why_37 hj ?_
  refine ss_callV (As := [_]) (i := 95) dX7_why_38 vlX7_221 clX0_findBreak rfl rfl (by omega) (sh_r95 _ _) rfl (Nat.le_of_ble_eq_true rfl) (Nat.le_of_ble_eq_true rfl) (q_findBreak hj (p2_le hn) hse hn hth) ?_
  refine sy_if_ne 46 dX7_why_41 (by decide) (fun c41 => ?_) (fun c41 => by first | exact kd_tf (hb0) c41 | exact kd_ft (hb0) c41 | exact absurd (hb0) c41 | exact absurd c41 (hb0))
  refine ss_iload_n dX7_why_46 2 rfl ?_
  refine ss_lookup (off := 33) 80 dX7_why_47 (by decide) (by decide) (by decide) ?_
  refine ss_aload_n dX7_why_80 0 rfl ?_
  refine ss_get (i := 0) dX7_why_81 flX7_26 (by omega) (sh_r0 _ _) rfl ?_
  refine ss_get (i := 95) dX7_why_84 flX7_230 (by omega) (sh_r95 _ _) rfl ?_
  exact ss_iret dX7_why_87 rfl rfl (hQ)
set_option maxHeartbeats 4000000 in
set_option maxRecDepth 100000 in
theorem c_why_2 {c : cx} {d : Nat} {X : nX} {Y : nY} {n : Nat} (hn : n ≤ 10) (h6 : X 0 6 = nI n) {m : Nat} (hm : m ≤ 12) (h7 : X 0 7 = nI m) {j : Nat} (hjm : j < m) (hse : X (2 + 7 * j) 7 = nI (2 ^ n)) (hth : X (2 + 7 * j) 6 = nI n) (hb0 : (ffind (p_brk (Y (3 + 7 * j)) n) (2 ^ n)).isSome = true) : sc c mX7_why (d + 3) [.ref (c_ad c 0), .int (nI j), .int (nI 2)] (X) (Y) (some (.int ((x_brk X (Y (3 + 7 * j)) n (2 ^ n)) 95 2))) (x_brk X (Y (3 + 7 * j)) n (2 ^ n)) (Y) := by
  intro Q hQ
  show ss c mX7_why (d + 3) Q 0 [(0, .ref (c_ad c 0)), (1, .int (nI j)), (2, .int (nI 2))] [] (X) (Y)
  have hj : j < 12 := by omega
  have hwj : ix (nI j) m = true := ix_of hjm (by omega)
  refine ss_aload_n dX7_why_0 0 rfl ?_
  refine ss_iload_n dX7_why_1 1 rfl ?_
  refine ss_callV (As := [_]) (i := 0) dX7_why_2 vlX7_113 clX7_isWorth rfl rfl (by omega) (sh_r0 _ _) rfl (Nat.le_of_ble_eq_true rfl) (Nat.le_of_ble_eq_true rfl) (q_isWorth hm h7) ?_
  refine sy_if_ne 12 dX7_why_5 (by decide) (fun c5 => ?_) (fun c5 => by first | exact kd_tf (hwj) c5 | exact kd_ft (hwj) c5 | exact absurd (hwj) c5 | exact absurd c5 (hwj))
  refine ss_iload_n dX7_why_12 2 rfl ?_
  refine ss_i2l dX7_why_13 ?_
  refine ss_lconst (v := 0) dX7_why_14 (by decide) ?_
  refine ss_ldc2 dX7_why_15 kcX7_225 ?_
  refine ss_callS (As := [_, _, _]) dX7_why_18 vlX7_53 clX7_isWithin rfl rfl (Nat.le_of_ble_eq_true rfl) (Nat.le_of_ble_eq_true rfl) (q_isWithin) ?_
  refine sy_if_ne 28 dX7_why_21 (by decide) (fun c21 => ?_) (fun c21 => by first | exact kd_tf (by rw [wi_ix (n := 3) rfl]; exact ix_of (by decide) (by decide)) c21 | exact kd_ft (by rw [wi_ix (n := 3) rfl]; exact ix_of (by decide) (by decide)) c21 | exact absurd (by rw [wi_ix (n := 3) rfl]; exact ix_of (by decide) (by decide)) c21 | exact absurd c21 (by rw [wi_ix (n := 3) rfl]; exact ix_of (by decide) (by decide)))
  refine ss_aload_n dX7_why_28 0 rfl ?_
  refine ss_get (i := 0) dX7_why_29 flX7_26 (by omega) (sh_r0 _ _) rfl ?_
  refine ss_aload_n dX7_why_32 0 rfl ?_
  refine ss_get (i := 0) dX7_why_33 flX7_11 (by omega) (sh_r0 _ _) rfl ?_
  refine ss_iload_n dX7_why_36 1 rfl ?_
  refine ss_worth (w := j) dX7_why_37 hj ?_
  refine ss_callV (As := [_]) (i := 95) dX7_why_38 vlX7_221 clX0_findBreak rfl rfl (by omega) (sh_r95 _ _) rfl (Nat.le_of_ble_eq_true rfl) (Nat.le_of_ble_eq_true rfl) (q_findBreak hj (p2_le hn) hse hn hth) ?_
  refine sy_if_ne 46 dX7_why_41 (by decide) (fun c41 => ?_) (fun c41 => by first | exact kd_tf (hb0) c41 | exact kd_ft (hb0) c41 | exact absurd (hb0) c41 | exact absurd c41 (hb0))
  refine ss_iload_n dX7_why_46 2 rfl ?_
  refine ss_lookup (off := 41) 88 dX7_why_47 (by decide) (by decide) (by decide) ?_
  refine ss_aload_n dX7_why_88 0 rfl ?_
  refine ss_get (i := 0) dX7_why_89 flX7_26 (by omega) (sh_r0 _ _) rfl ?_
  refine ss_get (i := 95) dX7_why_92 flX7_233 (by omega) (sh_r95 _ _) rfl ?_
  exact ss_iret dX7_why_95 rfl rfl (hQ)
set_option maxHeartbeats 4000000 in
set_option maxRecDepth 100000 in
theorem c_all_0 {c : cx} {d : Nat} {X : nX} {Y : nY} {n : Nat} (hn : n ≤ 10) (h6 : X 0 6 = nI n) {m : Nat} (hm : m ≤ 12) (h7 : X 0 7 = nI m) {j : Nat} (hjm : j < m) (hse : X (2 + 7 * j) 7 = nI (2 ^ n)) : sc c mX7_all (d + 3) [.ref (c_ad c 0), .int (nI j), .int (nI 0)] (X) (Y) (some (.int (nI (lcn (p_low (Y (3 + 7 * j)) (2 ^ n)) (2 ^ n))))) (xls X (lcn (p_low (Y (3 + 7 * j)) (2 ^ n)) (2 ^ n)) (lal (p_low (Y (3 + 7 * j)) (2 ^ n)) (2 ^ n - 1) (2 ^ n)) (lso (p_low (Y (3 + 7 * j)) (2 ^ n)) (2 ^ n)) (ccm (p_low (Y (3 + 7 * j)) (2 ^ n)) (2 ^ n - 1) (2 ^ n))) (Y) := by
  intro Q hQ
  show ss c mX7_all (d + 3) Q 0 [(0, .ref (c_ad c 0)), (1, .int (nI j)), (2, .int (nI 0))] [] (X) (Y)
  have hj : j < 12 := by omega
  have hwj : ix (nI j) m = true := ix_of hjm (by omega)
  refine ss_aload_n dX7_all_0 0 rfl ?_
  refine ss_iload_n dX7_all_1 1 rfl ?_
  refine ss_callV (As := [_]) (i := 0) dX7_all_2 vlX7_113 clX7_isWorth rfl rfl (by omega) (sh_r0 _ _) rfl (Nat.le_of_ble_eq_true rfl) (Nat.le_of_ble_eq_true rfl) (q_isWorth hm h7) ?_
  refine sy_if_ne 12 dX7_all_5 (by decide) (fun c5 => ?_) (fun c5 => by first | exact kd_tf (hwj) c5 | exact kd_ft (hwj) c5 | exact absurd (hwj) c5 | exact absurd c5 (hwj))
  refine ss_iload_n dX7_all_12 2 rfl ?_
  refine ss_i2l dX7_all_13 ?_
  refine ss_lconst (v := 0) dX7_all_14 (by decide) ?_
  refine ss_ldc2 dX7_all_15 kcX7_240 ?_
  refine ss_callS (As := [_, _, _]) dX7_all_18 vlX7_53 clX7_isWithin rfl rfl (Nat.le_of_ble_eq_true rfl) (Nat.le_of_ble_eq_true rfl) (q_isWithin) ?_
  refine sy_if_ne 28 dX7_all_21 (by decide) (fun c21 => ?_) (fun c21 => by first | exact kd_tf (by rw [wi_ix (n := 4) rfl]; exact ix_of (by decide) (by decide)) c21 | exact kd_ft (by rw [wi_ix (n := 4) rfl]; exact ix_of (by decide) (by decide)) c21 | exact absurd (by rw [wi_ix (n := 4) rfl]; exact ix_of (by decide) (by decide)) c21 | exact absurd c21 (by rw [wi_ix (n := 4) rfl]; exact ix_of (by decide) (by decide)))
  refine ss_aload_n dX7_all_28 0 rfl ?_
  refine ss_get (i := 0) dX7_all_29 flX7_33 (by omega) (sh_r0 _ _) rfl ?_
  refine ss_aload_n dX7_all_32 0 rfl ?_
  refine ss_get (i := 0) dX7_all_33 flX7_11 (by omega) (sh_r0 _ _) rfl ?_
  refine ss_iload_n dX7_all_36 1 rfl ?_
  refine ss_worth (w := j) dX7_all_37 hj ?_
  refine ss_callV (As := [_]) (i := 96) dX7_all_38 vlX7_242 clX1_gather rfl rfl (by omega) (sh_r96 _ _) rfl (Nat.le_of_ble_eq_true rfl) (Nat.le_of_ble_eq_true rfl) (q_gatherL hj (p2_le hn) hse p2_1) ?_
  refine ss_iload_n dX7_all_41 2 rfl ?_
  refine ss_tableIn (off := 26) 68 dX7_all_42 (by decide) (by decide) (by decide) (by decide) ?_
  refine ss_aload_n dX7_all_68 0 rfl ?_
  refine ss_get (i := 0) dX7_all_69 flX7_33 (by omega) (sh_r0 _ _) rfl ?_
  refine ss_get (i := 96) dX7_all_72 flX7_246 (by omega) (sh_r96 _ _) rfl ?_
  rw [xls_at1]
  exact ss_iret dX7_all_75 rfl rfl (hQ)
set_option maxHeartbeats 4000000 in
set_option maxRecDepth 100000 in
theorem c_all_1 {c : cx} {d : Nat} {X : nX} {Y : nY} {n : Nat} (hn : n ≤ 10) (h6 : X 0 6 = nI n) {m : Nat} (hm : m ≤ 12) (h7 : X 0 7 = nI m) {j : Nat} (hjm : j < m) (hse : X (2 + 7 * j) 7 = nI (2 ^ n)) : sc c mX7_all (d + 3) [.ref (c_ad c 0), .int (nI j), .int (nI 1)] (X) (Y) (some (.int (nI (lal (p_low (Y (3 + 7 * j)) (2 ^ n)) (2 ^ n - 1) (2 ^ n))))) (xls X (lcn (p_low (Y (3 + 7 * j)) (2 ^ n)) (2 ^ n)) (lal (p_low (Y (3 + 7 * j)) (2 ^ n)) (2 ^ n - 1) (2 ^ n)) (lso (p_low (Y (3 + 7 * j)) (2 ^ n)) (2 ^ n)) (ccm (p_low (Y (3 + 7 * j)) (2 ^ n)) (2 ^ n - 1) (2 ^ n))) (Y) := by
  intro Q hQ
  show ss c mX7_all (d + 3) Q 0 [(0, .ref (c_ad c 0)), (1, .int (nI j)), (2, .int (nI 1))] [] (X) (Y)
  have hj : j < 12 := by omega
  have hwj : ix (nI j) m = true := ix_of hjm (by omega)
  refine ss_aload_n dX7_all_0 0 rfl ?_
  refine ss_iload_n dX7_all_1 1 rfl ?_
  refine ss_callV (As := [_]) (i := 0) dX7_all_2 vlX7_113 clX7_isWorth rfl rfl (by omega) (sh_r0 _ _) rfl (Nat.le_of_ble_eq_true rfl) (Nat.le_of_ble_eq_true rfl) (q_isWorth hm h7) ?_
  refine sy_if_ne 12 dX7_all_5 (by decide) (fun c5 => ?_) (fun c5 => by first | exact kd_tf (hwj) c5 | exact kd_ft (hwj) c5 | exact absurd (hwj) c5 | exact absurd c5 (hwj))
  refine ss_iload_n dX7_all_12 2 rfl ?_
  refine ss_i2l dX7_all_13 ?_
  refine ss_lconst (v := 0) dX7_all_14 (by decide) ?_
  refine ss_ldc2 dX7_all_15 kcX7_240 ?_
  refine ss_callS (As := [_, _, _]) dX7_all_18 vlX7_53 clX7_isWithin rfl rfl (Nat.le_of_ble_eq_true rfl) (Nat.le_of_ble_eq_true rfl) (q_isWithin) ?_
  refine sy_if_ne 28 dX7_all_21 (by decide) (fun c21 => ?_) (fun c21 => by first | exact kd_tf (by rw [wi_ix (n := 4) rfl]; exact ix_of (by decide) (by decide)) c21 | exact kd_ft (by rw [wi_ix (n := 4) rfl]; exact ix_of (by decide) (by decide)) c21 | exact absurd (by rw [wi_ix (n := 4) rfl]; exact ix_of (by decide) (by decide)) c21 | exact absurd c21 (by rw [wi_ix (n := 4) rfl]; exact ix_of (by decide) (by decide)))
  refine ss_aload_n dX7_all_28 0 rfl ?_
  refine ss_get (i := 0) dX7_all_29 flX7_33 (by omega) (sh_r0 _ _) rfl ?_
  refine ss_aload_n dX7_all_32 0 rfl ?_
  refine ss_get (i := 0) dX7_all_33 flX7_11 (by omega) (sh_r0 _ _) rfl ?_
  refine ss_iload_n dX7_all_36 1 rfl ?_
  refine ss_worth (w := j) dX7_all_37 hj ?_
  refine ss_callV (As := [_]) (i := 96) dX7_all_38 vlX7_242 clX1_gather rfl rfl (by omega) (sh_r96 _ _) rfl (Nat.le_of_ble_eq_true rfl) (Nat.le_of_ble_eq_true rfl) (q_gatherL hj (p2_le hn) hse p2_1) ?_
  refine ss_iload_n dX7_all_41 2 rfl ?_
  refine ss_tableIn (off := 34) 76 dX7_all_42 (by decide) (by decide) (by decide) (by decide) ?_
  refine ss_aload_n dX7_all_76 0 rfl ?_
  refine ss_get (i := 0) dX7_all_77 flX7_33 (by omega) (sh_r0 _ _) rfl ?_
  refine ss_get (i := 96) dX7_all_80 flX7_249 (by omega) (sh_r96 _ _) rfl ?_
  rw [xls_at2]
  exact ss_iret dX7_all_83 rfl rfl (hQ)
set_option maxHeartbeats 4000000 in
set_option maxRecDepth 100000 in
theorem c_all_2 {c : cx} {d : Nat} {X : nX} {Y : nY} {n : Nat} (hn : n ≤ 10) (h6 : X 0 6 = nI n) {m : Nat} (hm : m ≤ 12) (h7 : X 0 7 = nI m) {j : Nat} (hjm : j < m) (hse : X (2 + 7 * j) 7 = nI (2 ^ n)) : sc c mX7_all (d + 3) [.ref (c_ad c 0), .int (nI j), .int (nI 2)] (X) (Y) (some (.int (nI (lso (p_low (Y (3 + 7 * j)) (2 ^ n)) (2 ^ n))))) (xls X (lcn (p_low (Y (3 + 7 * j)) (2 ^ n)) (2 ^ n)) (lal (p_low (Y (3 + 7 * j)) (2 ^ n)) (2 ^ n - 1) (2 ^ n)) (lso (p_low (Y (3 + 7 * j)) (2 ^ n)) (2 ^ n)) (ccm (p_low (Y (3 + 7 * j)) (2 ^ n)) (2 ^ n - 1) (2 ^ n))) (Y) := by
  intro Q hQ
  show ss c mX7_all (d + 3) Q 0 [(0, .ref (c_ad c 0)), (1, .int (nI j)), (2, .int (nI 2))] [] (X) (Y)
  have hj : j < 12 := by omega
  have hwj : ix (nI j) m = true := ix_of hjm (by omega)
  refine ss_aload_n dX7_all_0 0 rfl ?_
  refine ss_iload_n dX7_all_1 1 rfl ?_
  refine ss_callV (As := [_]) (i := 0) dX7_all_2 vlX7_113 clX7_isWorth rfl rfl (by omega) (sh_r0 _ _) rfl (Nat.le_of_ble_eq_true rfl) (Nat.le_of_ble_eq_true rfl) (q_isWorth hm h7) ?_
  refine sy_if_ne 12 dX7_all_5 (by decide) (fun c5 => ?_) (fun c5 => by first | exact kd_tf (hwj) c5 | exact kd_ft (hwj) c5 | exact absurd (hwj) c5 | exact absurd c5 (hwj))
  refine ss_iload_n dX7_all_12 2 rfl ?_
  refine ss_i2l dX7_all_13 ?_
  refine ss_lconst (v := 0) dX7_all_14 (by decide) ?_
  refine ss_ldc2 dX7_all_15 kcX7_240 ?_
  refine ss_callS (As := [_, _, _]) dX7_all_18 vlX7_53 clX7_isWithin rfl rfl (Nat.le_of_ble_eq_true rfl) (Nat.le_of_ble_eq_true rfl) (q_isWithin) ?_
  refine sy_if_ne 28 dX7_all_21 (by decide) (fun c21 => ?_) (fun c21 => by first | exact kd_tf (by rw [wi_ix (n := 4) rfl]; exact ix_of (by decide) (by decide)) c21 | exact kd_ft (by rw [wi_ix (n := 4) rfl]; exact ix_of (by decide) (by decide)) c21 | exact absurd (by rw [wi_ix (n := 4) rfl]; exact ix_of (by decide) (by decide)) c21 | exact absurd c21 (by rw [wi_ix (n := 4) rfl]; exact ix_of (by decide) (by decide)))
  refine ss_aload_n dX7_all_28 0 rfl ?_
  refine ss_get (i := 0) dX7_all_29 flX7_33 (by omega) (sh_r0 _ _) rfl ?_
  refine ss_aload_n dX7_all_32 0 rfl ?_
  refine ss_get (i := 0) dX7_all_33 flX7_11 (by omega) (sh_r0 _ _) rfl ?_
  refine ss_iload_n dX7_all_36 1 rfl ?_
  refine ss_worth (w := j) dX7_all_37 hj ?_
  refine ss_callV (As := [_]) (i := 96) dX7_all_38 vlX7_242 clX1_gather rfl rfl (by omega) (sh_r96 _ _) rfl (Nat.le_of_ble_eq_true rfl) (Nat.le_of_ble_eq_true rfl) (q_gatherL hj (p2_le hn) hse p2_1) ?_
  refine ss_iload_n dX7_all_41 2 rfl ?_
  refine ss_tableIn (off := 42) 84 dX7_all_42 (by decide) (by decide) (by decide) (by decide) ?_
  refine ss_aload_n dX7_all_84 0 rfl ?_
  refine ss_get (i := 0) dX7_all_85 flX7_33 (by omega) (sh_r0 _ _) rfl ?_
  refine ss_get (i := 96) dX7_all_88 flX7_252 (by omega) (sh_r96 _ _) rfl ?_
  rw [xls_at3]
  exact ss_iret dX7_all_91 rfl rfl (hQ)
theorem cmx_le {C : Nat → Nat} {s i l : Nat} (h : ∀ t, C t ≤ l) : ∀ t, cmx C s i t ≤ l := by
  intro t
  unfold cmx
  split
  · exact Nat.le_trans Nat.and_le_left (h t)
  · exact h t
theorem ccm_le (P : Nat → Bool) (l i : Nat) : ∀ t, ccm P l i t ≤ l := by
  induction i with
  | zero => exact fun _ => Nat.le_refl _
  | succ i ih =>
    intro t
    unfold ccm
    split
    · exact cmx_le ih t
    · exact ih t
set_option maxHeartbeats 4000000 in
set_option maxRecDepth 100000 in
theorem c_all_3 {c : cx} {d : Nat} {X : nX} {Y : nY} {n : Nat} (hn : n ≤ 10) (h6 : X 0 6 = nI n) {m : Nat} (hm : m ≤ 12) (h7 : X 0 7 = nI m) {j : Nat} (hjm : j < m) (hse : X (2 + 7 * j) 7 = nI (2 ^ n)) : sc c mX7_all (d + 4) [.ref (c_ad c 0), .int (nI j), .int (nI 3)] (X) (Y) (some (.int (bI (decide (lcn (p_fam (lal (p_low (Y (3 + 7 * j)) (2 ^ n)) (2 ^ n - 1) (2 ^ n)) (lso (p_low (Y (3 + 7 * j)) (2 ^ n)) (2 ^ n)) (ccm (p_low (Y (3 + 7 * j)) (2 ^ n)) (2 ^ n - 1) (2 ^ n))) (2 ^ n) = lcn (p_low (Y (3 + 7 * j)) (2 ^ n)) (2 ^ n)))))) (xls X (lcn (p_low (Y (3 + 7 * j)) (2 ^ n)) (2 ^ n)) (lal (p_low (Y (3 + 7 * j)) (2 ^ n)) (2 ^ n - 1) (2 ^ n)) (lso (p_low (Y (3 + 7 * j)) (2 ^ n)) (2 ^ n)) (ccm (p_low (Y (3 + 7 * j)) (2 ^ n)) (2 ^ n - 1) (2 ^ n))) (Y) := by
  intro Q hQ
  show ss c mX7_all (d + 4) Q 0 [(0, .ref (c_ad c 0)), (1, .int (nI j)), (2, .int (nI 3))] [] (X) (Y)
  have hj : j < 12 := by omega
  have hwj : ix (nI j) m = true := ix_of hjm (by omega)
  refine ss_aload_n dX7_all_0 0 rfl ?_
  refine ss_iload_n dX7_all_1 1 rfl ?_
  refine ss_callV (As := [_]) (i := 0) dX7_all_2 vlX7_113 clX7_isWorth rfl rfl (by omega) (sh_r0 _ _) rfl (Nat.le_of_ble_eq_true rfl) (Nat.le_of_ble_eq_true rfl) (q_isWorth hm h7) ?_
  refine sy_if_ne 12 dX7_all_5 (by decide) (fun c5 => ?_) (fun c5 => by first | exact kd_tf (hwj) c5 | exact kd_ft (hwj) c5 | exact absurd (hwj) c5 | exact absurd c5 (hwj))
  refine ss_iload_n dX7_all_12 2 rfl ?_
  refine ss_i2l dX7_all_13 ?_
  refine ss_lconst (v := 0) dX7_all_14 (by decide) ?_
  refine ss_ldc2 dX7_all_15 kcX7_240 ?_
  refine ss_callS (As := [_, _, _]) dX7_all_18 vlX7_53 clX7_isWithin rfl rfl (Nat.le_of_ble_eq_true rfl) (Nat.le_of_ble_eq_true rfl) (q_isWithin) ?_
  refine sy_if_ne 28 dX7_all_21 (by decide) (fun c21 => ?_) (fun c21 => by first | exact kd_tf (by rw [wi_ix (n := 4) rfl]; exact ix_of (by decide) (by decide)) c21 | exact kd_ft (by rw [wi_ix (n := 4) rfl]; exact ix_of (by decide) (by decide)) c21 | exact absurd (by rw [wi_ix (n := 4) rfl]; exact ix_of (by decide) (by decide)) c21 | exact absurd c21 (by rw [wi_ix (n := 4) rfl]; exact ix_of (by decide) (by decide)))
  refine ss_aload_n dX7_all_28 0 rfl ?_
  refine ss_get (i := 0) dX7_all_29 flX7_33 (by omega) (sh_r0 _ _) rfl ?_
  refine ss_aload_n dX7_all_32 0 rfl ?_
  refine ss_get (i := 0) dX7_all_33 flX7_11 (by omega) (sh_r0 _ _) rfl ?_
  refine ss_iload_n dX7_all_36 1 rfl ?_
  refine ss_worth (w := j) dX7_all_37 hj ?_
  refine ss_callV (As := [_]) (i := 96) dX7_all_38 vlX7_242 clX1_gather rfl rfl (by omega) (sh_r96 _ _) rfl (Nat.le_of_ble_eq_true rfl) (Nat.le_of_ble_eq_true rfl) (q_gatherL hj (p2_le hn) hse p2_1) ?_
  refine ss_iload_n dX7_all_41 2 rfl ?_
  refine ss_tableOut 92 dX7_all_42 (by decide) (by decide) ?_
  refine ss_aload_n dX7_all_92 0 rfl ?_
  refine ss_get (i := 0) dX7_all_93 flX7_33 (by omega) (sh_r0 _ _) rfl ?_
  refine ss_aload_n dX7_all_96 0 rfl ?_
  refine ss_get (i := 0) dX7_all_97 flX7_11 (by omega) (sh_r0 _ _) rfl ?_
  refine ss_iload_n dX7_all_100 1 rfl ?_
  refine ss_worth (w := j) dX7_all_101 hj ?_
  refine ss_callV (As := [_]) (i := 96) dX7_all_102 vlX7_255 clX1_isClosed rfl rfl (by omega) (sh_r96 _ _) rfl (Nat.le_of_ble_eq_true rfl) (Nat.le_of_ble_eq_true rfl) (q_isClosed hj (p2_le hn) hse (fun t => by have := ccm_le (p_low (Y (3 + 7 * j)) (2 ^ n)) (2 ^ n - 1) (2 ^ n) t; have := p2_le hn; have := p2_1 (n := n); omega) (by have := lal_le (p_low (Y (3 + 7 * j)) (2 ^ n)) (2 ^ n - 1) (2 ^ n); have := p2_le hn; have := p2_1 (n := n); omega) (by have := lso_lt (p_low (Y (3 + 7 * j)) (2 ^ n)) (Nat.le_refl (2 ^ n)); have := p2_le hn; omega) (by have := lcn_le (p_low (Y (3 + 7 * j)) (2 ^ n)) (2 ^ n); have := p2_le hn; omega)) ?_
  refine sy_if_eq 112 dX7_all_105 (by decide) (fun c105 => ?_) (fun c105 => ?_)
  · skip
    refine ss_iconst (v := nI 0) dX7_all_112 (by decide) ?_
    exact ss_iret dX7_all_113 rfl rfl (cvi (by rw [c105]; rfl) hQ)
  · skip
    refine ss_iconst (v := nI 1) dX7_all_108 (by decide) ?_
    refine ss_goto 113 dX7_all_109 (by decide) ?_
    exact ss_iret dX7_all_113 rfl rfl (cvi (by rw [c105]; rfl) hQ)
set_option maxHeartbeats 4000000 in
set_option maxRecDepth 100000 in
theorem c_level_o {c : cx} {d : Nat} {X : nX} {Y : nY} {n : Nat} (hn : n ≤ 10) (h6 : X 0 6 = nI n) {m : Nat} (hm : m ≤ 12) (h7 : X 0 7 = nI m) {j : Nat} (hjm : j < m) {i : Int32} (hi : ix i (n + 1) = false) : sc c mX7_level (d + 3) [.ref (c_ad c 0), .int (nI j), .int i] (X) (Y) (some (.long (-1002))) (X) (Y) := by
  intro Q hQ
  show ss c mX7_level (d + 3) Q 0 [(0, .ref (c_ad c 0)), (1, .int (nI j)), (2, .int i)] [] (X) (Y)
  have hj : j < 12 := by omega
  have hwj : ix (nI j) m = true := ix_of hjm (by omega)
  refine ss_aload_n dX7_level_0 0 rfl ?_
  refine ss_iload_n dX7_level_1 1 rfl ?_
  refine ss_callV (As := [_]) (i := 0) dX7_level_2 vlX7_113 clX7_isWorth rfl rfl (by omega) (sh_r0 _ _) rfl (Nat.le_of_ble_eq_true rfl) (Nat.le_of_ble_eq_true rfl) (q_isWorth hm h7) ?_
  refine sy_if_ne 12 dX7_level_5 (by decide) (fun c5 => ?_) (fun c5 => by first | exact kd_tf (hwj) c5 | exact kd_ft (hwj) c5 | exact absurd (hwj) c5 | exact absurd c5 (hwj))
  refine ss_iload_n dX7_level_12 2 rfl ?_
  refine ss_i2l dX7_level_13 ?_
  refine ss_lconst (v := 0) dX7_level_14 (by decide) ?_
  refine ss_aload_n dX7_level_15 0 rfl ?_
  refine ss_get (i := 0) dX7_level_16 flX7_61 (by omega) (sh_r0 _ _) rfl ?_
  rw [h6]
  refine ss_i2l dX7_level_19 ?_
  refine ss_callS (As := [_, _, _]) dX7_level_20 vlX7_53 clX7_isWithin rfl rfl (Nat.le_of_ble_eq_true rfl) (Nat.le_of_ble_eq_true rfl) (q_isWithin) ?_
  refine sy_if_ne 30 dX7_level_23 (by decide) (fun c23 => by first | exact kd_tf (by rw [wi_ix (n := n + 1) (by rw [Int32.toInt_toInt64, nI_toInt (by omega)]; omega)]; exact hi) c23 | exact kd_ft (by rw [wi_ix (n := n + 1) (by rw [Int32.toInt_toInt64, nI_toInt (by omega)]; omega)]; exact hi) c23 | exact absurd (by rw [wi_ix (n := n + 1) (by rw [Int32.toInt_toInt64, nI_toInt (by omega)]; omega)]; exact hi) c23 | exact absurd c23 (by rw [wi_ix (n := n + 1) (by rw [Int32.toInt_toInt64, nI_toInt (by omega)]; omega)]; exact hi)) (fun c23 => ?_)
  refine ss_ldc2 dX7_level_26 kcX7_92 ?_
  exact ss_lret dX7_level_29 rfl (hQ)
set_option maxHeartbeats 4000000 in
set_option maxRecDepth 100000 in
theorem c_level_k {c : cx} {d : Nat} {X : nX} {Y : nY} {n : Nat} (hn : n ≤ 10) (h6 : X 0 6 = nI n) {m : Nat} (hm : m ≤ 12) (h7 : X 0 7 = nI m) {j : Nat} (hjm : j < m) (hse : X (2 + 7 * j) 7 = nI (2 ^ n)) (hth : X (2 + 7 * j) 6 = nI n) {k : Nat} (hk : k ≤ n) : sc c mX7_level (d + 3) [.ref (c_ad c 0), .int (nI j), .int (nI k)] (X) (Y) (some (.long (rlow (Y (3 + 7 * j)) (rl0 (Y 99) (Y (3 + 7 * j)) n) (2 ^ n) k))) (up2 X 98 2 (nI n)) (srw Y 99 (rlow (Y (3 + 7 * j)) (rl0 (Y 99) (Y (3 + 7 * j)) n) (2 ^ n))) := by
  intro Q hQ
  show ss c mX7_level (d + 3) Q 0 [(0, .ref (c_ad c 0)), (1, .int (nI j)), (2, .int (nI k))] [] (X) (Y)
  have hj : j < 12 := by omega
  have hwj : ix (nI j) m = true := ix_of hjm (by omega)
  refine ss_aload_n dX7_level_0 0 rfl ?_
  refine ss_iload_n dX7_level_1 1 rfl ?_
  refine ss_callV (As := [_]) (i := 0) dX7_level_2 vlX7_113 clX7_isWorth rfl rfl (by omega) (sh_r0 _ _) rfl (Nat.le_of_ble_eq_true rfl) (Nat.le_of_ble_eq_true rfl) (q_isWorth hm h7) ?_
  refine sy_if_ne 12 dX7_level_5 (by decide) (fun c5 => ?_) (fun c5 => by first | exact kd_tf (hwj) c5 | exact kd_ft (hwj) c5 | exact absurd (hwj) c5 | exact absurd c5 (hwj))
  refine ss_iload_n dX7_level_12 2 rfl ?_
  refine ss_i2l dX7_level_13 ?_
  refine ss_lconst (v := 0) dX7_level_14 (by decide) ?_
  refine ss_aload_n dX7_level_15 0 rfl ?_
  refine ss_get (i := 0) dX7_level_16 flX7_61 (by omega) (sh_r0 _ _) rfl ?_
  rw [h6]
  refine ss_i2l dX7_level_19 ?_
  refine ss_callS (As := [_, _, _]) dX7_level_20 vlX7_53 clX7_isWithin rfl rfl (Nat.le_of_ble_eq_true rfl) (Nat.le_of_ble_eq_true rfl) (q_isWithin) ?_
  refine sy_if_ne 30 dX7_level_23 (by decide) (fun c23 => ?_) (fun c23 => by first | exact kd_tf (by rw [wi_ix (n := n + 1) (by rw [Int32.toInt_toInt64, nI_toInt (by omega)]; omega)]; exact ix_of (by omega) (by omega)) c23 | exact kd_ft (by rw [wi_ix (n := n + 1) (by rw [Int32.toInt_toInt64, nI_toInt (by omega)]; omega)]; exact ix_of (by omega) (by omega)) c23 | exact absurd (by rw [wi_ix (n := n + 1) (by rw [Int32.toInt_toInt64, nI_toInt (by omega)]; omega)]; exact ix_of (by omega) (by omega)) c23 | exact absurd c23 (by rw [wi_ix (n := n + 1) (by rw [Int32.toInt_toInt64, nI_toInt (by omega)]; omega)]; exact ix_of (by omega) (by omega)))
  refine ss_aload_n dX7_level_30 0 rfl ?_
  refine ss_get (i := 0) dX7_level_31 flX7_40 (by omega) (sh_r0 _ _) rfl ?_
  refine ss_aload_n dX7_level_34 0 rfl ?_
  refine ss_get (i := 0) dX7_level_35 flX7_11 (by omega) (sh_r0 _ _) rfl ?_
  refine ss_iload_n dX7_level_38 1 rfl ?_
  refine ss_worth (w := j) dX7_level_39 hj ?_
  refine ss_callV (As := [_]) (i := 98) dX7_level_40 vlX7_261 clX2_gather rfl rfl (by omega) (sh_r98 _ _) rfl (Nat.le_of_ble_eq_true rfl) (Nat.le_of_ble_eq_true rfl) (q_gatherV hj (p2_le hn) hse hn hth) ?_
  refine ss_aload_n dX7_level_43 0 rfl ?_
  refine ss_get (i := 0) dX7_level_44 flX7_40 (by omega) (sh_r0 _ _) rfl ?_
  refine ss_get (i := 98) dX7_level_47 flX7_262 (by omega) (sh_r98 _ _) rfl ?_
  refine ss_iload_n dX7_level_50 2 rfl ?_
  refine ss_lald (i := 99) dX7_level_51 (by omega) (sh_r99) (by omega) (by decide) ?_
  rw [srw_at]
  exact ss_lret dX7_level_52 rfl (hQ)
set_option maxHeartbeats 4000000 in
set_option maxRecDepth 100000 in
theorem c_bends_k {c : cx} {d : Nat} {X : nX} {Y : nY} {n : Nat} (hn : n ≤ 10) (h6 : X 0 6 = nI n) {m : Nat} (hm : m ≤ 12) (h7 : X 0 7 = nI m) {j : Nat} (hjm : j < m) (hse : X (2 + 7 * j) 7 = nI (2 ^ n)) (hth : X (2 + 7 * j) 6 = nI n) : sc c mX7_bends (d + 3) [.ref (c_ad c 0), .int (nI j)] (X) (Y) (some (.int (nI (bcn (rlow (Y (3 + 7 * j)) (rl0 (Y 99) (Y (3 + 7 * j)) n) (2 ^ n)) n)))) (xtn (up2 X 98 2 (nI n)) (tno (rlow (Y (3 + 7 * j)) (rl0 (Y 99) (Y (3 + 7 * j)) n) (2 ^ n)) n) (bcn (rlow (Y (3 + 7 * j)) (rl0 (Y 99) (Y (3 + 7 * j)) n) (2 ^ n)) n)) (srw Y 99 (rlow (Y (3 + 7 * j)) (rl0 (Y 99) (Y (3 + 7 * j)) n) (2 ^ n))) := by
  intro Q hQ
  show ss c mX7_bends (d + 3) Q 0 [(0, .ref (c_ad c 0)), (1, .int (nI j))] [] (X) (Y)
  have hj : j < 12 := by omega
  have hwj : ix (nI j) m = true := ix_of hjm (by omega)
  refine ss_aload_n dX7_bends_0 0 rfl ?_
  refine ss_iload_n dX7_bends_1 1 rfl ?_
  refine ss_callV (As := [_]) (i := 0) dX7_bends_2 vlX7_113 clX7_isWorth rfl rfl (by omega) (sh_r0 _ _) rfl (Nat.le_of_ble_eq_true rfl) (Nat.le_of_ble_eq_true rfl) (q_isWorth hm h7) ?_
  refine sy_if_ne 12 dX7_bends_5 (by decide) (fun c5 => ?_) (fun c5 => by first | exact kd_tf (hwj) c5 | exact kd_ft (hwj) c5 | exact absurd (hwj) c5 | exact absurd c5 (hwj))
  refine ss_aload_n dX7_bends_12 0 rfl ?_
  refine ss_get (i := 0) dX7_bends_13 flX7_40 (by omega) (sh_r0 _ _) rfl ?_
  refine ss_aload_n dX7_bends_16 0 rfl ?_
  refine ss_get (i := 0) dX7_bends_17 flX7_11 (by omega) (sh_r0 _ _) rfl ?_
  refine ss_iload_n dX7_bends_20 1 rfl ?_
  refine ss_worth (w := j) dX7_bends_21 hj ?_
  refine ss_callV (As := [_]) (i := 98) dX7_bends_22 vlX7_261 clX2_gather rfl rfl (by omega) (sh_r98 _ _) rfl (Nat.le_of_ble_eq_true rfl) (Nat.le_of_ble_eq_true rfl) (q_gatherV hj (p2_le hn) hse hn hth) ?_
  refine ss_aload_n dX7_bends_25 0 rfl ?_
  refine ss_get (i := 0) dX7_bends_26 flX7_40 (by omega) (sh_r0 _ _) rfl ?_
  refine ss_callV (As := []) (i := 98) dX7_bends_29 vlX7_265 clX2_findTurns rfl rfl (by omega) (sh_r98 _ _) rfl (Nat.le_of_ble_eq_true rfl) (Nat.le_of_ble_eq_true rfl) (q_findTurns hn (by simp [up2_at])) ?_
  rw [srw_at]
  refine ss_aload_n dX7_bends_32 0 rfl ?_
  refine ss_get (i := 0) dX7_bends_33 flX7_40 (by omega) (sh_r0 _ _) rfl ?_
  refine ss_get (i := 98) dX7_bends_36 flX7_268 (by omega) (sh_r98 _ _) rfl ?_
  rw [xtn_b]
  exact ss_iret dX7_bends_39 rfl rfl (hQ)
theorem bcn_le (R : Nat → Int64) (n : Nat) : bcn R n ≤ n := by
  unfold bcn
  cases h : ffind (fun i => decide (n ≤ tno R n i)) (n + 1) with
  | none => exact Nat.zero_le _
  | some i => have := (ff_spec h).1; show i ≤ n; omega
theorem tno_lt {R : Nat → Int64} {n i : Nat} (h : i < bcn R n) : tno R n i < n := by
  unfold bcn at h
  cases h9 : ffind (fun i => decide (n ≤ tno R n i)) (n + 1) with
  | none => rw [h9] at h; exact absurd h (Nat.not_lt_zero _)
  | some k =>
    rw [h9] at h
    have := (ff_spec h9).2.2 i h
    simp at this
    exact this
theorem tno_mono {R : Nat → Int64} {n i : Nat} : tno R n i ≤ tno R n (i + 1) := by
  have := (nxt_in R (tno R n i) (n - (tno R n i + 1))).1
  show tno R n i ≤ nxt R (tno R n i) (n - (tno R n i + 1))
  omega
set_option maxHeartbeats 4000000 in
set_option maxRecDepth 100000 in
theorem c_bend_u2 {c : cx} {d : Nat} {X : nX} {Y : nY} {n : Nat} (hn : n ≤ 10) (h6 : X 0 6 = nI n) {m : Nat} (hm : m ≤ 12) (h7 : X 0 7 = nI m) {j : Nat} (hjm : j < m) (hse : X (2 + 7 * j) 7 = nI (2 ^ n)) (hth : X (2 + 7 * j) 6 = nI n) {i q : Int32} (hi : ix i (bcn (rlow (Y (3 + 7 * j)) (rl0 (Y 99) (Y (3 + 7 * j)) n) (2 ^ n)) n) = false) : sc c mX7_bend (d + 5) [.ref (c_ad c 0), .int (nI j), .int i, .int q] (X) (Y) (some (.long (-1001))) (xtn (up2 X 98 2 (nI n)) (tno (rlow (Y (3 + 7 * j)) (rl0 (Y 99) (Y (3 + 7 * j)) n) (2 ^ n)) n) (bcn (rlow (Y (3 + 7 * j)) (rl0 (Y 99) (Y (3 + 7 * j)) n) (2 ^ n)) n)) (srw Y 99 (rlow (Y (3 + 7 * j)) (rl0 (Y 99) (Y (3 + 7 * j)) n) (2 ^ n))) := by
  intro Q hQ
  show ss c mX7_bend (d + 5) Q 0 [(0, .ref (c_ad c 0)), (1, .int (nI j)), (2, .int i), (3, .int q)] [] (X) (Y)
  have hj : j < 12 := by omega
  have hwj : ix (nI j) m = true := ix_of hjm (by omega)
  refine ss_aload_n dX7_bend_0 0 rfl ?_
  refine ss_iload_n dX7_bend_1 1 rfl ?_
  refine ss_callV (As := [_]) (i := 0) dX7_bend_2 vlX7_113 clX7_isWorth rfl rfl (by omega) (sh_r0 _ _) rfl (Nat.le_of_ble_eq_true rfl) (Nat.le_of_ble_eq_true rfl) (q_isWorth hm h7) ?_
  refine sy_if_ne 12 dX7_bend_5 (by decide) (fun c5 => ?_) (fun c5 => by first | exact kd_tf (hwj) c5 | exact kd_ft (hwj) c5 | exact absurd (hwj) c5 | exact absurd c5 (hwj))
  refine ss_aload_n dX7_bend_12 0 rfl ?_
  refine ss_get (i := 0) dX7_bend_13 flX7_40 (by omega) (sh_r0 _ _) rfl ?_
  refine ss_aload_n dX7_bend_16 0 rfl ?_
  refine ss_get (i := 0) dX7_bend_17 flX7_11 (by omega) (sh_r0 _ _) rfl ?_
  refine ss_iload_n dX7_bend_20 1 rfl ?_
  refine ss_worth (w := j) dX7_bend_21 hj ?_
  refine ss_callV (As := [_]) (i := 98) dX7_bend_22 vlX7_261 clX2_gather rfl rfl (by omega) (sh_r98 _ _) rfl (Nat.le_of_ble_eq_true rfl) (Nat.le_of_ble_eq_true rfl) (q_gatherV hj (p2_le hn) hse hn hth) ?_
  refine ss_aload_n dX7_bend_25 0 rfl ?_
  refine ss_get (i := 0) dX7_bend_26 flX7_40 (by omega) (sh_r0 _ _) rfl ?_
  refine ss_callV (As := []) (i := 98) dX7_bend_29 vlX7_265 clX2_findTurns rfl rfl (by omega) (sh_r98 _ _) rfl (Nat.le_of_ble_eq_true rfl) (Nat.le_of_ble_eq_true rfl) (q_findTurns hn (by simp [up2_at])) ?_
  rw [srw_at]
  refine ss_iload_n dX7_bend_32 2 rfl ?_
  refine ss_i2l dX7_bend_33 ?_
  refine ss_lconst (v := 0) dX7_bend_34 (by decide) ?_
  refine ss_aload_n dX7_bend_35 0 rfl ?_
  refine ss_get (i := 0) dX7_bend_36 flX7_40 (by omega) (sh_r0 _ _) rfl ?_
  refine ss_get (i := 98) dX7_bend_39 flX7_268 (by omega) (sh_r98 _ _) rfl ?_
  rw [xtn_b]
  refine ss_iconst (v := nI 1) dX7_bend_42 (by decide) ?_
  refine ss_isub dX7_bend_43 ?_
  refine ss_i2l dX7_bend_44 ?_
  refine ss_callS (As := [_, _, _]) dX7_bend_45 vlX7_53 clX7_isWithin rfl rfl (Nat.le_of_ble_eq_true rfl) (Nat.le_of_ble_eq_true rfl) (q_isWithin) ?_
  refine sy_if_ne 55 dX7_bend_48 (by decide) (fun c48 => by first | exact kd_tf (by rw [wi_ix (nI_s1l (by have := bcn_le (rlow (Y (3 + 7 * j)) (rl0 (Y 99) (Y (3 + 7 * j)) n) (2 ^ n)) n; omega))]; exact hi) c48 | exact kd_ft (by rw [wi_ix (nI_s1l (by have := bcn_le (rlow (Y (3 + 7 * j)) (rl0 (Y 99) (Y (3 + 7 * j)) n) (2 ^ n)) n; omega))]; exact hi) c48 | exact absurd (by rw [wi_ix (nI_s1l (by have := bcn_le (rlow (Y (3 + 7 * j)) (rl0 (Y 99) (Y (3 + 7 * j)) n) (2 ^ n)) n; omega))]; exact hi) c48 | exact absurd c48 (by rw [wi_ix (nI_s1l (by have := bcn_le (rlow (Y (3 + 7 * j)) (rl0 (Y 99) (Y (3 + 7 * j)) n) (2 ^ n)) n; omega))]; exact hi)) (fun c48 => ?_)
  refine ss_ldc2 dX7_bend_51 kcX7_90 ?_
  exact ss_lret dX7_bend_54 rfl (hQ)
set_option maxHeartbeats 4000000 in
set_option maxRecDepth 100000 in
theorem c_bend_o {c : cx} {d : Nat} {X : nX} {Y : nY} {n : Nat} (hn : n ≤ 10) (h6 : X 0 6 = nI n) {m : Nat} (hm : m ≤ 12) (h7 : X 0 7 = nI m) {j : Nat} (hjm : j < m) (hse : X (2 + 7 * j) 7 = nI (2 ^ n)) (hth : X (2 + 7 * j) 6 = nI n) {i : Nat} (hi : i < bcn (rlow (Y (3 + 7 * j)) (rl0 (Y 99) (Y (3 + 7 * j)) n) (2 ^ n)) n) {q : Int32} (hq : ix q 4 = false) : sc c mX7_bend (d + 5) [.ref (c_ad c 0), .int (nI j), .int (nI i), .int q] (X) (Y) (some (.long (-1002))) (xtn (up2 X 98 2 (nI n)) (tno (rlow (Y (3 + 7 * j)) (rl0 (Y 99) (Y (3 + 7 * j)) n) (2 ^ n)) n) (bcn (rlow (Y (3 + 7 * j)) (rl0 (Y 99) (Y (3 + 7 * j)) n) (2 ^ n)) n)) (srw Y 99 (rlow (Y (3 + 7 * j)) (rl0 (Y 99) (Y (3 + 7 * j)) n) (2 ^ n))) := by
  intro Q hQ
  show ss c mX7_bend (d + 5) Q 0 [(0, .ref (c_ad c 0)), (1, .int (nI j)), (2, .int (nI i)), (3, .int q)] [] (X) (Y)
  have hj : j < 12 := by omega
  have hwj : ix (nI j) m = true := ix_of hjm (by omega)
  refine ss_aload_n dX7_bend_0 0 rfl ?_
  refine ss_iload_n dX7_bend_1 1 rfl ?_
  refine ss_callV (As := [_]) (i := 0) dX7_bend_2 vlX7_113 clX7_isWorth rfl rfl (by omega) (sh_r0 _ _) rfl (Nat.le_of_ble_eq_true rfl) (Nat.le_of_ble_eq_true rfl) (q_isWorth hm h7) ?_
  refine sy_if_ne 12 dX7_bend_5 (by decide) (fun c5 => ?_) (fun c5 => by first | exact kd_tf (hwj) c5 | exact kd_ft (hwj) c5 | exact absurd (hwj) c5 | exact absurd c5 (hwj))
  refine ss_aload_n dX7_bend_12 0 rfl ?_
  refine ss_get (i := 0) dX7_bend_13 flX7_40 (by omega) (sh_r0 _ _) rfl ?_
  refine ss_aload_n dX7_bend_16 0 rfl ?_
  refine ss_get (i := 0) dX7_bend_17 flX7_11 (by omega) (sh_r0 _ _) rfl ?_
  refine ss_iload_n dX7_bend_20 1 rfl ?_
  refine ss_worth (w := j) dX7_bend_21 hj ?_
  refine ss_callV (As := [_]) (i := 98) dX7_bend_22 vlX7_261 clX2_gather rfl rfl (by omega) (sh_r98 _ _) rfl (Nat.le_of_ble_eq_true rfl) (Nat.le_of_ble_eq_true rfl) (q_gatherV hj (p2_le hn) hse hn hth) ?_
  refine ss_aload_n dX7_bend_25 0 rfl ?_
  refine ss_get (i := 0) dX7_bend_26 flX7_40 (by omega) (sh_r0 _ _) rfl ?_
  refine ss_callV (As := []) (i := 98) dX7_bend_29 vlX7_265 clX2_findTurns rfl rfl (by omega) (sh_r98 _ _) rfl (Nat.le_of_ble_eq_true rfl) (Nat.le_of_ble_eq_true rfl) (q_findTurns hn (by simp [up2_at])) ?_
  rw [srw_at]
  refine ss_iload_n dX7_bend_32 2 rfl ?_
  refine ss_i2l dX7_bend_33 ?_
  refine ss_lconst (v := 0) dX7_bend_34 (by decide) ?_
  refine ss_aload_n dX7_bend_35 0 rfl ?_
  refine ss_get (i := 0) dX7_bend_36 flX7_40 (by omega) (sh_r0 _ _) rfl ?_
  refine ss_get (i := 98) dX7_bend_39 flX7_268 (by omega) (sh_r98 _ _) rfl ?_
  rw [xtn_b]
  refine ss_iconst (v := nI 1) dX7_bend_42 (by decide) ?_
  refine ss_isub dX7_bend_43 ?_
  refine ss_i2l dX7_bend_44 ?_
  refine ss_callS (As := [_, _, _]) dX7_bend_45 vlX7_53 clX7_isWithin rfl rfl (Nat.le_of_ble_eq_true rfl) (Nat.le_of_ble_eq_true rfl) (q_isWithin) ?_
  refine sy_if_ne 55 dX7_bend_48 (by decide) (fun c48 => ?_) (fun c48 => by first | exact kd_tf (by rw [wi_ix (nI_s1l (by have := bcn_le (rlow (Y (3 + 7 * j)) (rl0 (Y 99) (Y (3 + 7 * j)) n) (2 ^ n)) n; omega))]; exact ix_of hi (by have := bcn_le (rlow (Y (3 + 7 * j)) (rl0 (Y 99) (Y (3 + 7 * j)) n) (2 ^ n)) n; omega)) c48 | exact kd_ft (by rw [wi_ix (nI_s1l (by have := bcn_le (rlow (Y (3 + 7 * j)) (rl0 (Y 99) (Y (3 + 7 * j)) n) (2 ^ n)) n; omega))]; exact ix_of hi (by have := bcn_le (rlow (Y (3 + 7 * j)) (rl0 (Y 99) (Y (3 + 7 * j)) n) (2 ^ n)) n; omega)) c48 | exact absurd (by rw [wi_ix (nI_s1l (by have := bcn_le (rlow (Y (3 + 7 * j)) (rl0 (Y 99) (Y (3 + 7 * j)) n) (2 ^ n)) n; omega))]; exact ix_of hi (by have := bcn_le (rlow (Y (3 + 7 * j)) (rl0 (Y 99) (Y (3 + 7 * j)) n) (2 ^ n)) n; omega)) c48 | exact absurd c48 (by rw [wi_ix (nI_s1l (by have := bcn_le (rlow (Y (3 + 7 * j)) (rl0 (Y 99) (Y (3 + 7 * j)) n) (2 ^ n)) n; omega))]; exact ix_of hi (by have := bcn_le (rlow (Y (3 + 7 * j)) (rl0 (Y 99) (Y (3 + 7 * j)) n) (2 ^ n)) n; omega)))
  refine ss_iload_n dX7_bend_55 3 rfl ?_
  refine ss_i2l dX7_bend_56 ?_
  refine ss_lconst (v := 0) dX7_bend_57 (by decide) ?_
  refine ss_ldc2 dX7_bend_58 kcX7_240 ?_
  refine ss_callS (As := [_, _, _]) dX7_bend_61 vlX7_53 clX7_isWithin rfl rfl (Nat.le_of_ble_eq_true rfl) (Nat.le_of_ble_eq_true rfl) (q_isWithin) ?_
  refine sy_if_ne 71 dX7_bend_64 (by decide) (fun c64 => by first | exact kd_tf (by rw [wi_ix (n := 4) rfl]; exact hq) c64 | exact kd_ft (by rw [wi_ix (n := 4) rfl]; exact hq) c64 | exact absurd (by rw [wi_ix (n := 4) rfl]; exact hq) c64 | exact absurd c64 (by rw [wi_ix (n := 4) rfl]; exact hq)) (fun c64 => ?_)
  refine ss_ldc2 dX7_bend_67 kcX7_92 ?_
  exact ss_lret dX7_bend_70 rfl (hQ)
set_option maxHeartbeats 4000000 in
set_option maxRecDepth 100000 in
theorem c_bend_0 {c : cx} {d : Nat} {X : nX} {Y : nY} {n : Nat} (hn : n ≤ 10) (h6 : X 0 6 = nI n) {m : Nat} (hm : m ≤ 12) (h7 : X 0 7 = nI m) {j : Nat} (hjm : j < m) (hse : X (2 + 7 * j) 7 = nI (2 ^ n)) (hth : X (2 + 7 * j) 6 = nI n) {i : Nat} (hi : i < bcn (rlow (Y (3 + 7 * j)) (rl0 (Y 99) (Y (3 + 7 * j)) n) (2 ^ n)) n) : sc c mX7_bend (d + 5) [.ref (c_ad c 0), .int (nI j), .int (nI i), .int (nI 0)] (X) (Y) (some (.long (((rlow (Y (3 + 7 * j)) (rl0 (Y 99) (Y (3 + 7 * j)) n) (2 ^ n)) (tno (rlow (Y (3 + 7 * j)) (rl0 (Y 99) (Y (3 + 7 * j)) n) (2 ^ n)) n (i + 1)) - (rlow (Y (3 + 7 * j)) (rl0 (Y 99) (Y (3 + 7 * j)) n) (2 ^ n)) (tno (rlow (Y (3 + 7 * j)) (rl0 (Y 99) (Y (3 + 7 * j)) n) (2 ^ n)) n i)) / lN (cdv (tno (rlow (Y (3 + 7 * j)) (rl0 (Y 99) (Y (3 + 7 * j)) n) (2 ^ n)) n (i + 1) - tno (rlow (Y (3 + 7 * j)) (rl0 (Y 99) (Y (3 + 7 * j)) n) (2 ^ n)) n i) ((rlow (Y (3 + 7 * j)) (rl0 (Y 99) (Y (3 + 7 * j)) n) (2 ^ n)) (tno (rlow (Y (3 + 7 * j)) (rl0 (Y 99) (Y (3 + 7 * j)) n) (2 ^ n)) n (i + 1)) - (rlow (Y (3 + 7 * j)) (rl0 (Y 99) (Y (3 + 7 * j)) n) (2 ^ n)) (tno (rlow (Y (3 + 7 * j)) (rl0 (Y 99) (Y (3 + 7 * j)) n) (2 ^ n)) n i)) (tno (rlow (Y (3 + 7 * j)) (rl0 (Y 99) (Y (3 + 7 * j)) n) (2 ^ n)) n (i + 1) - tno (rlow (Y (3 + 7 * j)) (rl0 (Y 99) (Y (3 + 7 * j)) n) (2 ^ n)) n i))))) (xtn (up2 X 98 2 (nI n)) (tno (rlow (Y (3 + 7 * j)) (rl0 (Y 99) (Y (3 + 7 * j)) n) (2 ^ n)) n) (bcn (rlow (Y (3 + 7 * j)) (rl0 (Y 99) (Y (3 + 7 * j)) n) (2 ^ n)) n)) (srw Y 99 (rlow (Y (3 + 7 * j)) (rl0 (Y 99) (Y (3 + 7 * j)) n) (2 ^ n))) := by
  intro Q hQ
  show ss c mX7_bend (d + 5) Q 0 [(0, .ref (c_ad c 0)), (1, .int (nI j)), (2, .int (nI i)), (3, .int (nI 0))] [] (X) (Y)
  have hj : j < 12 := by omega
  have hwj : ix (nI j) m = true := ix_of hjm (by omega)
  have hbl := bcn_le (rlow (Y (3 + 7 * j)) (rl0 (Y 99) (Y (3 + 7 * j)) n) (2 ^ n)) n
  refine ss_aload_n dX7_bend_0 0 rfl ?_
  refine ss_iload_n dX7_bend_1 1 rfl ?_
  refine ss_callV (As := [_]) (i := 0) dX7_bend_2 vlX7_113 clX7_isWorth rfl rfl (by omega) (sh_r0 _ _) rfl (Nat.le_of_ble_eq_true rfl) (Nat.le_of_ble_eq_true rfl) (q_isWorth hm h7) ?_
  refine sy_if_ne 12 dX7_bend_5 (by decide) (fun c5 => ?_) (fun c5 => by first | exact kd_tf (hwj) c5 | exact kd_ft (hwj) c5 | exact absurd (hwj) c5 | exact absurd c5 (hwj))
  refine ss_aload_n dX7_bend_12 0 rfl ?_
  refine ss_get (i := 0) dX7_bend_13 flX7_40 (by omega) (sh_r0 _ _) rfl ?_
  refine ss_aload_n dX7_bend_16 0 rfl ?_
  refine ss_get (i := 0) dX7_bend_17 flX7_11 (by omega) (sh_r0 _ _) rfl ?_
  refine ss_iload_n dX7_bend_20 1 rfl ?_
  refine ss_worth (w := j) dX7_bend_21 hj ?_
  refine ss_callV (As := [_]) (i := 98) dX7_bend_22 vlX7_261 clX2_gather rfl rfl (by omega) (sh_r98 _ _) rfl (Nat.le_of_ble_eq_true rfl) (Nat.le_of_ble_eq_true rfl) (q_gatherV hj (p2_le hn) hse hn hth) ?_
  refine ss_aload_n dX7_bend_25 0 rfl ?_
  refine ss_get (i := 0) dX7_bend_26 flX7_40 (by omega) (sh_r0 _ _) rfl ?_
  refine ss_callV (As := []) (i := 98) dX7_bend_29 vlX7_265 clX2_findTurns rfl rfl (by omega) (sh_r98 _ _) rfl (Nat.le_of_ble_eq_true rfl) (Nat.le_of_ble_eq_true rfl) (q_findTurns hn (by simp [up2_at])) ?_
  rw [srw_at]
  refine ss_iload_n dX7_bend_32 2 rfl ?_
  refine ss_i2l dX7_bend_33 ?_
  refine ss_lconst (v := 0) dX7_bend_34 (by decide) ?_
  refine ss_aload_n dX7_bend_35 0 rfl ?_
  refine ss_get (i := 0) dX7_bend_36 flX7_40 (by omega) (sh_r0 _ _) rfl ?_
  refine ss_get (i := 98) dX7_bend_39 flX7_268 (by omega) (sh_r98 _ _) rfl ?_
  rw [xtn_b]
  refine ss_iconst (v := nI 1) dX7_bend_42 (by decide) ?_
  refine ss_isub dX7_bend_43 ?_
  refine ss_i2l dX7_bend_44 ?_
  refine ss_callS (As := [_, _, _]) dX7_bend_45 vlX7_53 clX7_isWithin rfl rfl (Nat.le_of_ble_eq_true rfl) (Nat.le_of_ble_eq_true rfl) (q_isWithin) ?_
  refine sy_if_ne 55 dX7_bend_48 (by decide) (fun c48 => ?_) (fun c48 => by first | exact kd_tf (by rw [wi_ix (nI_s1l (by have := bcn_le (rlow (Y (3 + 7 * j)) (rl0 (Y 99) (Y (3 + 7 * j)) n) (2 ^ n)) n; omega))]; exact ix_of hi (by have := bcn_le (rlow (Y (3 + 7 * j)) (rl0 (Y 99) (Y (3 + 7 * j)) n) (2 ^ n)) n; omega)) c48 | exact kd_ft (by rw [wi_ix (nI_s1l (by have := bcn_le (rlow (Y (3 + 7 * j)) (rl0 (Y 99) (Y (3 + 7 * j)) n) (2 ^ n)) n; omega))]; exact ix_of hi (by have := bcn_le (rlow (Y (3 + 7 * j)) (rl0 (Y 99) (Y (3 + 7 * j)) n) (2 ^ n)) n; omega)) c48 | exact absurd (by rw [wi_ix (nI_s1l (by have := bcn_le (rlow (Y (3 + 7 * j)) (rl0 (Y 99) (Y (3 + 7 * j)) n) (2 ^ n)) n; omega))]; exact ix_of hi (by have := bcn_le (rlow (Y (3 + 7 * j)) (rl0 (Y 99) (Y (3 + 7 * j)) n) (2 ^ n)) n; omega)) c48 | exact absurd c48 (by rw [wi_ix (nI_s1l (by have := bcn_le (rlow (Y (3 + 7 * j)) (rl0 (Y 99) (Y (3 + 7 * j)) n) (2 ^ n)) n; omega))]; exact ix_of hi (by have := bcn_le (rlow (Y (3 + 7 * j)) (rl0 (Y 99) (Y (3 + 7 * j)) n) (2 ^ n)) n; omega)))
  refine ss_iload_n dX7_bend_55 3 rfl ?_
  refine ss_i2l dX7_bend_56 ?_
  refine ss_lconst (v := 0) dX7_bend_57 (by decide) ?_
  refine ss_ldc2 dX7_bend_58 kcX7_240 ?_
  refine ss_callS (As := [_, _, _]) dX7_bend_61 vlX7_53 clX7_isWithin rfl rfl (Nat.le_of_ble_eq_true rfl) (Nat.le_of_ble_eq_true rfl) (q_isWithin) ?_
  refine sy_if_ne 71 dX7_bend_64 (by decide) (fun c64 => ?_) (fun c64 => by first | exact kd_tf (by rw [wi_ix (n := 4) rfl]; exact ix_of (by decide) (by decide)) c64 | exact kd_ft (by rw [wi_ix (n := 4) rfl]; exact ix_of (by decide) (by decide)) c64 | exact absurd (by rw [wi_ix (n := 4) rfl]; exact ix_of (by decide) (by decide)) c64 | exact absurd c64 (by rw [wi_ix (n := 4) rfl]; exact ix_of (by decide) (by decide)))
  refine ss_iload_n dX7_bend_71 3 rfl ?_
  refine ss_tableIn (off := 28) 100 dX7_bend_72 (by decide) (by decide) (by decide) (by decide) ?_
  refine ss_aload_n dX7_bend_100 0 rfl ?_
  refine ss_get (i := 0) dX7_bend_101 flX7_40 (by omega) (sh_r0 _ _) rfl ?_
  refine ss_iload_n dX7_bend_104 2 rfl ?_
  refine ss_callV (As := [_]) (i := 98) dX7_bend_105 vlX7_271 clX2_top rfl rfl (by omega) (sh_r98 _ _) rfl (Nat.le_of_ble_eq_true rfl) (Nat.le_of_ble_eq_true rfl) (q_top (by have := bcn_le (rlow (Y (3 + 7 * j)) (rl0 (Y 99) (Y (3 + 7 * j)) n) (2 ^ n)) n; omega) (xtn_t (by omega)) (xtn_t (by omega)) tno_mono (by have := tno_le (rlow (Y (3 + 7 * j)) (rl0 (Y 99) (Y (3 + 7 * j)) n) (2 ^ n)) (tno_lt hi); omega)) ?_
  rw [srw_at]
  exact ss_lret dX7_bend_108 rfl (hQ)
set_option maxHeartbeats 4000000 in
set_option maxRecDepth 100000 in
theorem c_bend_1 {c : cx} {d : Nat} {X : nX} {Y : nY} {n : Nat} (hn : n ≤ 10) (h6 : X 0 6 = nI n) {m : Nat} (hm : m ≤ 12) (h7 : X 0 7 = nI m) {j : Nat} (hjm : j < m) (hse : X (2 + 7 * j) 7 = nI (2 ^ n)) (hth : X (2 + 7 * j) 6 = nI n) {i : Nat} (hi : i < bcn (rlow (Y (3 + 7 * j)) (rl0 (Y 99) (Y (3 + 7 * j)) n) (2 ^ n)) n) : sc c mX7_bend (d + 5) [.ref (c_ad c 0), .int (nI j), .int (nI i), .int (nI 1)] (X) (Y) (some (.long (lN ((tno (rlow (Y (3 + 7 * j)) (rl0 (Y 99) (Y (3 + 7 * j)) n) (2 ^ n)) n (i + 1) - tno (rlow (Y (3 + 7 * j)) (rl0 (Y 99) (Y (3 + 7 * j)) n) (2 ^ n)) n i) / cdv (tno (rlow (Y (3 + 7 * j)) (rl0 (Y 99) (Y (3 + 7 * j)) n) (2 ^ n)) n (i + 1) - tno (rlow (Y (3 + 7 * j)) (rl0 (Y 99) (Y (3 + 7 * j)) n) (2 ^ n)) n i) ((rlow (Y (3 + 7 * j)) (rl0 (Y 99) (Y (3 + 7 * j)) n) (2 ^ n)) (tno (rlow (Y (3 + 7 * j)) (rl0 (Y 99) (Y (3 + 7 * j)) n) (2 ^ n)) n (i + 1)) - (rlow (Y (3 + 7 * j)) (rl0 (Y 99) (Y (3 + 7 * j)) n) (2 ^ n)) (tno (rlow (Y (3 + 7 * j)) (rl0 (Y 99) (Y (3 + 7 * j)) n) (2 ^ n)) n i)) (tno (rlow (Y (3 + 7 * j)) (rl0 (Y 99) (Y (3 + 7 * j)) n) (2 ^ n)) n (i + 1) - tno (rlow (Y (3 + 7 * j)) (rl0 (Y 99) (Y (3 + 7 * j)) n) (2 ^ n)) n i))))) (xtn (up2 X 98 2 (nI n)) (tno (rlow (Y (3 + 7 * j)) (rl0 (Y 99) (Y (3 + 7 * j)) n) (2 ^ n)) n) (bcn (rlow (Y (3 + 7 * j)) (rl0 (Y 99) (Y (3 + 7 * j)) n) (2 ^ n)) n)) (srw Y 99 (rlow (Y (3 + 7 * j)) (rl0 (Y 99) (Y (3 + 7 * j)) n) (2 ^ n))) := by
  intro Q hQ
  show ss c mX7_bend (d + 5) Q 0 [(0, .ref (c_ad c 0)), (1, .int (nI j)), (2, .int (nI i)), (3, .int (nI 1))] [] (X) (Y)
  have hj : j < 12 := by omega
  have hwj : ix (nI j) m = true := ix_of hjm (by omega)
  have hbl := bcn_le (rlow (Y (3 + 7 * j)) (rl0 (Y 99) (Y (3 + 7 * j)) n) (2 ^ n)) n
  refine ss_aload_n dX7_bend_0 0 rfl ?_
  refine ss_iload_n dX7_bend_1 1 rfl ?_
  refine ss_callV (As := [_]) (i := 0) dX7_bend_2 vlX7_113 clX7_isWorth rfl rfl (by omega) (sh_r0 _ _) rfl (Nat.le_of_ble_eq_true rfl) (Nat.le_of_ble_eq_true rfl) (q_isWorth hm h7) ?_
  refine sy_if_ne 12 dX7_bend_5 (by decide) (fun c5 => ?_) (fun c5 => by first | exact kd_tf (hwj) c5 | exact kd_ft (hwj) c5 | exact absurd (hwj) c5 | exact absurd c5 (hwj))
  refine ss_aload_n dX7_bend_12 0 rfl ?_
  refine ss_get (i := 0) dX7_bend_13 flX7_40 (by omega) (sh_r0 _ _) rfl ?_
  refine ss_aload_n dX7_bend_16 0 rfl ?_
  refine ss_get (i := 0) dX7_bend_17 flX7_11 (by omega) (sh_r0 _ _) rfl ?_
  refine ss_iload_n dX7_bend_20 1 rfl ?_
  refine ss_worth (w := j) dX7_bend_21 hj ?_
  refine ss_callV (As := [_]) (i := 98) dX7_bend_22 vlX7_261 clX2_gather rfl rfl (by omega) (sh_r98 _ _) rfl (Nat.le_of_ble_eq_true rfl) (Nat.le_of_ble_eq_true rfl) (q_gatherV hj (p2_le hn) hse hn hth) ?_
  refine ss_aload_n dX7_bend_25 0 rfl ?_
  refine ss_get (i := 0) dX7_bend_26 flX7_40 (by omega) (sh_r0 _ _) rfl ?_
  refine ss_callV (As := []) (i := 98) dX7_bend_29 vlX7_265 clX2_findTurns rfl rfl (by omega) (sh_r98 _ _) rfl (Nat.le_of_ble_eq_true rfl) (Nat.le_of_ble_eq_true rfl) (q_findTurns hn (by simp [up2_at])) ?_
  rw [srw_at]
  refine ss_iload_n dX7_bend_32 2 rfl ?_
  refine ss_i2l dX7_bend_33 ?_
  refine ss_lconst (v := 0) dX7_bend_34 (by decide) ?_
  refine ss_aload_n dX7_bend_35 0 rfl ?_
  refine ss_get (i := 0) dX7_bend_36 flX7_40 (by omega) (sh_r0 _ _) rfl ?_
  refine ss_get (i := 98) dX7_bend_39 flX7_268 (by omega) (sh_r98 _ _) rfl ?_
  rw [xtn_b]
  refine ss_iconst (v := nI 1) dX7_bend_42 (by decide) ?_
  refine ss_isub dX7_bend_43 ?_
  refine ss_i2l dX7_bend_44 ?_
  refine ss_callS (As := [_, _, _]) dX7_bend_45 vlX7_53 clX7_isWithin rfl rfl (Nat.le_of_ble_eq_true rfl) (Nat.le_of_ble_eq_true rfl) (q_isWithin) ?_
  refine sy_if_ne 55 dX7_bend_48 (by decide) (fun c48 => ?_) (fun c48 => by first | exact kd_tf (by rw [wi_ix (nI_s1l (by have := bcn_le (rlow (Y (3 + 7 * j)) (rl0 (Y 99) (Y (3 + 7 * j)) n) (2 ^ n)) n; omega))]; exact ix_of hi (by have := bcn_le (rlow (Y (3 + 7 * j)) (rl0 (Y 99) (Y (3 + 7 * j)) n) (2 ^ n)) n; omega)) c48 | exact kd_ft (by rw [wi_ix (nI_s1l (by have := bcn_le (rlow (Y (3 + 7 * j)) (rl0 (Y 99) (Y (3 + 7 * j)) n) (2 ^ n)) n; omega))]; exact ix_of hi (by have := bcn_le (rlow (Y (3 + 7 * j)) (rl0 (Y 99) (Y (3 + 7 * j)) n) (2 ^ n)) n; omega)) c48 | exact absurd (by rw [wi_ix (nI_s1l (by have := bcn_le (rlow (Y (3 + 7 * j)) (rl0 (Y 99) (Y (3 + 7 * j)) n) (2 ^ n)) n; omega))]; exact ix_of hi (by have := bcn_le (rlow (Y (3 + 7 * j)) (rl0 (Y 99) (Y (3 + 7 * j)) n) (2 ^ n)) n; omega)) c48 | exact absurd c48 (by rw [wi_ix (nI_s1l (by have := bcn_le (rlow (Y (3 + 7 * j)) (rl0 (Y 99) (Y (3 + 7 * j)) n) (2 ^ n)) n; omega))]; exact ix_of hi (by have := bcn_le (rlow (Y (3 + 7 * j)) (rl0 (Y 99) (Y (3 + 7 * j)) n) (2 ^ n)) n; omega)))
  refine ss_iload_n dX7_bend_55 3 rfl ?_
  refine ss_i2l dX7_bend_56 ?_
  refine ss_lconst (v := 0) dX7_bend_57 (by decide) ?_
  refine ss_ldc2 dX7_bend_58 kcX7_240 ?_
  refine ss_callS (As := [_, _, _]) dX7_bend_61 vlX7_53 clX7_isWithin rfl rfl (Nat.le_of_ble_eq_true rfl) (Nat.le_of_ble_eq_true rfl) (q_isWithin) ?_
  refine sy_if_ne 71 dX7_bend_64 (by decide) (fun c64 => ?_) (fun c64 => by first | exact kd_tf (by rw [wi_ix (n := 4) rfl]; exact ix_of (by decide) (by decide)) c64 | exact kd_ft (by rw [wi_ix (n := 4) rfl]; exact ix_of (by decide) (by decide)) c64 | exact absurd (by rw [wi_ix (n := 4) rfl]; exact ix_of (by decide) (by decide)) c64 | exact absurd c64 (by rw [wi_ix (n := 4) rfl]; exact ix_of (by decide) (by decide)))
  refine ss_iload_n dX7_bend_71 3 rfl ?_
  refine ss_tableIn (off := 37) 109 dX7_bend_72 (by decide) (by decide) (by decide) (by decide) ?_
  refine ss_aload_n dX7_bend_109 0 rfl ?_
  refine ss_get (i := 0) dX7_bend_110 flX7_40 (by omega) (sh_r0 _ _) rfl ?_
  refine ss_iload_n dX7_bend_113 2 rfl ?_
  refine ss_callV (As := [_]) (i := 98) dX7_bend_114 vlX7_275 clX2_bottom rfl rfl (by omega) (sh_r98 _ _) rfl (Nat.le_of_ble_eq_true rfl) (Nat.le_of_ble_eq_true rfl) (q_bottom (by have := bcn_le (rlow (Y (3 + 7 * j)) (rl0 (Y 99) (Y (3 + 7 * j)) n) (2 ^ n)) n; omega) (xtn_t (by omega)) (xtn_t (by omega)) tno_mono (by have := tno_le (rlow (Y (3 + 7 * j)) (rl0 (Y 99) (Y (3 + 7 * j)) n) (2 ^ n)) (tno_lt hi); omega)) ?_
  rw [srw_at]
  exact ss_lret dX7_bend_117 rfl (hQ)
set_option maxHeartbeats 4000000 in
set_option maxRecDepth 100000 in
theorem c_bend_2 {c : cx} {d : Nat} {X : nX} {Y : nY} {n : Nat} (hn : n ≤ 10) (h6 : X 0 6 = nI n) {m : Nat} (hm : m ≤ 12) (h7 : X 0 7 = nI m) {j : Nat} (hjm : j < m) (hse : X (2 + 7 * j) 7 = nI (2 ^ n)) (hth : X (2 + 7 * j) 6 = nI n) {i : Nat} (hi : i < bcn (rlow (Y (3 + 7 * j)) (rl0 (Y 99) (Y (3 + 7 * j)) n) (2 ^ n)) n) : sc c mX7_bend (d + 5) [.ref (c_ad c 0), .int (nI j), .int (nI i), .int (nI 2)] (X) (Y) (some (.long (lN (tno (rlow (Y (3 + 7 * j)) (rl0 (Y 99) (Y (3 + 7 * j)) n) (2 ^ n)) n i)))) (xtn (up2 X 98 2 (nI n)) (tno (rlow (Y (3 + 7 * j)) (rl0 (Y 99) (Y (3 + 7 * j)) n) (2 ^ n)) n) (bcn (rlow (Y (3 + 7 * j)) (rl0 (Y 99) (Y (3 + 7 * j)) n) (2 ^ n)) n)) (srw Y 99 (rlow (Y (3 + 7 * j)) (rl0 (Y 99) (Y (3 + 7 * j)) n) (2 ^ n))) := by
  intro Q hQ
  show ss c mX7_bend (d + 5) Q 0 [(0, .ref (c_ad c 0)), (1, .int (nI j)), (2, .int (nI i)), (3, .int (nI 2))] [] (X) (Y)
  have hj : j < 12 := by omega
  have hwj : ix (nI j) m = true := ix_of hjm (by omega)
  have hbl := bcn_le (rlow (Y (3 + 7 * j)) (rl0 (Y 99) (Y (3 + 7 * j)) n) (2 ^ n)) n
  refine ss_aload_n dX7_bend_0 0 rfl ?_
  refine ss_iload_n dX7_bend_1 1 rfl ?_
  refine ss_callV (As := [_]) (i := 0) dX7_bend_2 vlX7_113 clX7_isWorth rfl rfl (by omega) (sh_r0 _ _) rfl (Nat.le_of_ble_eq_true rfl) (Nat.le_of_ble_eq_true rfl) (q_isWorth hm h7) ?_
  refine sy_if_ne 12 dX7_bend_5 (by decide) (fun c5 => ?_) (fun c5 => by first | exact kd_tf (hwj) c5 | exact kd_ft (hwj) c5 | exact absurd (hwj) c5 | exact absurd c5 (hwj))
  refine ss_aload_n dX7_bend_12 0 rfl ?_
  refine ss_get (i := 0) dX7_bend_13 flX7_40 (by omega) (sh_r0 _ _) rfl ?_
  refine ss_aload_n dX7_bend_16 0 rfl ?_
  refine ss_get (i := 0) dX7_bend_17 flX7_11 (by omega) (sh_r0 _ _) rfl ?_
  refine ss_iload_n dX7_bend_20 1 rfl ?_
  refine ss_worth (w := j) dX7_bend_21 hj ?_
  refine ss_callV (As := [_]) (i := 98) dX7_bend_22 vlX7_261 clX2_gather rfl rfl (by omega) (sh_r98 _ _) rfl (Nat.le_of_ble_eq_true rfl) (Nat.le_of_ble_eq_true rfl) (q_gatherV hj (p2_le hn) hse hn hth) ?_
  refine ss_aload_n dX7_bend_25 0 rfl ?_
  refine ss_get (i := 0) dX7_bend_26 flX7_40 (by omega) (sh_r0 _ _) rfl ?_
  refine ss_callV (As := []) (i := 98) dX7_bend_29 vlX7_265 clX2_findTurns rfl rfl (by omega) (sh_r98 _ _) rfl (Nat.le_of_ble_eq_true rfl) (Nat.le_of_ble_eq_true rfl) (q_findTurns hn (by simp [up2_at])) ?_
  rw [srw_at]
  refine ss_iload_n dX7_bend_32 2 rfl ?_
  refine ss_i2l dX7_bend_33 ?_
  refine ss_lconst (v := 0) dX7_bend_34 (by decide) ?_
  refine ss_aload_n dX7_bend_35 0 rfl ?_
  refine ss_get (i := 0) dX7_bend_36 flX7_40 (by omega) (sh_r0 _ _) rfl ?_
  refine ss_get (i := 98) dX7_bend_39 flX7_268 (by omega) (sh_r98 _ _) rfl ?_
  rw [xtn_b]
  refine ss_iconst (v := nI 1) dX7_bend_42 (by decide) ?_
  refine ss_isub dX7_bend_43 ?_
  refine ss_i2l dX7_bend_44 ?_
  refine ss_callS (As := [_, _, _]) dX7_bend_45 vlX7_53 clX7_isWithin rfl rfl (Nat.le_of_ble_eq_true rfl) (Nat.le_of_ble_eq_true rfl) (q_isWithin) ?_
  refine sy_if_ne 55 dX7_bend_48 (by decide) (fun c48 => ?_) (fun c48 => by first | exact kd_tf (by rw [wi_ix (nI_s1l (by have := bcn_le (rlow (Y (3 + 7 * j)) (rl0 (Y 99) (Y (3 + 7 * j)) n) (2 ^ n)) n; omega))]; exact ix_of hi (by have := bcn_le (rlow (Y (3 + 7 * j)) (rl0 (Y 99) (Y (3 + 7 * j)) n) (2 ^ n)) n; omega)) c48 | exact kd_ft (by rw [wi_ix (nI_s1l (by have := bcn_le (rlow (Y (3 + 7 * j)) (rl0 (Y 99) (Y (3 + 7 * j)) n) (2 ^ n)) n; omega))]; exact ix_of hi (by have := bcn_le (rlow (Y (3 + 7 * j)) (rl0 (Y 99) (Y (3 + 7 * j)) n) (2 ^ n)) n; omega)) c48 | exact absurd (by rw [wi_ix (nI_s1l (by have := bcn_le (rlow (Y (3 + 7 * j)) (rl0 (Y 99) (Y (3 + 7 * j)) n) (2 ^ n)) n; omega))]; exact ix_of hi (by have := bcn_le (rlow (Y (3 + 7 * j)) (rl0 (Y 99) (Y (3 + 7 * j)) n) (2 ^ n)) n; omega)) c48 | exact absurd c48 (by rw [wi_ix (nI_s1l (by have := bcn_le (rlow (Y (3 + 7 * j)) (rl0 (Y 99) (Y (3 + 7 * j)) n) (2 ^ n)) n; omega))]; exact ix_of hi (by have := bcn_le (rlow (Y (3 + 7 * j)) (rl0 (Y 99) (Y (3 + 7 * j)) n) (2 ^ n)) n; omega)))
  refine ss_iload_n dX7_bend_55 3 rfl ?_
  refine ss_i2l dX7_bend_56 ?_
  refine ss_lconst (v := 0) dX7_bend_57 (by decide) ?_
  refine ss_ldc2 dX7_bend_58 kcX7_240 ?_
  refine ss_callS (As := [_, _, _]) dX7_bend_61 vlX7_53 clX7_isWithin rfl rfl (Nat.le_of_ble_eq_true rfl) (Nat.le_of_ble_eq_true rfl) (q_isWithin) ?_
  refine sy_if_ne 71 dX7_bend_64 (by decide) (fun c64 => ?_) (fun c64 => by first | exact kd_tf (by rw [wi_ix (n := 4) rfl]; exact ix_of (by decide) (by decide)) c64 | exact kd_ft (by rw [wi_ix (n := 4) rfl]; exact ix_of (by decide) (by decide)) c64 | exact absurd (by rw [wi_ix (n := 4) rfl]; exact ix_of (by decide) (by decide)) c64 | exact absurd c64 (by rw [wi_ix (n := 4) rfl]; exact ix_of (by decide) (by decide)))
  refine ss_iload_n dX7_bend_71 3 rfl ?_
  refine ss_tableIn (off := 46) 118 dX7_bend_72 (by decide) (by decide) (by decide) (by decide) ?_
  refine ss_aload_n dX7_bend_118 0 rfl ?_
  refine ss_get (i := 0) dX7_bend_119 flX7_40 (by omega) (sh_r0 _ _) rfl ?_
  refine ss_get (i := 98) dX7_bend_122 flX7_278 (by omega) (sh_r98 _ _) rfl ?_
  refine ss_iload_n dX7_bend_125 2 rfl ?_
  refine ss_iald (i := 100) dX7_bend_126 (by omega) (sh_r100) (by omega) (by decide) ?_
  rw [xtn_t (by omega)]
  refine sz_i2l dX7_bend_127 (by have := tno_lt hi; omega) ?_
  exact ss_lret dX7_bend_128 rfl (hQ)
set_option maxHeartbeats 4000000 in
set_option maxRecDepth 100000 in
theorem c_bend_3 {c : cx} {d : Nat} {X : nX} {Y : nY} {n : Nat} (hn : n ≤ 10) (h6 : X 0 6 = nI n) {m : Nat} (hm : m ≤ 12) (h7 : X 0 7 = nI m) {j : Nat} (hjm : j < m) (hse : X (2 + 7 * j) 7 = nI (2 ^ n)) (hth : X (2 + 7 * j) 6 = nI n) {i : Nat} (hi : i < bcn (rlow (Y (3 + 7 * j)) (rl0 (Y 99) (Y (3 + 7 * j)) n) (2 ^ n)) n) : sc c mX7_bend (d + 5) [.ref (c_ad c 0), .int (nI j), .int (nI i), .int (nI 3)] (X) (Y) (some (.long (lN (tno (rlow (Y (3 + 7 * j)) (rl0 (Y 99) (Y (3 + 7 * j)) n) (2 ^ n)) n (i + 1))))) (xtn (up2 X 98 2 (nI n)) (tno (rlow (Y (3 + 7 * j)) (rl0 (Y 99) (Y (3 + 7 * j)) n) (2 ^ n)) n) (bcn (rlow (Y (3 + 7 * j)) (rl0 (Y 99) (Y (3 + 7 * j)) n) (2 ^ n)) n)) (srw Y 99 (rlow (Y (3 + 7 * j)) (rl0 (Y 99) (Y (3 + 7 * j)) n) (2 ^ n))) := by
  intro Q hQ
  show ss c mX7_bend (d + 5) Q 0 [(0, .ref (c_ad c 0)), (1, .int (nI j)), (2, .int (nI i)), (3, .int (nI 3))] [] (X) (Y)
  have hj : j < 12 := by omega
  have hwj : ix (nI j) m = true := ix_of hjm (by omega)
  have hbl := bcn_le (rlow (Y (3 + 7 * j)) (rl0 (Y 99) (Y (3 + 7 * j)) n) (2 ^ n)) n
  refine ss_aload_n dX7_bend_0 0 rfl ?_
  refine ss_iload_n dX7_bend_1 1 rfl ?_
  refine ss_callV (As := [_]) (i := 0) dX7_bend_2 vlX7_113 clX7_isWorth rfl rfl (by omega) (sh_r0 _ _) rfl (Nat.le_of_ble_eq_true rfl) (Nat.le_of_ble_eq_true rfl) (q_isWorth hm h7) ?_
  refine sy_if_ne 12 dX7_bend_5 (by decide) (fun c5 => ?_) (fun c5 => by first | exact kd_tf (hwj) c5 | exact kd_ft (hwj) c5 | exact absurd (hwj) c5 | exact absurd c5 (hwj))
  refine ss_aload_n dX7_bend_12 0 rfl ?_
  refine ss_get (i := 0) dX7_bend_13 flX7_40 (by omega) (sh_r0 _ _) rfl ?_
  refine ss_aload_n dX7_bend_16 0 rfl ?_
  refine ss_get (i := 0) dX7_bend_17 flX7_11 (by omega) (sh_r0 _ _) rfl ?_
  refine ss_iload_n dX7_bend_20 1 rfl ?_
  refine ss_worth (w := j) dX7_bend_21 hj ?_
  refine ss_callV (As := [_]) (i := 98) dX7_bend_22 vlX7_261 clX2_gather rfl rfl (by omega) (sh_r98 _ _) rfl (Nat.le_of_ble_eq_true rfl) (Nat.le_of_ble_eq_true rfl) (q_gatherV hj (p2_le hn) hse hn hth) ?_
  refine ss_aload_n dX7_bend_25 0 rfl ?_
  refine ss_get (i := 0) dX7_bend_26 flX7_40 (by omega) (sh_r0 _ _) rfl ?_
  refine ss_callV (As := []) (i := 98) dX7_bend_29 vlX7_265 clX2_findTurns rfl rfl (by omega) (sh_r98 _ _) rfl (Nat.le_of_ble_eq_true rfl) (Nat.le_of_ble_eq_true rfl) (q_findTurns hn (by simp [up2_at])) ?_
  rw [srw_at]
  refine ss_iload_n dX7_bend_32 2 rfl ?_
  refine ss_i2l dX7_bend_33 ?_
  refine ss_lconst (v := 0) dX7_bend_34 (by decide) ?_
  refine ss_aload_n dX7_bend_35 0 rfl ?_
  refine ss_get (i := 0) dX7_bend_36 flX7_40 (by omega) (sh_r0 _ _) rfl ?_
  refine ss_get (i := 98) dX7_bend_39 flX7_268 (by omega) (sh_r98 _ _) rfl ?_
  rw [xtn_b]
  refine ss_iconst (v := nI 1) dX7_bend_42 (by decide) ?_
  refine ss_isub dX7_bend_43 ?_
  refine ss_i2l dX7_bend_44 ?_
  refine ss_callS (As := [_, _, _]) dX7_bend_45 vlX7_53 clX7_isWithin rfl rfl (Nat.le_of_ble_eq_true rfl) (Nat.le_of_ble_eq_true rfl) (q_isWithin) ?_
  refine sy_if_ne 55 dX7_bend_48 (by decide) (fun c48 => ?_) (fun c48 => by first | exact kd_tf (by rw [wi_ix (nI_s1l (by have := bcn_le (rlow (Y (3 + 7 * j)) (rl0 (Y 99) (Y (3 + 7 * j)) n) (2 ^ n)) n; omega))]; exact ix_of hi (by have := bcn_le (rlow (Y (3 + 7 * j)) (rl0 (Y 99) (Y (3 + 7 * j)) n) (2 ^ n)) n; omega)) c48 | exact kd_ft (by rw [wi_ix (nI_s1l (by have := bcn_le (rlow (Y (3 + 7 * j)) (rl0 (Y 99) (Y (3 + 7 * j)) n) (2 ^ n)) n; omega))]; exact ix_of hi (by have := bcn_le (rlow (Y (3 + 7 * j)) (rl0 (Y 99) (Y (3 + 7 * j)) n) (2 ^ n)) n; omega)) c48 | exact absurd (by rw [wi_ix (nI_s1l (by have := bcn_le (rlow (Y (3 + 7 * j)) (rl0 (Y 99) (Y (3 + 7 * j)) n) (2 ^ n)) n; omega))]; exact ix_of hi (by have := bcn_le (rlow (Y (3 + 7 * j)) (rl0 (Y 99) (Y (3 + 7 * j)) n) (2 ^ n)) n; omega)) c48 | exact absurd c48 (by rw [wi_ix (nI_s1l (by have := bcn_le (rlow (Y (3 + 7 * j)) (rl0 (Y 99) (Y (3 + 7 * j)) n) (2 ^ n)) n; omega))]; exact ix_of hi (by have := bcn_le (rlow (Y (3 + 7 * j)) (rl0 (Y 99) (Y (3 + 7 * j)) n) (2 ^ n)) n; omega)))
  refine ss_iload_n dX7_bend_55 3 rfl ?_
  refine ss_i2l dX7_bend_56 ?_
  refine ss_lconst (v := 0) dX7_bend_57 (by decide) ?_
  refine ss_ldc2 dX7_bend_58 kcX7_240 ?_
  refine ss_callS (As := [_, _, _]) dX7_bend_61 vlX7_53 clX7_isWithin rfl rfl (Nat.le_of_ble_eq_true rfl) (Nat.le_of_ble_eq_true rfl) (q_isWithin) ?_
  refine sy_if_ne 71 dX7_bend_64 (by decide) (fun c64 => ?_) (fun c64 => by first | exact kd_tf (by rw [wi_ix (n := 4) rfl]; exact ix_of (by decide) (by decide)) c64 | exact kd_ft (by rw [wi_ix (n := 4) rfl]; exact ix_of (by decide) (by decide)) c64 | exact absurd (by rw [wi_ix (n := 4) rfl]; exact ix_of (by decide) (by decide)) c64 | exact absurd c64 (by rw [wi_ix (n := 4) rfl]; exact ix_of (by decide) (by decide)))
  refine ss_iload_n dX7_bend_71 3 rfl ?_
  refine ss_tableOut 129 dX7_bend_72 (by decide) (by decide) ?_
  refine ss_aload_n dX7_bend_129 0 rfl ?_
  refine ss_get (i := 0) dX7_bend_130 flX7_40 (by omega) (sh_r0 _ _) rfl ?_
  refine ss_get (i := 98) dX7_bend_133 flX7_278 (by omega) (sh_r98 _ _) rfl ?_
  refine ss_iload_n dX7_bend_136 2 rfl ?_
  refine ss_iconst (v := nI 1) dX7_bend_137 (by decide) ?_
  refine sz_iadd dX7_bend_138 ?_
  refine ss_iald (i := 100) dX7_bend_139 (by omega) (sh_r100) (by omega) (by decide) ?_
  rw [xtn_t (by omega)]
  refine sz_i2l dX7_bend_140 (by have := tno_le (rlow (Y (3 + 7 * j)) (rl0 (Y 99) (Y (3 + 7 * j)) n) (2 ^ n)) (tno_lt hi); omega) ?_
  exact ss_lret dX7_bend_141 rfl (hQ)
set_option maxHeartbeats 4000000 in
set_option maxRecDepth 100000 in
theorem c_corner_k {c : cx} {d : Nat} {X : nX} {Y : nY} {n : Nat} (hn : n ≤ 10) (h6 : X 0 6 = nI n) {m : Nat} (hm : m ≤ 12) (h7 : X 0 7 = nI m) {j : Nat} (hjm : j < m) (hs3 : X 101 3 = nI n) {r : Nat → Nat} (hr : ∀ k, k < n → X 102 k = nI (r k)) (hr2 : ∀ k, k < n → r k < 10) : sc c mX7_corner (d + 3) [.ref (c_ad c 0), .int (nI j)] (X) (Y) (some (.int (nI 1))) (up2 X 101 4 (X 101 4 * nI 0 + nI 1)) (mpl (srw Y 104 (cor (Y (3 + 7 * j)) r (Y 104) n)) 103 0 n (f_bl (srw Y 104 (cor (Y (3 + 7 * j)) r (Y 104) n)) (nI 0) (nI 1))) := by
  intro Q hQ
  show ss c mX7_corner (d + 3) Q 0 [(0, .ref (c_ad c 0)), (1, .int (nI j))] [] (X) (Y)
  have hj : j < 12 := by omega
  have hwj : ix (nI j) m = true := ix_of hjm (by omega)
  refine ss_aload_n dX7_corner_0 0 rfl ?_
  refine ss_iload_n dX7_corner_1 1 rfl ?_
  refine ss_callV (As := [_]) (i := 0) dX7_corner_2 vlX7_113 clX7_isWorth rfl rfl (by omega) (sh_r0 _ _) rfl (Nat.le_of_ble_eq_true rfl) (Nat.le_of_ble_eq_true rfl) (q_isWorth hm h7) ?_
  refine sy_if_ne 12 dX7_corner_5 (by decide) (fun c5 => ?_) (fun c5 => by first | exact kd_tf (hwj) c5 | exact kd_ft (hwj) c5 | exact absurd (hwj) c5 | exact absurd c5 (hwj))
  refine ss_aload_n dX7_corner_12 0 rfl ?_
  refine ss_get (i := 0) dX7_corner_13 flX7_47 (by omega) (sh_r0 _ _) rfl ?_
  refine ss_aload_n dX7_corner_16 0 rfl ?_
  refine ss_get (i := 0) dX7_corner_17 flX7_11 (by omega) (sh_r0 _ _) rfl ?_
  refine ss_iload_n dX7_corner_20 1 rfl ?_
  refine ss_worth (w := j) dX7_corner_21 hj ?_
  refine ss_callV (As := [_]) (i := 101) dX7_corner_22 vlX7_285 clX4_findCorner rfl rfl (by omega) (sh_r101 _ _) rfl (Nat.le_of_ble_eq_true rfl) (Nat.le_of_ble_eq_true rfl) (q_findCorner hj hn hs3 hr hr2) ?_
  refine ss_aload_n dX7_corner_25 0 rfl ?_
  refine ss_get (i := 0) dX7_corner_26 flX7_47 (by omega) (sh_r0 _ _) rfl ?_
  refine ss_iconst (v := nI 0) dX7_corner_29 (by decide) ?_
  refine ss_iconst (v := nI 1) dX7_corner_30 (by decide) ?_
  refine ss_callV (As := [_, _]) (i := 101) dX7_corner_31 vlX7_288 clX4_blend rfl rfl (by omega) (sh_r101 _ _) rfl (Nat.le_of_ble_eq_true rfl) (Nat.le_of_ble_eq_true rfl) (q_blend hn hs3) ?_
  refine ss_iconst (v := nI 1) dX7_corner_34 (by decide) ?_
  exact ss_iret dX7_corner_35 rfl rfl (hQ)
set_option maxHeartbeats 4000000 in
set_option maxRecDepth 100000 in
theorem c_mix_o1 {c : cx} {d : Nat} {X : nX} {Y : nY} {m : Nat} (hm : m ≤ 12) (h7 : X 0 7 = nI m) {j : Nat} (hjm : j < m) {f g : Int32} (hf : ix f 1001 = false ∨ ix g 1001 = false) : sc c mX7_mix (d + 4) [.ref (c_ad c 0), .int (nI j), .int f, .int g] (X) (Y) (some (.int (-1002))) (X) (Y) := by
  intro Q hQ
  show ss c mX7_mix (d + 4) Q 0 [(0, .ref (c_ad c 0)), (1, .int (nI j)), (2, .int f), (3, .int g)] [] (X) (Y)
  have hj : j < 12 := by omega
  have hwj : ix (nI j) m = true := ix_of hjm (by omega)
  have hf9 : wi f.toInt64 0 1000 = ix f 1001 := wi_ix (n := 1001) rfl
  have hg9 : wi g.toInt64 0 1000 = ix g 1001 := wi_ix (n := 1001) rfl
  refine ss_aload_n dX7_mix_0 0 rfl ?_
  refine ss_iload_n dX7_mix_1 1 rfl ?_
  refine ss_callV (As := [_]) (i := 0) dX7_mix_2 vlX7_113 clX7_isWorth rfl rfl (by omega) (sh_r0 _ _) rfl (Nat.le_of_ble_eq_true rfl) (Nat.le_of_ble_eq_true rfl) (q_isWorth hm h7) ?_
  refine sy_if_ne 12 dX7_mix_5 (by decide) (fun c5 => ?_) (fun c5 => by first | exact kd_tf (hwj) c5 | exact kd_ft (hwj) c5 | exact absurd (hwj) c5 | exact absurd c5 (hwj))
  refine ss_iload_n dX7_mix_12 2 rfl ?_
  refine ss_i2l dX7_mix_13 ?_
  refine ss_lconst (v := 0) dX7_mix_14 (by decide) ?_
  refine ss_ldc2 dX7_mix_15 kcX7_291 ?_
  refine ss_callS (As := [_, _, _]) dX7_mix_18 vlX7_53 clX7_isWithin rfl rfl (Nat.le_of_ble_eq_true rfl) (Nat.le_of_ble_eq_true rfl) (q_isWithin) ?_
  refine sy_if_eq 36 dX7_mix_21 (by decide) (fun c21 => ?_) (fun c21 => ?_)
  · skip
    refine ss_sipush (v := -1002) dX7_mix_36 (by decide) ?_
    exact ss_iret dX7_mix_39 rfl rfl (hQ)
  · skip
    refine ss_iload_n dX7_mix_24 3 rfl ?_
    refine ss_i2l dX7_mix_25 ?_
    refine ss_lconst (v := 0) dX7_mix_26 (by decide) ?_
    refine ss_ldc2 dX7_mix_27 kcX7_291 ?_
    refine ss_callS (As := [_, _, _]) dX7_mix_30 vlX7_53 clX7_isWithin rfl rfl (Nat.le_of_ble_eq_true rfl) (Nat.le_of_ble_eq_true rfl) (q_isWithin) ?_
    refine sy_if_ne 40 dX7_mix_33 (by decide) (fun c33 => by rcases hf with h8 | h8; exact kd_tf c21 (hf9.trans h8); exact kd_tf c33 (hg9.trans h8)) (fun c33 => ?_)
    refine ss_sipush (v := -1002) dX7_mix_36 (by decide) ?_
    exact ss_iret dX7_mix_39 rfl rfl (hQ)
set_option maxHeartbeats 4000000 in
set_option maxRecDepth 100000 in
theorem c_mix_o2 {c : cx} {d : Nat} {X : nX} {Y : nY} {m : Nat} (hm : m ≤ 12) (h7 : X 0 7 = nI m) {j : Nat} (hjm : j < m) : sc c mX7_mix (d + 4) [.ref (c_ad c 0), .int (nI j), .int (nI 0), .int (nI 0)] (X) (Y) (some (.int (-1002))) (X) (Y) := by
  intro Q hQ
  show ss c mX7_mix (d + 4) Q 0 [(0, .ref (c_ad c 0)), (1, .int (nI j)), (2, .int (nI 0)), (3, .int (nI 0))] [] (X) (Y)
  have hj : j < 12 := by omega
  have hwj : ix (nI j) m = true := ix_of hjm (by omega)
  refine ss_aload_n dX7_mix_0 0 rfl ?_
  refine ss_iload_n dX7_mix_1 1 rfl ?_
  refine ss_callV (As := [_]) (i := 0) dX7_mix_2 vlX7_113 clX7_isWorth rfl rfl (by omega) (sh_r0 _ _) rfl (Nat.le_of_ble_eq_true rfl) (Nat.le_of_ble_eq_true rfl) (q_isWorth hm h7) ?_
  refine sy_if_ne 12 dX7_mix_5 (by decide) (fun c5 => ?_) (fun c5 => by first | exact kd_tf (hwj) c5 | exact kd_ft (hwj) c5 | exact absurd (hwj) c5 | exact absurd c5 (hwj))
  refine ss_iload_n dX7_mix_12 2 rfl ?_
  refine ss_i2l dX7_mix_13 ?_
  refine ss_lconst (v := 0) dX7_mix_14 (by decide) ?_
  refine ss_ldc2 dX7_mix_15 kcX7_291 ?_
  refine ss_callS (As := [_, _, _]) dX7_mix_18 vlX7_53 clX7_isWithin rfl rfl (Nat.le_of_ble_eq_true rfl) (Nat.le_of_ble_eq_true rfl) (q_isWithin) ?_
  refine sy_if_eq 36 dX7_mix_21 (by decide) (fun c21 => by first | exact kd_tf (by decide) c21 | exact kd_ft (by decide) c21 | exact absurd (by decide) c21 | exact absurd c21 (by decide)) (fun c21 => ?_)
  refine ss_iload_n dX7_mix_24 3 rfl ?_
  refine ss_i2l dX7_mix_25 ?_
  refine ss_lconst (v := 0) dX7_mix_26 (by decide) ?_
  refine ss_ldc2 dX7_mix_27 kcX7_291 ?_
  refine ss_callS (As := [_, _, _]) dX7_mix_30 vlX7_53 clX7_isWithin rfl rfl (Nat.le_of_ble_eq_true rfl) (Nat.le_of_ble_eq_true rfl) (q_isWithin) ?_
  refine sy_if_ne 40 dX7_mix_33 (by decide) (fun c33 => ?_) (fun c33 => by first | exact kd_tf (by decide) c33 | exact kd_ft (by decide) c33 | exact absurd (by decide) c33 | exact absurd c33 (by decide))
  refine ss_iload_n dX7_mix_40 2 rfl ?_
  refine ss_if_ne 52 dX7_mix_41 (by decide) (fun c41 => by first | exact kd_tf (rfl) c41 | exact kd_ft (rfl) c41 | exact absurd (rfl) c41 | exact absurd c41 (rfl)) (fun c41 => ?_)
  refine ss_iload_n dX7_mix_44 3 rfl ?_
  refine ss_if_ne 52 dX7_mix_45 (by decide) (fun c45 => by first | exact kd_tf (rfl) c45 | exact kd_ft (rfl) c45 | exact absurd (rfl) c45 | exact absurd c45 (rfl)) (fun c45 => ?_)
  refine ss_sipush (v := -1002) dX7_mix_48 (by decide) ?_
  exact ss_iret dX7_mix_51 rfl rfl (hQ)
set_option maxHeartbeats 4000000 in
set_option maxRecDepth 100000 in
theorem c_mix_la {c : cx} {d : Nat} {X : nX} {Y : nY} {n : Nat} (hn : n ≤ 10) (h6 : X 0 6 = nI n) {m : Nat} (hm : m ≤ 12) (h7 : X 0 7 = nI m) {j : Nat} (hjm : j < m) (hs3 : X 101 3 = nI n) {r : Nat → Nat} (hr : ∀ k, k < n → X 102 k = nI (r k)) (hr2 : ∀ k, k < n → r k < 10) {f g : Int32} (hf : ix f 1001 = true) (hg : ix g 1001 = true) (hz : ¬ f = 0) (hl : (decide (1000000 < X 101 4 * f + g) || lany (p_bl (srw Y 104 (cor (Y (3 + 7 * j)) r (Y 104) n)) f g) n) = true) : sc c mX7_mix (d + 4) [.ref (c_ad c 0), .int (nI j), .int f, .int g] (X) (Y) (some (.int (-1005))) (X) (srw Y 104 (cor (Y (3 + 7 * j)) r (Y 104) n)) := by
  intro Q hQ
  show ss c mX7_mix (d + 4) Q 0 [(0, .ref (c_ad c 0)), (1, .int (nI j)), (2, .int f), (3, .int g)] [] (X) (Y)
  have hj : j < 12 := by omega
  have hwj : ix (nI j) m = true := ix_of hjm (by omega)
  refine ss_aload_n dX7_mix_0 0 rfl ?_
  refine ss_iload_n dX7_mix_1 1 rfl ?_
  refine ss_callV (As := [_]) (i := 0) dX7_mix_2 vlX7_113 clX7_isWorth rfl rfl (by omega) (sh_r0 _ _) rfl (Nat.le_of_ble_eq_true rfl) (Nat.le_of_ble_eq_true rfl) (q_isWorth hm h7) ?_
  refine sy_if_ne 12 dX7_mix_5 (by decide) (fun c5 => ?_) (fun c5 => by first | exact kd_tf (hwj) c5 | exact kd_ft (hwj) c5 | exact absurd (hwj) c5 | exact absurd c5 (hwj))
  refine ss_iload_n dX7_mix_12 2 rfl ?_
  refine ss_i2l dX7_mix_13 ?_
  refine ss_lconst (v := 0) dX7_mix_14 (by decide) ?_
  refine ss_ldc2 dX7_mix_15 kcX7_291 ?_
  refine ss_callS (As := [_, _, _]) dX7_mix_18 vlX7_53 clX7_isWithin rfl rfl (Nat.le_of_ble_eq_true rfl) (Nat.le_of_ble_eq_true rfl) (q_isWithin) ?_
  refine sy_if_eq 36 dX7_mix_21 (by decide) (fun c21 => by first | exact kd_tf (by rw [wi_ix (n := 1001) rfl]; exact hf) c21 | exact kd_ft (by rw [wi_ix (n := 1001) rfl]; exact hf) c21 | exact absurd (by rw [wi_ix (n := 1001) rfl]; exact hf) c21 | exact absurd c21 (by rw [wi_ix (n := 1001) rfl]; exact hf)) (fun c21 => ?_)
  refine ss_iload_n dX7_mix_24 3 rfl ?_
  refine ss_i2l dX7_mix_25 ?_
  refine ss_lconst (v := 0) dX7_mix_26 (by decide) ?_
  refine ss_ldc2 dX7_mix_27 kcX7_291 ?_
  refine ss_callS (As := [_, _, _]) dX7_mix_30 vlX7_53 clX7_isWithin rfl rfl (Nat.le_of_ble_eq_true rfl) (Nat.le_of_ble_eq_true rfl) (q_isWithin) ?_
  refine sy_if_ne 40 dX7_mix_33 (by decide) (fun c33 => ?_) (fun c33 => by first | exact kd_tf (by rw [wi_ix (n := 1001) rfl]; exact hg) c33 | exact kd_ft (by rw [wi_ix (n := 1001) rfl]; exact hg) c33 | exact absurd (by rw [wi_ix (n := 1001) rfl]; exact hg) c33 | exact absurd c33 (by rw [wi_ix (n := 1001) rfl]; exact hg))
  refine ss_iload_n dX7_mix_40 2 rfl ?_
  refine ss_if_ne 52 dX7_mix_41 (by decide) (fun c41 => ?_) (fun c41 => by first | exact kd_tf (hz) c41 | exact kd_ft (hz) c41 | exact absurd (hz) c41 | exact absurd c41 (hz))
  refine ss_aload_n dX7_mix_52 0 rfl ?_
  refine ss_get (i := 0) dX7_mix_53 flX7_47 (by omega) (sh_r0 _ _) rfl ?_
  refine ss_aload_n dX7_mix_56 0 rfl ?_
  refine ss_get (i := 0) dX7_mix_57 flX7_11 (by omega) (sh_r0 _ _) rfl ?_
  refine ss_iload_n dX7_mix_60 1 rfl ?_
  refine ss_worth (w := j) dX7_mix_61 hj ?_
  refine ss_callV (As := [_]) (i := 101) dX7_mix_62 vlX7_285 clX4_findCorner rfl rfl (by omega) (sh_r101 _ _) rfl (Nat.le_of_ble_eq_true rfl) (Nat.le_of_ble_eq_true rfl) (q_findCorner hj hn hs3 hr hr2) ?_
  refine ss_aload_n dX7_mix_65 0 rfl ?_
  refine ss_get (i := 0) dX7_mix_66 flX7_47 (by omega) (sh_r0 _ _) rfl ?_
  refine ss_iload_n dX7_mix_69 2 rfl ?_
  refine ss_iload_n dX7_mix_70 3 rfl ?_
  refine ss_callV (As := [_, _]) (i := 101) dX7_mix_71 vlX7_293 clX4_isLargeBlend rfl rfl (by omega) (sh_r101 _ _) rfl (Nat.le_of_ble_eq_true rfl) (Nat.le_of_ble_eq_true rfl) (q_isLargeBlend hn hs3) ?_
  refine sy_if_eq 81 dX7_mix_74 (by decide) (fun c74 => by first | exact kd_tf (hl) c74 | exact kd_ft (hl) c74 | exact absurd (hl) c74 | exact absurd c74 (hl)) (fun c74 => ?_)
  refine ss_sipush (v := -1005) dX7_mix_77 (by decide) ?_
  exact ss_iret dX7_mix_80 rfl rfl (hQ)
set_option maxHeartbeats 4000000 in
set_option maxRecDepth 100000 in
theorem c_mix_ka {c : cx} {d : Nat} {X : nX} {Y : nY} {n : Nat} (hn : n ≤ 10) (h6 : X 0 6 = nI n) {m : Nat} (hm : m ≤ 12) (h7 : X 0 7 = nI m) {j : Nat} (hjm : j < m) (hs3 : X 101 3 = nI n) {r : Nat → Nat} (hr : ∀ k, k < n → X 102 k = nI (r k)) (hr2 : ∀ k, k < n → r k < 10) {f g : Int32} (hf : ix f 1001 = true) (hg : ix g 1001 = true) (hz : ¬ f = 0) (hl : (decide (1000000 < X 101 4 * f + g) || lany (p_bl (srw Y 104 (cor (Y (3 + 7 * j)) r (Y 104) n)) f g) n) = false) : sc c mX7_mix (d + 4) [.ref (c_ad c 0), .int (nI j), .int f, .int g] (X) (Y) (some (.int (X 101 4 * f + g))) (up2 X 101 4 (X 101 4 * f + g)) (mpl (srw Y 104 (cor (Y (3 + 7 * j)) r (Y 104) n)) 103 0 n (f_bl (srw Y 104 (cor (Y (3 + 7 * j)) r (Y 104) n)) f g)) := by
  intro Q hQ
  show ss c mX7_mix (d + 4) Q 0 [(0, .ref (c_ad c 0)), (1, .int (nI j)), (2, .int f), (3, .int g)] [] (X) (Y)
  have hj : j < 12 := by omega
  have hwj : ix (nI j) m = true := ix_of hjm (by omega)
  refine ss_aload_n dX7_mix_0 0 rfl ?_
  refine ss_iload_n dX7_mix_1 1 rfl ?_
  refine ss_callV (As := [_]) (i := 0) dX7_mix_2 vlX7_113 clX7_isWorth rfl rfl (by omega) (sh_r0 _ _) rfl (Nat.le_of_ble_eq_true rfl) (Nat.le_of_ble_eq_true rfl) (q_isWorth hm h7) ?_
  refine sy_if_ne 12 dX7_mix_5 (by decide) (fun c5 => ?_) (fun c5 => by first | exact kd_tf (hwj) c5 | exact kd_ft (hwj) c5 | exact absurd (hwj) c5 | exact absurd c5 (hwj))
  refine ss_iload_n dX7_mix_12 2 rfl ?_
  refine ss_i2l dX7_mix_13 ?_
  refine ss_lconst (v := 0) dX7_mix_14 (by decide) ?_
  refine ss_ldc2 dX7_mix_15 kcX7_291 ?_
  refine ss_callS (As := [_, _, _]) dX7_mix_18 vlX7_53 clX7_isWithin rfl rfl (Nat.le_of_ble_eq_true rfl) (Nat.le_of_ble_eq_true rfl) (q_isWithin) ?_
  refine sy_if_eq 36 dX7_mix_21 (by decide) (fun c21 => by first | exact kd_tf (by rw [wi_ix (n := 1001) rfl]; exact hf) c21 | exact kd_ft (by rw [wi_ix (n := 1001) rfl]; exact hf) c21 | exact absurd (by rw [wi_ix (n := 1001) rfl]; exact hf) c21 | exact absurd c21 (by rw [wi_ix (n := 1001) rfl]; exact hf)) (fun c21 => ?_)
  refine ss_iload_n dX7_mix_24 3 rfl ?_
  refine ss_i2l dX7_mix_25 ?_
  refine ss_lconst (v := 0) dX7_mix_26 (by decide) ?_
  refine ss_ldc2 dX7_mix_27 kcX7_291 ?_
  refine ss_callS (As := [_, _, _]) dX7_mix_30 vlX7_53 clX7_isWithin rfl rfl (Nat.le_of_ble_eq_true rfl) (Nat.le_of_ble_eq_true rfl) (q_isWithin) ?_
  refine sy_if_ne 40 dX7_mix_33 (by decide) (fun c33 => ?_) (fun c33 => by first | exact kd_tf (by rw [wi_ix (n := 1001) rfl]; exact hg) c33 | exact kd_ft (by rw [wi_ix (n := 1001) rfl]; exact hg) c33 | exact absurd (by rw [wi_ix (n := 1001) rfl]; exact hg) c33 | exact absurd c33 (by rw [wi_ix (n := 1001) rfl]; exact hg))
  refine ss_iload_n dX7_mix_40 2 rfl ?_
  refine ss_if_ne 52 dX7_mix_41 (by decide) (fun c41 => ?_) (fun c41 => by first | exact kd_tf (hz) c41 | exact kd_ft (hz) c41 | exact absurd (hz) c41 | exact absurd c41 (hz))
  refine ss_aload_n dX7_mix_52 0 rfl ?_
  refine ss_get (i := 0) dX7_mix_53 flX7_47 (by omega) (sh_r0 _ _) rfl ?_
  refine ss_aload_n dX7_mix_56 0 rfl ?_
  refine ss_get (i := 0) dX7_mix_57 flX7_11 (by omega) (sh_r0 _ _) rfl ?_
  refine ss_iload_n dX7_mix_60 1 rfl ?_
  refine ss_worth (w := j) dX7_mix_61 hj ?_
  refine ss_callV (As := [_]) (i := 101) dX7_mix_62 vlX7_285 clX4_findCorner rfl rfl (by omega) (sh_r101 _ _) rfl (Nat.le_of_ble_eq_true rfl) (Nat.le_of_ble_eq_true rfl) (q_findCorner hj hn hs3 hr hr2) ?_
  refine ss_aload_n dX7_mix_65 0 rfl ?_
  refine ss_get (i := 0) dX7_mix_66 flX7_47 (by omega) (sh_r0 _ _) rfl ?_
  refine ss_iload_n dX7_mix_69 2 rfl ?_
  refine ss_iload_n dX7_mix_70 3 rfl ?_
  refine ss_callV (As := [_, _]) (i := 101) dX7_mix_71 vlX7_293 clX4_isLargeBlend rfl rfl (by omega) (sh_r101 _ _) rfl (Nat.le_of_ble_eq_true rfl) (Nat.le_of_ble_eq_true rfl) (q_isLargeBlend hn hs3) ?_
  refine sy_if_eq 81 dX7_mix_74 (by decide) (fun c74 => ?_) (fun c74 => by first | exact kd_tf (hl) c74 | exact kd_ft (hl) c74 | exact absurd (hl) c74 | exact absurd c74 (hl))
  refine ss_aload_n dX7_mix_81 0 rfl ?_
  refine ss_get (i := 0) dX7_mix_82 flX7_47 (by omega) (sh_r0 _ _) rfl ?_
  refine ss_iload_n dX7_mix_85 2 rfl ?_
  refine ss_iload_n dX7_mix_86 3 rfl ?_
  refine ss_callV (As := [_, _]) (i := 101) dX7_mix_87 vlX7_288 clX4_blend rfl rfl (by omega) (sh_r101 _ _) rfl (Nat.le_of_ble_eq_true rfl) (Nat.le_of_ble_eq_true rfl) (q_blend hn hs3) ?_
  refine ss_aload_n dX7_mix_90 0 rfl ?_
  refine ss_get (i := 0) dX7_mix_91 flX7_47 (by omega) (sh_r0 _ _) rfl ?_
  refine ss_get (i := 101) dX7_mix_94 flX7_296 (by omega) (sh_r101 _ _) rfl ?_
  rw [up2_at, if_pos ⟨rfl, rfl⟩]
  exact ss_iret dX7_mix_97 rfl rfl (hQ)
set_option maxHeartbeats 4000000 in
set_option maxRecDepth 100000 in
theorem c_mix_lb {c : cx} {d : Nat} {X : nX} {Y : nY} {n : Nat} (hn : n ≤ 10) (h6 : X 0 6 = nI n) {m : Nat} (hm : m ≤ 12) (h7 : X 0 7 = nI m) {j : Nat} (hjm : j < m) (hs3 : X 101 3 = nI n) {r : Nat → Nat} (hr : ∀ k, k < n → X 102 k = nI (r k)) (hr2 : ∀ k, k < n → r k < 10) {f g : Int32} (hf : ix f 1001 = true) (hg : ix g 1001 = true) (hz : f = 0) (hz2 : ¬ g = 0) (hl : (decide (1000000 < X 101 4 * f + g) || lany (p_bl (srw Y 104 (cor (Y (3 + 7 * j)) r (Y 104) n)) f g) n) = true) : sc c mX7_mix (d + 4) [.ref (c_ad c 0), .int (nI j), .int f, .int g] (X) (Y) (some (.int (-1005))) (X) (srw Y 104 (cor (Y (3 + 7 * j)) r (Y 104) n)) := by
  intro Q hQ
  show ss c mX7_mix (d + 4) Q 0 [(0, .ref (c_ad c 0)), (1, .int (nI j)), (2, .int f), (3, .int g)] [] (X) (Y)
  have hj : j < 12 := by omega
  have hwj : ix (nI j) m = true := ix_of hjm (by omega)
  refine ss_aload_n dX7_mix_0 0 rfl ?_
  refine ss_iload_n dX7_mix_1 1 rfl ?_
  refine ss_callV (As := [_]) (i := 0) dX7_mix_2 vlX7_113 clX7_isWorth rfl rfl (by omega) (sh_r0 _ _) rfl (Nat.le_of_ble_eq_true rfl) (Nat.le_of_ble_eq_true rfl) (q_isWorth hm h7) ?_
  refine sy_if_ne 12 dX7_mix_5 (by decide) (fun c5 => ?_) (fun c5 => by first | exact kd_tf (hwj) c5 | exact kd_ft (hwj) c5 | exact absurd (hwj) c5 | exact absurd c5 (hwj))
  refine ss_iload_n dX7_mix_12 2 rfl ?_
  refine ss_i2l dX7_mix_13 ?_
  refine ss_lconst (v := 0) dX7_mix_14 (by decide) ?_
  refine ss_ldc2 dX7_mix_15 kcX7_291 ?_
  refine ss_callS (As := [_, _, _]) dX7_mix_18 vlX7_53 clX7_isWithin rfl rfl (Nat.le_of_ble_eq_true rfl) (Nat.le_of_ble_eq_true rfl) (q_isWithin) ?_
  refine sy_if_eq 36 dX7_mix_21 (by decide) (fun c21 => by first | exact kd_tf (by rw [wi_ix (n := 1001) rfl]; exact hf) c21 | exact kd_ft (by rw [wi_ix (n := 1001) rfl]; exact hf) c21 | exact absurd (by rw [wi_ix (n := 1001) rfl]; exact hf) c21 | exact absurd c21 (by rw [wi_ix (n := 1001) rfl]; exact hf)) (fun c21 => ?_)
  refine ss_iload_n dX7_mix_24 3 rfl ?_
  refine ss_i2l dX7_mix_25 ?_
  refine ss_lconst (v := 0) dX7_mix_26 (by decide) ?_
  refine ss_ldc2 dX7_mix_27 kcX7_291 ?_
  refine ss_callS (As := [_, _, _]) dX7_mix_30 vlX7_53 clX7_isWithin rfl rfl (Nat.le_of_ble_eq_true rfl) (Nat.le_of_ble_eq_true rfl) (q_isWithin) ?_
  refine sy_if_ne 40 dX7_mix_33 (by decide) (fun c33 => ?_) (fun c33 => by first | exact kd_tf (by rw [wi_ix (n := 1001) rfl]; exact hg) c33 | exact kd_ft (by rw [wi_ix (n := 1001) rfl]; exact hg) c33 | exact absurd (by rw [wi_ix (n := 1001) rfl]; exact hg) c33 | exact absurd c33 (by rw [wi_ix (n := 1001) rfl]; exact hg))
  refine ss_iload_n dX7_mix_40 2 rfl ?_
  refine ss_if_ne 52 dX7_mix_41 (by decide) (fun c41 => by first | exact kd_tf (hz) c41 | exact kd_ft (hz) c41 | exact absurd (hz) c41 | exact absurd c41 (hz)) (fun c41 => ?_)
  refine ss_iload_n dX7_mix_44 3 rfl ?_
  refine ss_if_ne 52 dX7_mix_45 (by decide) (fun c45 => ?_) (fun c45 => by first | exact kd_tf (hz2) c45 | exact kd_ft (hz2) c45 | exact absurd (hz2) c45 | exact absurd c45 (hz2))
  refine ss_aload_n dX7_mix_52 0 rfl ?_
  refine ss_get (i := 0) dX7_mix_53 flX7_47 (by omega) (sh_r0 _ _) rfl ?_
  refine ss_aload_n dX7_mix_56 0 rfl ?_
  refine ss_get (i := 0) dX7_mix_57 flX7_11 (by omega) (sh_r0 _ _) rfl ?_
  refine ss_iload_n dX7_mix_60 1 rfl ?_
  refine ss_worth (w := j) dX7_mix_61 hj ?_
  refine ss_callV (As := [_]) (i := 101) dX7_mix_62 vlX7_285 clX4_findCorner rfl rfl (by omega) (sh_r101 _ _) rfl (Nat.le_of_ble_eq_true rfl) (Nat.le_of_ble_eq_true rfl) (q_findCorner hj hn hs3 hr hr2) ?_
  refine ss_aload_n dX7_mix_65 0 rfl ?_
  refine ss_get (i := 0) dX7_mix_66 flX7_47 (by omega) (sh_r0 _ _) rfl ?_
  refine ss_iload_n dX7_mix_69 2 rfl ?_
  refine ss_iload_n dX7_mix_70 3 rfl ?_
  refine ss_callV (As := [_, _]) (i := 101) dX7_mix_71 vlX7_293 clX4_isLargeBlend rfl rfl (by omega) (sh_r101 _ _) rfl (Nat.le_of_ble_eq_true rfl) (Nat.le_of_ble_eq_true rfl) (q_isLargeBlend hn hs3) ?_
  refine sy_if_eq 81 dX7_mix_74 (by decide) (fun c74 => by first | exact kd_tf (hl) c74 | exact kd_ft (hl) c74 | exact absurd (hl) c74 | exact absurd c74 (hl)) (fun c74 => ?_)
  refine ss_sipush (v := -1005) dX7_mix_77 (by decide) ?_
  exact ss_iret dX7_mix_80 rfl rfl (hQ)
set_option maxHeartbeats 4000000 in
set_option maxRecDepth 100000 in
theorem c_mix_kb {c : cx} {d : Nat} {X : nX} {Y : nY} {n : Nat} (hn : n ≤ 10) (h6 : X 0 6 = nI n) {m : Nat} (hm : m ≤ 12) (h7 : X 0 7 = nI m) {j : Nat} (hjm : j < m) (hs3 : X 101 3 = nI n) {r : Nat → Nat} (hr : ∀ k, k < n → X 102 k = nI (r k)) (hr2 : ∀ k, k < n → r k < 10) {f g : Int32} (hf : ix f 1001 = true) (hg : ix g 1001 = true) (hz : f = 0) (hz2 : ¬ g = 0) (hl : (decide (1000000 < X 101 4 * f + g) || lany (p_bl (srw Y 104 (cor (Y (3 + 7 * j)) r (Y 104) n)) f g) n) = false) : sc c mX7_mix (d + 4) [.ref (c_ad c 0), .int (nI j), .int f, .int g] (X) (Y) (some (.int (X 101 4 * f + g))) (up2 X 101 4 (X 101 4 * f + g)) (mpl (srw Y 104 (cor (Y (3 + 7 * j)) r (Y 104) n)) 103 0 n (f_bl (srw Y 104 (cor (Y (3 + 7 * j)) r (Y 104) n)) f g)) := by
  intro Q hQ
  show ss c mX7_mix (d + 4) Q 0 [(0, .ref (c_ad c 0)), (1, .int (nI j)), (2, .int f), (3, .int g)] [] (X) (Y)
  have hj : j < 12 := by omega
  have hwj : ix (nI j) m = true := ix_of hjm (by omega)
  refine ss_aload_n dX7_mix_0 0 rfl ?_
  refine ss_iload_n dX7_mix_1 1 rfl ?_
  refine ss_callV (As := [_]) (i := 0) dX7_mix_2 vlX7_113 clX7_isWorth rfl rfl (by omega) (sh_r0 _ _) rfl (Nat.le_of_ble_eq_true rfl) (Nat.le_of_ble_eq_true rfl) (q_isWorth hm h7) ?_
  refine sy_if_ne 12 dX7_mix_5 (by decide) (fun c5 => ?_) (fun c5 => by first | exact kd_tf (hwj) c5 | exact kd_ft (hwj) c5 | exact absurd (hwj) c5 | exact absurd c5 (hwj))
  refine ss_iload_n dX7_mix_12 2 rfl ?_
  refine ss_i2l dX7_mix_13 ?_
  refine ss_lconst (v := 0) dX7_mix_14 (by decide) ?_
  refine ss_ldc2 dX7_mix_15 kcX7_291 ?_
  refine ss_callS (As := [_, _, _]) dX7_mix_18 vlX7_53 clX7_isWithin rfl rfl (Nat.le_of_ble_eq_true rfl) (Nat.le_of_ble_eq_true rfl) (q_isWithin) ?_
  refine sy_if_eq 36 dX7_mix_21 (by decide) (fun c21 => by first | exact kd_tf (by rw [wi_ix (n := 1001) rfl]; exact hf) c21 | exact kd_ft (by rw [wi_ix (n := 1001) rfl]; exact hf) c21 | exact absurd (by rw [wi_ix (n := 1001) rfl]; exact hf) c21 | exact absurd c21 (by rw [wi_ix (n := 1001) rfl]; exact hf)) (fun c21 => ?_)
  refine ss_iload_n dX7_mix_24 3 rfl ?_
  refine ss_i2l dX7_mix_25 ?_
  refine ss_lconst (v := 0) dX7_mix_26 (by decide) ?_
  refine ss_ldc2 dX7_mix_27 kcX7_291 ?_
  refine ss_callS (As := [_, _, _]) dX7_mix_30 vlX7_53 clX7_isWithin rfl rfl (Nat.le_of_ble_eq_true rfl) (Nat.le_of_ble_eq_true rfl) (q_isWithin) ?_
  refine sy_if_ne 40 dX7_mix_33 (by decide) (fun c33 => ?_) (fun c33 => by first | exact kd_tf (by rw [wi_ix (n := 1001) rfl]; exact hg) c33 | exact kd_ft (by rw [wi_ix (n := 1001) rfl]; exact hg) c33 | exact absurd (by rw [wi_ix (n := 1001) rfl]; exact hg) c33 | exact absurd c33 (by rw [wi_ix (n := 1001) rfl]; exact hg))
  refine ss_iload_n dX7_mix_40 2 rfl ?_
  refine ss_if_ne 52 dX7_mix_41 (by decide) (fun c41 => by first | exact kd_tf (hz) c41 | exact kd_ft (hz) c41 | exact absurd (hz) c41 | exact absurd c41 (hz)) (fun c41 => ?_)
  refine ss_iload_n dX7_mix_44 3 rfl ?_
  refine ss_if_ne 52 dX7_mix_45 (by decide) (fun c45 => ?_) (fun c45 => by first | exact kd_tf (hz2) c45 | exact kd_ft (hz2) c45 | exact absurd (hz2) c45 | exact absurd c45 (hz2))
  refine ss_aload_n dX7_mix_52 0 rfl ?_
  refine ss_get (i := 0) dX7_mix_53 flX7_47 (by omega) (sh_r0 _ _) rfl ?_
  refine ss_aload_n dX7_mix_56 0 rfl ?_
  refine ss_get (i := 0) dX7_mix_57 flX7_11 (by omega) (sh_r0 _ _) rfl ?_
  refine ss_iload_n dX7_mix_60 1 rfl ?_
  refine ss_worth (w := j) dX7_mix_61 hj ?_
  refine ss_callV (As := [_]) (i := 101) dX7_mix_62 vlX7_285 clX4_findCorner rfl rfl (by omega) (sh_r101 _ _) rfl (Nat.le_of_ble_eq_true rfl) (Nat.le_of_ble_eq_true rfl) (q_findCorner hj hn hs3 hr hr2) ?_
  refine ss_aload_n dX7_mix_65 0 rfl ?_
  refine ss_get (i := 0) dX7_mix_66 flX7_47 (by omega) (sh_r0 _ _) rfl ?_
  refine ss_iload_n dX7_mix_69 2 rfl ?_
  refine ss_iload_n dX7_mix_70 3 rfl ?_
  refine ss_callV (As := [_, _]) (i := 101) dX7_mix_71 vlX7_293 clX4_isLargeBlend rfl rfl (by omega) (sh_r101 _ _) rfl (Nat.le_of_ble_eq_true rfl) (Nat.le_of_ble_eq_true rfl) (q_isLargeBlend hn hs3) ?_
  refine sy_if_eq 81 dX7_mix_74 (by decide) (fun c74 => ?_) (fun c74 => by first | exact kd_tf (hl) c74 | exact kd_ft (hl) c74 | exact absurd (hl) c74 | exact absurd c74 (hl))
  refine ss_aload_n dX7_mix_81 0 rfl ?_
  refine ss_get (i := 0) dX7_mix_82 flX7_47 (by omega) (sh_r0 _ _) rfl ?_
  refine ss_iload_n dX7_mix_85 2 rfl ?_
  refine ss_iload_n dX7_mix_86 3 rfl ?_
  refine ss_callV (As := [_, _]) (i := 101) dX7_mix_87 vlX7_288 clX4_blend rfl rfl (by omega) (sh_r101 _ _) rfl (Nat.le_of_ble_eq_true rfl) (Nat.le_of_ble_eq_true rfl) (q_blend hn hs3) ?_
  refine ss_aload_n dX7_mix_90 0 rfl ?_
  refine ss_get (i := 0) dX7_mix_91 flX7_47 (by omega) (sh_r0 _ _) rfl ?_
  refine ss_get (i := 101) dX7_mix_94 flX7_296 (by omega) (sh_r101 _ _) rfl ?_
  rw [up2_at, if_pos ⟨rfl, rfl⟩]
  exact ss_iret dX7_mix_97 rfl rfl (hQ)
