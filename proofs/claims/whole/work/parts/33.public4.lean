set_option maxHeartbeats 4000000 in
set_option maxRecDepth 100000 in
theorem c_count_o {c : cx} {d : Nat} {X : nX} {Y : nY} {i w : Int32} (hi : ix i 7 = false) : sc c mX7_count (d + 2) [.ref (c_ad c 0), .int i, .int w] (X) (Y) (some (.int (-1002))) (X) (Y) := by
  intro Q hQ
  show ss c mX7_count (d + 2) Q 0 [(0, .ref (c_ad c 0)), (1, .int i), (2, .int w)] [] (X) (Y)
  refine ss_iload_n dX7_count_0 1 rfl ?_
  refine ss_i2l dX7_count_1 ?_
  refine ss_lconst (v := 0) dX7_count_2 (by decide) ?_
  refine ss_ldc2 dX7_count_3 kcX7_135 ?_
  refine ss_callS (As := [_, _, _]) dX7_count_6 vlX7_53 clX7_isWithin rfl rfl (Nat.le_of_ble_eq_true rfl) (Nat.le_of_ble_eq_true rfl) (q_isWithin) ?_
  refine sy_if_ne 16 dX7_count_9 (by decide) (fun c9 => by first | exact kd_tf (by rw [wi_ix (n := 7) rfl]; exact hi) c9 | exact kd_ft (by rw [wi_ix (n := 7) rfl]; exact hi) c9 | exact absurd (by rw [wi_ix (n := 7) rfl]; exact hi) c9 | exact absurd c9 (by rw [wi_ix (n := 7) rfl]; exact hi)) (fun c9 => ?_)
  refine ss_sipush (v := -1002) dX7_count_12 (by decide) ?_
  exact ss_iret dX7_count_15 rfl rfl (hQ)
set_option maxHeartbeats 4000000 in
set_option maxRecDepth 100000 in
theorem c_count_0 {c : cx} {d : Nat} {X : nX} {Y : nY} {w : Int32} : sc c mX7_count (d + 2) [.ref (c_ad c 0), .int (nI 0), .int w] (X) (Y) (some (.int (X 0 6))) (X) (Y) := by
  intro Q hQ
  show ss c mX7_count (d + 2) Q 0 [(0, .ref (c_ad c 0)), (1, .int (nI 0)), (2, .int w)] [] (X) (Y)
  refine ss_iload_n dX7_count_0 1 rfl ?_
  refine ss_i2l dX7_count_1 ?_
  refine ss_lconst (v := 0) dX7_count_2 (by decide) ?_
  refine ss_ldc2 dX7_count_3 kcX7_135 ?_
  refine ss_callS (As := [_, _, _]) dX7_count_6 vlX7_53 clX7_isWithin rfl rfl (Nat.le_of_ble_eq_true rfl) (Nat.le_of_ble_eq_true rfl) (q_isWithin) ?_
  refine sy_if_ne 16 dX7_count_9 (by decide) (fun c9 => ?_) (fun c9 => by first | exact kd_tf (by rw [wi_ix (n := 7) rfl]; exact ix_of (by decide) (by decide)) c9 | exact kd_ft (by rw [wi_ix (n := 7) rfl]; exact ix_of (by decide) (by decide)) c9 | exact absurd (by rw [wi_ix (n := 7) rfl]; exact ix_of (by decide) (by decide)) c9 | exact absurd c9 (by rw [wi_ix (n := 7) rfl]; exact ix_of (by decide) (by decide)))
  refine ss_iload_n dX7_count_16 1 rfl ?_
  refine sz_if_ne 25 dX7_count_17 (by decide) (by omega) (fun c17 => by omega) (fun c17 => ?_)
  refine ss_aload_n dX7_count_20 0 rfl ?_
  refine ss_get (i := 0) dX7_count_21 flX7_61 (by omega) (sh_r0 _ _) rfl ?_
  exact ss_iret dX7_count_24 rfl rfl (hQ)
set_option maxHeartbeats 4000000 in
set_option maxRecDepth 100000 in
theorem c_count_1 {c : cx} {d : Nat} {X : nX} {Y : nY} {w : Int32} : sc c mX7_count (d + 2) [.ref (c_ad c 0), .int (nI 1), .int w] (X) (Y) (some (.int (X 0 7))) (X) (Y) := by
  intro Q hQ
  show ss c mX7_count (d + 2) Q 0 [(0, .ref (c_ad c 0)), (1, .int (nI 1)), (2, .int w)] [] (X) (Y)
  refine ss_iload_n dX7_count_0 1 rfl ?_
  refine ss_i2l dX7_count_1 ?_
  refine ss_lconst (v := 0) dX7_count_2 (by decide) ?_
  refine ss_ldc2 dX7_count_3 kcX7_135 ?_
  refine ss_callS (As := [_, _, _]) dX7_count_6 vlX7_53 clX7_isWithin rfl rfl (Nat.le_of_ble_eq_true rfl) (Nat.le_of_ble_eq_true rfl) (q_isWithin) ?_
  refine sy_if_ne 16 dX7_count_9 (by decide) (fun c9 => ?_) (fun c9 => by first | exact kd_tf (by rw [wi_ix (n := 7) rfl]; exact ix_of (by decide) (by decide)) c9 | exact kd_ft (by rw [wi_ix (n := 7) rfl]; exact ix_of (by decide) (by decide)) c9 | exact absurd (by rw [wi_ix (n := 7) rfl]; exact ix_of (by decide) (by decide)) c9 | exact absurd c9 (by rw [wi_ix (n := 7) rfl]; exact ix_of (by decide) (by decide)))
  refine ss_iload_n dX7_count_16 1 rfl ?_
  refine sz_if_ne 25 dX7_count_17 (by decide) (by omega) (fun c17 => ?_) (fun c17 => by omega)
  refine ss_iload_n dX7_count_25 1 rfl ?_
  refine ss_iconst (v := nI 1) dX7_count_26 (by decide) ?_
  refine sz_icmp_ne 35 dX7_count_27 (by decide) (by omega) (by omega) (fun c27 => by omega) (fun c27 => ?_)
  refine ss_aload_n dX7_count_30 0 rfl ?_
  refine ss_get (i := 0) dX7_count_31 flX7_57 (by omega) (sh_r0 _ _) rfl ?_
  exact ss_iret dX7_count_34 rfl rfl (hQ)
set_option maxHeartbeats 4000000 in
set_option maxRecDepth 100000 in
theorem c_count_u {c : cx} {d : Nat} {X : nX} {Y : nY} {m : Nat} (hm : m ≤ 12) (h7 : X 0 7 = nI m) {w : Int32} {k : Nat} (hk : 2 ≤ k) (hk7 : k < 7) (hw : ix w m = false) : sc c mX7_count (d + 2) [.ref (c_ad c 0), .int (nI k), .int w] (X) (Y) (some (.int (-1001))) (X) (Y) := by
  intro Q hQ
  show ss c mX7_count (d + 2) Q 0 [(0, .ref (c_ad c 0)), (1, .int (nI k)), (2, .int w)] [] (X) (Y)
  refine ss_iload_n dX7_count_0 1 rfl ?_
  refine ss_i2l dX7_count_1 ?_
  refine ss_lconst (v := 0) dX7_count_2 (by decide) ?_
  refine ss_ldc2 dX7_count_3 kcX7_135 ?_
  refine ss_callS (As := [_, _, _]) dX7_count_6 vlX7_53 clX7_isWithin rfl rfl (Nat.le_of_ble_eq_true rfl) (Nat.le_of_ble_eq_true rfl) (q_isWithin) ?_
  refine sy_if_ne 16 dX7_count_9 (by decide) (fun c9 => ?_) (fun c9 => by first | exact kd_tf (by rw [wi_ix (n := 7) rfl]; exact ix_of hk7 (by decide)) c9 | exact kd_ft (by rw [wi_ix (n := 7) rfl]; exact ix_of hk7 (by decide)) c9 | exact absurd (by rw [wi_ix (n := 7) rfl]; exact ix_of hk7 (by decide)) c9 | exact absurd c9 (by rw [wi_ix (n := 7) rfl]; exact ix_of hk7 (by decide)))
  refine ss_iload_n dX7_count_16 1 rfl ?_
  refine sz_if_ne 25 dX7_count_17 (by decide) (by omega) (fun c17 => ?_) (fun c17 => by omega)
  refine ss_iload_n dX7_count_25 1 rfl ?_
  refine ss_iconst (v := nI 1) dX7_count_26 (by decide) ?_
  refine sz_icmp_ne 35 dX7_count_27 (by decide) (by omega) (by omega) (fun c27 => ?_) (fun c27 => by omega)
  refine ss_aload_n dX7_count_35 0 rfl ?_
  refine ss_iload_n dX7_count_36 2 rfl ?_
  refine ss_callV (As := [_]) (i := 0) dX7_count_37 vlX7_113 clX7_isWorth rfl rfl (by omega) (sh_r0 _ _) rfl (Nat.le_of_ble_eq_true rfl) (Nat.le_of_ble_eq_true rfl) (q_isWorth hm h7) ?_
  refine sy_if_ne 47 dX7_count_40 (by decide) (fun c40 => by first | exact kd_tf (hw) c40 | exact kd_ft (hw) c40 | exact absurd (hw) c40 | exact absurd c40 (hw)) (fun c40 => ?_)
  refine ss_sipush (v := -1001) dX7_count_43 (by decide) ?_
  exact ss_iret dX7_count_46 rfl rfl (hQ)
set_option maxHeartbeats 4000000 in
set_option maxRecDepth 100000 in
theorem c_count_2 {c : cx} {d : Nat} {X : nX} {Y : nY} {m : Nat} (hm : m ≤ 12) (h7 : X 0 7 = nI m) {j : Nat} (hjm : j < m) : sc c mX7_count (d + 2) [.ref (c_ad c 0), .int (nI 2), .int (nI j)] (X) (Y) (some (.int (if X (2 + 7 * j) 5 = nI 1 then X (2 + 7 * j) 8 else 0))) (X) (Y) := by
  intro Q hQ
  show ss c mX7_count (d + 2) Q 0 [(0, .ref (c_ad c 0)), (1, .int (nI 2)), (2, .int (nI j))] [] (X) (Y)
  have hj : j < 12 := by omega
  have hwj : ix (nI j) m = true := ix_of hjm (by omega)
  refine ss_iload_n dX7_count_0 1 rfl ?_
  refine ss_i2l dX7_count_1 ?_
  refine ss_lconst (v := 0) dX7_count_2 (by decide) ?_
  refine ss_ldc2 dX7_count_3 kcX7_135 ?_
  refine ss_callS (As := [_, _, _]) dX7_count_6 vlX7_53 clX7_isWithin rfl rfl (Nat.le_of_ble_eq_true rfl) (Nat.le_of_ble_eq_true rfl) (q_isWithin) ?_
  refine sy_if_ne 16 dX7_count_9 (by decide) (fun c9 => ?_) (fun c9 => by first | exact kd_tf (by rw [wi_ix (n := 7) rfl]; exact ix_of (by decide) (by decide)) c9 | exact kd_ft (by rw [wi_ix (n := 7) rfl]; exact ix_of (by decide) (by decide)) c9 | exact absurd (by rw [wi_ix (n := 7) rfl]; exact ix_of (by decide) (by decide)) c9 | exact absurd c9 (by rw [wi_ix (n := 7) rfl]; exact ix_of (by decide) (by decide)))
  refine ss_iload_n dX7_count_16 1 rfl ?_
  refine sz_if_ne 25 dX7_count_17 (by decide) (by omega) (fun c17 => ?_) (fun c17 => by omega)
  refine ss_iload_n dX7_count_25 1 rfl ?_
  refine ss_iconst (v := nI 1) dX7_count_26 (by decide) ?_
  refine sz_icmp_ne 35 dX7_count_27 (by decide) (by omega) (by omega) (fun c27 => ?_) (fun c27 => by omega)
  refine ss_aload_n dX7_count_35 0 rfl ?_
  refine ss_iload_n dX7_count_36 2 rfl ?_
  refine ss_callV (As := [_]) (i := 0) dX7_count_37 vlX7_113 clX7_isWorth rfl rfl (by omega) (sh_r0 _ _) rfl (Nat.le_of_ble_eq_true rfl) (Nat.le_of_ble_eq_true rfl) (q_isWorth hm h7) ?_
  refine sy_if_ne 47 dX7_count_40 (by decide) (fun c40 => ?_) (fun c40 => by first | exact kd_tf (hwj) c40 | exact kd_ft (hwj) c40 | exact absurd (hwj) c40 | exact absurd c40 (hwj))
  refine ss_aload_n dX7_count_47 0 rfl ?_
  refine ss_get (i := 0) dX7_count_48 flX7_11 (by omega) (sh_r0 _ _) rfl ?_
  refine ss_iload_n dX7_count_51 2 rfl ?_
  refine ss_worth (w := j) dX7_count_52 hj ?_
  refine ss_astore_n (lv' := [(3, _), (0, _), (1, _), (2, _)]) dX7_count_53 (by decide) rfl ?_
  refine ss_iload_n dX7_count_54 2 rfl ?_
  refine ss_tableIn (off := 29) 84 dX7_count_55 (by decide) (by decide) (by decide) (by decide) ?_
  refine ss_aload_n dX7_count_84 0 rfl ?_
  refine ss_iconst (v := nI 1) dX7_count_85 (by decide) ?_
  refine ss_callV (As := [_]) (i := 2 + 7 * j) dX7_count_86 vlX7_137 clX6_piecesAs rfl rfl (by omega) (sh_w0 hj _ _) rfl (Nat.le_of_ble_eq_true rfl) (Nat.le_of_ble_eq_true rfl) (q_piecesAs hj) ?_
  exact ss_iret dX7_count_89 rfl rfl (hQ)
set_option maxHeartbeats 4000000 in
set_option maxRecDepth 100000 in
theorem c_count_3 {c : cx} {d : Nat} {X : nX} {Y : nY} {m : Nat} (hm : m ≤ 12) (h7 : X 0 7 = nI m) {j : Nat} (hjm : j < m) : sc c mX7_count (d + 2) [.ref (c_ad c 0), .int (nI 3), .int (nI j)] (X) (Y) (some (.int (if X (2 + 7 * j) 5 = nI 2 then X (2 + 7 * j) 8 else 0))) (X) (Y) := by
  intro Q hQ
  show ss c mX7_count (d + 2) Q 0 [(0, .ref (c_ad c 0)), (1, .int (nI 3)), (2, .int (nI j))] [] (X) (Y)
  have hj : j < 12 := by omega
  have hwj : ix (nI j) m = true := ix_of hjm (by omega)
  refine ss_iload_n dX7_count_0 1 rfl ?_
  refine ss_i2l dX7_count_1 ?_
  refine ss_lconst (v := 0) dX7_count_2 (by decide) ?_
  refine ss_ldc2 dX7_count_3 kcX7_135 ?_
  refine ss_callS (As := [_, _, _]) dX7_count_6 vlX7_53 clX7_isWithin rfl rfl (Nat.le_of_ble_eq_true rfl) (Nat.le_of_ble_eq_true rfl) (q_isWithin) ?_
  refine sy_if_ne 16 dX7_count_9 (by decide) (fun c9 => ?_) (fun c9 => by first | exact kd_tf (by rw [wi_ix (n := 7) rfl]; exact ix_of (by decide) (by decide)) c9 | exact kd_ft (by rw [wi_ix (n := 7) rfl]; exact ix_of (by decide) (by decide)) c9 | exact absurd (by rw [wi_ix (n := 7) rfl]; exact ix_of (by decide) (by decide)) c9 | exact absurd c9 (by rw [wi_ix (n := 7) rfl]; exact ix_of (by decide) (by decide)))
  refine ss_iload_n dX7_count_16 1 rfl ?_
  refine sz_if_ne 25 dX7_count_17 (by decide) (by omega) (fun c17 => ?_) (fun c17 => by omega)
  refine ss_iload_n dX7_count_25 1 rfl ?_
  refine ss_iconst (v := nI 1) dX7_count_26 (by decide) ?_
  refine sz_icmp_ne 35 dX7_count_27 (by decide) (by omega) (by omega) (fun c27 => ?_) (fun c27 => by omega)
  refine ss_aload_n dX7_count_35 0 rfl ?_
  refine ss_iload_n dX7_count_36 2 rfl ?_
  refine ss_callV (As := [_]) (i := 0) dX7_count_37 vlX7_113 clX7_isWorth rfl rfl (by omega) (sh_r0 _ _) rfl (Nat.le_of_ble_eq_true rfl) (Nat.le_of_ble_eq_true rfl) (q_isWorth hm h7) ?_
  refine sy_if_ne 47 dX7_count_40 (by decide) (fun c40 => ?_) (fun c40 => by first | exact kd_tf (hwj) c40 | exact kd_ft (hwj) c40 | exact absurd (hwj) c40 | exact absurd c40 (hwj))
  refine ss_aload_n dX7_count_47 0 rfl ?_
  refine ss_get (i := 0) dX7_count_48 flX7_11 (by omega) (sh_r0 _ _) rfl ?_
  refine ss_iload_n dX7_count_51 2 rfl ?_
  refine ss_worth (w := j) dX7_count_52 hj ?_
  refine ss_astore_n (lv' := [(3, _), (0, _), (1, _), (2, _)]) dX7_count_53 (by decide) rfl ?_
  refine ss_iload_n dX7_count_54 2 rfl ?_
  refine ss_tableIn (off := 35) 90 dX7_count_55 (by decide) (by decide) (by decide) (by decide) ?_
  refine ss_aload_n dX7_count_90 0 rfl ?_
  refine ss_iconst (v := nI 2) dX7_count_91 (by decide) ?_
  refine ss_callV (As := [_]) (i := 2 + 7 * j) dX7_count_92 vlX7_137 clX6_piecesAs rfl rfl (by omega) (sh_w0 hj _ _) rfl (Nat.le_of_ble_eq_true rfl) (Nat.le_of_ble_eq_true rfl) (q_piecesAs hj) ?_
  exact ss_iret dX7_count_95 rfl rfl (hQ)
set_option maxHeartbeats 4000000 in
set_option maxRecDepth 100000 in
theorem c_count_4 {c : cx} {d : Nat} {X : nX} {Y : nY} {m : Nat} (hm : m ≤ 12) (h7 : X 0 7 = nI m) {j : Nat} (hjm : j < m) : sc c mX7_count (d + 2) [.ref (c_ad c 0), .int (nI 4), .int (nI j)] (X) (Y) (some (.int (if X (2 + 7 * j) 5 = nI 4 then X (2 + 7 * j) 8 else 0))) (X) (Y) := by
  intro Q hQ
  show ss c mX7_count (d + 2) Q 0 [(0, .ref (c_ad c 0)), (1, .int (nI 4)), (2, .int (nI j))] [] (X) (Y)
  have hj : j < 12 := by omega
  have hwj : ix (nI j) m = true := ix_of hjm (by omega)
  refine ss_iload_n dX7_count_0 1 rfl ?_
  refine ss_i2l dX7_count_1 ?_
  refine ss_lconst (v := 0) dX7_count_2 (by decide) ?_
  refine ss_ldc2 dX7_count_3 kcX7_135 ?_
  refine ss_callS (As := [_, _, _]) dX7_count_6 vlX7_53 clX7_isWithin rfl rfl (Nat.le_of_ble_eq_true rfl) (Nat.le_of_ble_eq_true rfl) (q_isWithin) ?_
  refine sy_if_ne 16 dX7_count_9 (by decide) (fun c9 => ?_) (fun c9 => by first | exact kd_tf (by rw [wi_ix (n := 7) rfl]; exact ix_of (by decide) (by decide)) c9 | exact kd_ft (by rw [wi_ix (n := 7) rfl]; exact ix_of (by decide) (by decide)) c9 | exact absurd (by rw [wi_ix (n := 7) rfl]; exact ix_of (by decide) (by decide)) c9 | exact absurd c9 (by rw [wi_ix (n := 7) rfl]; exact ix_of (by decide) (by decide)))
  refine ss_iload_n dX7_count_16 1 rfl ?_
  refine sz_if_ne 25 dX7_count_17 (by decide) (by omega) (fun c17 => ?_) (fun c17 => by omega)
  refine ss_iload_n dX7_count_25 1 rfl ?_
  refine ss_iconst (v := nI 1) dX7_count_26 (by decide) ?_
  refine sz_icmp_ne 35 dX7_count_27 (by decide) (by omega) (by omega) (fun c27 => ?_) (fun c27 => by omega)
  refine ss_aload_n dX7_count_35 0 rfl ?_
  refine ss_iload_n dX7_count_36 2 rfl ?_
  refine ss_callV (As := [_]) (i := 0) dX7_count_37 vlX7_113 clX7_isWorth rfl rfl (by omega) (sh_r0 _ _) rfl (Nat.le_of_ble_eq_true rfl) (Nat.le_of_ble_eq_true rfl) (q_isWorth hm h7) ?_
  refine sy_if_ne 47 dX7_count_40 (by decide) (fun c40 => ?_) (fun c40 => by first | exact kd_tf (hwj) c40 | exact kd_ft (hwj) c40 | exact absurd (hwj) c40 | exact absurd c40 (hwj))
  refine ss_aload_n dX7_count_47 0 rfl ?_
  refine ss_get (i := 0) dX7_count_48 flX7_11 (by omega) (sh_r0 _ _) rfl ?_
  refine ss_iload_n dX7_count_51 2 rfl ?_
  refine ss_worth (w := j) dX7_count_52 hj ?_
  refine ss_astore_n (lv' := [(3, _), (0, _), (1, _), (2, _)]) dX7_count_53 (by decide) rfl ?_
  refine ss_iload_n dX7_count_54 2 rfl ?_
  refine ss_tableIn (off := 41) 96 dX7_count_55 (by decide) (by decide) (by decide) (by decide) ?_
  refine ss_aload_n dX7_count_96 0 rfl ?_
  refine ss_iconst (v := nI 4) dX7_count_97 (by decide) ?_
  refine ss_callV (As := [_]) (i := 2 + 7 * j) dX7_count_98 vlX7_137 clX6_piecesAs rfl rfl (by omega) (sh_w0 hj _ _) rfl (Nat.le_of_ble_eq_true rfl) (Nat.le_of_ble_eq_true rfl) (q_piecesAs hj) ?_
  exact ss_iret dX7_count_101 rfl rfl (hQ)
set_option maxHeartbeats 4000000 in
set_option maxRecDepth 100000 in
theorem c_count_5 {c : cx} {d : Nat} {X : nX} {Y : nY} {m : Nat} (hm : m ≤ 12) (h7 : X 0 7 = nI m) {j : Nat} (hjm : j < m) : sc c mX7_count (d + 2) [.ref (c_ad c 0), .int (nI 5), .int (nI j)] (X) (Y) (some (.int (if X (2 + 7 * j) 5 = nI 5 then X (2 + 7 * j) 8 else 0))) (X) (Y) := by
  intro Q hQ
  show ss c mX7_count (d + 2) Q 0 [(0, .ref (c_ad c 0)), (1, .int (nI 5)), (2, .int (nI j))] [] (X) (Y)
  have hj : j < 12 := by omega
  have hwj : ix (nI j) m = true := ix_of hjm (by omega)
  refine ss_iload_n dX7_count_0 1 rfl ?_
  refine ss_i2l dX7_count_1 ?_
  refine ss_lconst (v := 0) dX7_count_2 (by decide) ?_
  refine ss_ldc2 dX7_count_3 kcX7_135 ?_
  refine ss_callS (As := [_, _, _]) dX7_count_6 vlX7_53 clX7_isWithin rfl rfl (Nat.le_of_ble_eq_true rfl) (Nat.le_of_ble_eq_true rfl) (q_isWithin) ?_
  refine sy_if_ne 16 dX7_count_9 (by decide) (fun c9 => ?_) (fun c9 => by first | exact kd_tf (by rw [wi_ix (n := 7) rfl]; exact ix_of (by decide) (by decide)) c9 | exact kd_ft (by rw [wi_ix (n := 7) rfl]; exact ix_of (by decide) (by decide)) c9 | exact absurd (by rw [wi_ix (n := 7) rfl]; exact ix_of (by decide) (by decide)) c9 | exact absurd c9 (by rw [wi_ix (n := 7) rfl]; exact ix_of (by decide) (by decide)))
  refine ss_iload_n dX7_count_16 1 rfl ?_
  refine sz_if_ne 25 dX7_count_17 (by decide) (by omega) (fun c17 => ?_) (fun c17 => by omega)
  refine ss_iload_n dX7_count_25 1 rfl ?_
  refine ss_iconst (v := nI 1) dX7_count_26 (by decide) ?_
  refine sz_icmp_ne 35 dX7_count_27 (by decide) (by omega) (by omega) (fun c27 => ?_) (fun c27 => by omega)
  refine ss_aload_n dX7_count_35 0 rfl ?_
  refine ss_iload_n dX7_count_36 2 rfl ?_
  refine ss_callV (As := [_]) (i := 0) dX7_count_37 vlX7_113 clX7_isWorth rfl rfl (by omega) (sh_r0 _ _) rfl (Nat.le_of_ble_eq_true rfl) (Nat.le_of_ble_eq_true rfl) (q_isWorth hm h7) ?_
  refine sy_if_ne 47 dX7_count_40 (by decide) (fun c40 => ?_) (fun c40 => by first | exact kd_tf (hwj) c40 | exact kd_ft (hwj) c40 | exact absurd (hwj) c40 | exact absurd c40 (hwj))
  refine ss_aload_n dX7_count_47 0 rfl ?_
  refine ss_get (i := 0) dX7_count_48 flX7_11 (by omega) (sh_r0 _ _) rfl ?_
  refine ss_iload_n dX7_count_51 2 rfl ?_
  refine ss_worth (w := j) dX7_count_52 hj ?_
  refine ss_astore_n (lv' := [(3, _), (0, _), (1, _), (2, _)]) dX7_count_53 (by decide) rfl ?_
  refine ss_iload_n dX7_count_54 2 rfl ?_
  refine ss_tableIn (off := 47) 102 dX7_count_55 (by decide) (by decide) (by decide) (by decide) ?_
  refine ss_aload_n dX7_count_102 0 rfl ?_
  refine ss_iconst (v := nI 5) dX7_count_103 (by decide) ?_
  refine ss_callV (As := [_]) (i := 2 + 7 * j) dX7_count_104 vlX7_137 clX6_piecesAs rfl rfl (by omega) (sh_w0 hj _ _) rfl (Nat.le_of_ble_eq_true rfl) (Nat.le_of_ble_eq_true rfl) (q_piecesAs hj) ?_
  exact ss_iret dX7_count_107 rfl rfl (hQ)
set_option maxHeartbeats 4000000 in
set_option maxRecDepth 100000 in
theorem c_count_6true {c : cx} {d : Nat} {X : nX} {Y : nY} {m : Nat} (hm : m ≤ 12) (h7 : X 0 7 = nI m) {j : Nat} (hjm : j < m) (hh : X (2 + 7 * j) 4 = bI true) : sc c mX7_count (d + 2) [.ref (c_ad c 0), .int (nI 6), .int (nI j)] (X) (Y) (some (.int (nI 1))) (X) (Y) := by
  intro Q hQ
  show ss c mX7_count (d + 2) Q 0 [(0, .ref (c_ad c 0)), (1, .int (nI 6)), (2, .int (nI j))] [] (X) (Y)
  have hj : j < 12 := by omega
  have hwj : ix (nI j) m = true := ix_of hjm (by omega)
  refine ss_iload_n dX7_count_0 1 rfl ?_
  refine ss_i2l dX7_count_1 ?_
  refine ss_lconst (v := 0) dX7_count_2 (by decide) ?_
  refine ss_ldc2 dX7_count_3 kcX7_135 ?_
  refine ss_callS (As := [_, _, _]) dX7_count_6 vlX7_53 clX7_isWithin rfl rfl (Nat.le_of_ble_eq_true rfl) (Nat.le_of_ble_eq_true rfl) (q_isWithin) ?_
  refine sy_if_ne 16 dX7_count_9 (by decide) (fun c9 => ?_) (fun c9 => by first | exact kd_tf (by rw [wi_ix (n := 7) rfl]; exact ix_of (by decide) (by decide)) c9 | exact kd_ft (by rw [wi_ix (n := 7) rfl]; exact ix_of (by decide) (by decide)) c9 | exact absurd (by rw [wi_ix (n := 7) rfl]; exact ix_of (by decide) (by decide)) c9 | exact absurd c9 (by rw [wi_ix (n := 7) rfl]; exact ix_of (by decide) (by decide)))
  refine ss_iload_n dX7_count_16 1 rfl ?_
  refine sz_if_ne 25 dX7_count_17 (by decide) (by omega) (fun c17 => ?_) (fun c17 => by omega)
  refine ss_iload_n dX7_count_25 1 rfl ?_
  refine ss_iconst (v := nI 1) dX7_count_26 (by decide) ?_
  refine sz_icmp_ne 35 dX7_count_27 (by decide) (by omega) (by omega) (fun c27 => ?_) (fun c27 => by omega)
  refine ss_aload_n dX7_count_35 0 rfl ?_
  refine ss_iload_n dX7_count_36 2 rfl ?_
  refine ss_callV (As := [_]) (i := 0) dX7_count_37 vlX7_113 clX7_isWorth rfl rfl (by omega) (sh_r0 _ _) rfl (Nat.le_of_ble_eq_true rfl) (Nat.le_of_ble_eq_true rfl) (q_isWorth hm h7) ?_
  refine sy_if_ne 47 dX7_count_40 (by decide) (fun c40 => ?_) (fun c40 => by first | exact kd_tf (hwj) c40 | exact kd_ft (hwj) c40 | exact absurd (hwj) c40 | exact absurd c40 (hwj))
  refine ss_aload_n dX7_count_47 0 rfl ?_
  refine ss_get (i := 0) dX7_count_48 flX7_11 (by omega) (sh_r0 _ _) rfl ?_
  refine ss_iload_n dX7_count_51 2 rfl ?_
  refine ss_worth (w := j) dX7_count_52 hj ?_
  refine ss_astore_n (lv' := [(3, _), (0, _), (1, _), (2, _)]) dX7_count_53 (by decide) rfl ?_
  refine ss_iload_n dX7_count_54 2 rfl ?_
  refine ss_tableOut 108 dX7_count_55 (by decide) (by decide) ?_
  refine ss_aload_n dX7_count_108 0 rfl ?_
  refine ss_get (i := 2 + 7 * j) dX7_count_109 flX7_123 (by omega) (sh_w0 hj _ _) rfl ?_
  rw [hh]
  refine sy_if_eq 119 dX7_count_112 (by decide) (fun c112 => by first | exact kd_tf (rfl) c112 | exact kd_ft (rfl) c112 | exact absurd (rfl) c112 | exact absurd c112 (rfl)) (fun c112 => ?_)
  refine ss_iconst (v := nI 1) dX7_count_115 (by decide) ?_
  refine ss_goto 120 dX7_count_116 (by decide) ?_
  exact ss_iret dX7_count_120 rfl rfl (hQ)
set_option maxHeartbeats 4000000 in
set_option maxRecDepth 100000 in
theorem c_count_6false {c : cx} {d : Nat} {X : nX} {Y : nY} {m : Nat} (hm : m ≤ 12) (h7 : X 0 7 = nI m) {j : Nat} (hjm : j < m) (hh : X (2 + 7 * j) 4 = bI false) : sc c mX7_count (d + 2) [.ref (c_ad c 0), .int (nI 6), .int (nI j)] (X) (Y) (some (.int (nI 0))) (X) (Y) := by
  intro Q hQ
  show ss c mX7_count (d + 2) Q 0 [(0, .ref (c_ad c 0)), (1, .int (nI 6)), (2, .int (nI j))] [] (X) (Y)
  have hj : j < 12 := by omega
  have hwj : ix (nI j) m = true := ix_of hjm (by omega)
  refine ss_iload_n dX7_count_0 1 rfl ?_
  refine ss_i2l dX7_count_1 ?_
  refine ss_lconst (v := 0) dX7_count_2 (by decide) ?_
  refine ss_ldc2 dX7_count_3 kcX7_135 ?_
  refine ss_callS (As := [_, _, _]) dX7_count_6 vlX7_53 clX7_isWithin rfl rfl (Nat.le_of_ble_eq_true rfl) (Nat.le_of_ble_eq_true rfl) (q_isWithin) ?_
  refine sy_if_ne 16 dX7_count_9 (by decide) (fun c9 => ?_) (fun c9 => by first | exact kd_tf (by rw [wi_ix (n := 7) rfl]; exact ix_of (by decide) (by decide)) c9 | exact kd_ft (by rw [wi_ix (n := 7) rfl]; exact ix_of (by decide) (by decide)) c9 | exact absurd (by rw [wi_ix (n := 7) rfl]; exact ix_of (by decide) (by decide)) c9 | exact absurd c9 (by rw [wi_ix (n := 7) rfl]; exact ix_of (by decide) (by decide)))
  refine ss_iload_n dX7_count_16 1 rfl ?_
  refine sz_if_ne 25 dX7_count_17 (by decide) (by omega) (fun c17 => ?_) (fun c17 => by omega)
  refine ss_iload_n dX7_count_25 1 rfl ?_
  refine ss_iconst (v := nI 1) dX7_count_26 (by decide) ?_
  refine sz_icmp_ne 35 dX7_count_27 (by decide) (by omega) (by omega) (fun c27 => ?_) (fun c27 => by omega)
  refine ss_aload_n dX7_count_35 0 rfl ?_
  refine ss_iload_n dX7_count_36 2 rfl ?_
  refine ss_callV (As := [_]) (i := 0) dX7_count_37 vlX7_113 clX7_isWorth rfl rfl (by omega) (sh_r0 _ _) rfl (Nat.le_of_ble_eq_true rfl) (Nat.le_of_ble_eq_true rfl) (q_isWorth hm h7) ?_
  refine sy_if_ne 47 dX7_count_40 (by decide) (fun c40 => ?_) (fun c40 => by first | exact kd_tf (hwj) c40 | exact kd_ft (hwj) c40 | exact absurd (hwj) c40 | exact absurd c40 (hwj))
  refine ss_aload_n dX7_count_47 0 rfl ?_
  refine ss_get (i := 0) dX7_count_48 flX7_11 (by omega) (sh_r0 _ _) rfl ?_
  refine ss_iload_n dX7_count_51 2 rfl ?_
  refine ss_worth (w := j) dX7_count_52 hj ?_
  refine ss_astore_n (lv' := [(3, _), (0, _), (1, _), (2, _)]) dX7_count_53 (by decide) rfl ?_
  refine ss_iload_n dX7_count_54 2 rfl ?_
  refine ss_tableOut 108 dX7_count_55 (by decide) (by decide) ?_
  refine ss_aload_n dX7_count_108 0 rfl ?_
  refine ss_get (i := 2 + 7 * j) dX7_count_109 flX7_123 (by omega) (sh_w0 hj _ _) rfl ?_
  rw [hh]
  refine sy_if_eq 119 dX7_count_112 (by decide) (fun c112 => ?_) (fun c112 => by first | exact kd_tf (rfl) c112 | exact kd_ft (rfl) c112 | exact absurd (rfl) c112 | exact absurd c112 (rfl))
  refine ss_iconst (v := nI 0) dX7_count_119 (by decide) ?_
  exact ss_iret dX7_count_120 rfl rfl (hQ)
set_option maxHeartbeats 4000000 in
set_option maxRecDepth 100000 in
theorem c_tell_u {c : cx} {d : Nat} {X : nX} {Y : nY} {n : Nat} (hn : n ≤ 10) (h6 : X 0 6 = nI n) {m : Nat} (hm : m ≤ 12) (h7 : X 0 7 = nI m) {w s v : Int32} (hu : ix w m = false ∨ ix s (2 ^ n) = false) : sc c mX7_tell (d + 3) [.ref (c_ad c 0), .int w, .int s, .int v] (X) (Y) (some (.int (-1001))) (X) (Y) := by
  intro Q hQ
  show ss c mX7_tell (d + 3) Q 0 [(0, .ref (c_ad c 0)), (1, .int w), (2, .int s), (3, .int v)] [] (X) (Y)
  refine ss_aload_n dX7_tell_0 0 rfl ?_
  refine ss_iload_n dX7_tell_1 1 rfl ?_
  refine ss_callV (As := [_]) (i := 0) dX7_tell_2 vlX7_113 clX7_isWorth rfl rfl (by omega) (sh_r0 _ _) rfl (Nat.le_of_ble_eq_true rfl) (Nat.le_of_ble_eq_true rfl) (q_isWorth hm h7) ?_
  refine sy_if_eq 16 dX7_tell_5 (by decide) (fun c5 => ?_) (fun c5 => ?_)
  · skip
    refine ss_sipush (v := -1001) dX7_tell_16 (by decide) ?_
    exact ss_iret dX7_tell_19 rfl rfl (hQ)
  · skip
    refine ss_aload_n dX7_tell_8 0 rfl ?_
    refine ss_iload_n dX7_tell_9 2 rfl ?_
    refine ss_callV (As := [_]) (i := 0) dX7_tell_10 vlX7_116 clX7_isSet rfl rfl (by omega) (sh_r0 _ _) rfl (Nat.le_of_ble_eq_true rfl) (Nat.le_of_ble_eq_true rfl) (q_isSet hn h6) ?_
    refine sy_if_ne 20 dX7_tell_13 (by decide) (fun c13 => by rcases hu with h8 | h8; exact kd_tf c5 h8; exact kd_tf c13 h8) (fun c13 => ?_)
    refine ss_sipush (v := -1001) dX7_tell_16 (by decide) ?_
    exact ss_iret dX7_tell_19 rfl rfl (hQ)
set_option maxHeartbeats 4000000 in
set_option maxRecDepth 100000 in
theorem c_tell_o1 {c : cx} {d : Nat} {X : nX} {Y : nY} {n : Nat} (hn : n ≤ 10) (h6 : X 0 6 = nI n) {m : Nat} (hm : m ≤ 12) (h7 : X 0 7 = nI m) {j : Nat} (hjm : j < m) {v : Int32} : sc c mX7_tell (d + 3) [.ref (c_ad c 0), .int (nI j), .int (nI 0), .int v] (X) (Y) (some (.int (-1002))) (X) (Y) := by
  intro Q hQ
  show ss c mX7_tell (d + 3) Q 0 [(0, .ref (c_ad c 0)), (1, .int (nI j)), (2, .int (nI 0)), (3, .int v)] [] (X) (Y)
  have hj : j < 12 := by omega
  have hwj : ix (nI j) m = true := ix_of hjm (by omega)
  refine ss_aload_n dX7_tell_0 0 rfl ?_
  refine ss_iload_n dX7_tell_1 1 rfl ?_
  refine ss_callV (As := [_]) (i := 0) dX7_tell_2 vlX7_113 clX7_isWorth rfl rfl (by omega) (sh_r0 _ _) rfl (Nat.le_of_ble_eq_true rfl) (Nat.le_of_ble_eq_true rfl) (q_isWorth hm h7) ?_
  refine sy_if_eq 16 dX7_tell_5 (by decide) (fun c5 => by first | exact kd_tf (hwj) c5 | exact kd_ft (hwj) c5 | exact absurd (hwj) c5 | exact absurd c5 (hwj)) (fun c5 => ?_)
  refine ss_aload_n dX7_tell_8 0 rfl ?_
  refine ss_iload_n dX7_tell_9 2 rfl ?_
  refine ss_callV (As := [_]) (i := 0) dX7_tell_10 vlX7_116 clX7_isSet rfl rfl (by omega) (sh_r0 _ _) rfl (Nat.le_of_ble_eq_true rfl) (Nat.le_of_ble_eq_true rfl) (q_isSet hn h6) ?_
  refine sy_if_ne 20 dX7_tell_13 (by decide) (fun c13 => ?_) (fun c13 => by first | exact kd_tf (ix_of p2_1 (by have := p2_le hn; omega)) c13 | exact kd_ft (ix_of p2_1 (by have := p2_le hn; omega)) c13 | exact absurd (ix_of p2_1 (by have := p2_le hn; omega)) c13 | exact absurd c13 (ix_of p2_1 (by have := p2_le hn; omega)))
  refine ss_iload_n dX7_tell_20 2 rfl ?_
  refine sz_if_eq 35 dX7_tell_21 (by decide) (by omega) (fun c21 => ?_) (fun c21 => by omega)
  refine ss_sipush (v := -1002) dX7_tell_35 (by decide) ?_
  exact ss_iret dX7_tell_38 rfl rfl (hQ)
set_option maxHeartbeats 4000000 in
set_option maxRecDepth 100000 in
theorem c_tell_o2 {c : cx} {d : Nat} {X : nX} {Y : nY} {n : Nat} (hn : n ≤ 10) (h6 : X 0 6 = nI n) {m : Nat} (hm : m ≤ 12) (h7 : X 0 7 = nI m) {j : Nat} (hjm : j < m) {s : Nat} (hs : s < 2 ^ n) {v : Int32} (h0 : s ≠ 0) (hv : wi v.toInt64 (-1000000) 1000000 = false) : sc c mX7_tell (d + 3) [.ref (c_ad c 0), .int (nI j), .int (nI s), .int v] (X) (Y) (some (.int (-1002))) (X) (Y) := by
  intro Q hQ
  show ss c mX7_tell (d + 3) Q 0 [(0, .ref (c_ad c 0)), (1, .int (nI j)), (2, .int (nI s)), (3, .int v)] [] (X) (Y)
  have hj : j < 12 := by omega
  have hwj : ix (nI j) m = true := ix_of hjm (by omega)
  have hs9 : ix (nI s) (2 ^ n) = true := ix_of hs (by have := p2_le hn; omega)
  have hs8 := ix_2p hs hn
  refine ss_aload_n dX7_tell_0 0 rfl ?_
  refine ss_iload_n dX7_tell_1 1 rfl ?_
  refine ss_callV (As := [_]) (i := 0) dX7_tell_2 vlX7_113 clX7_isWorth rfl rfl (by omega) (sh_r0 _ _) rfl (Nat.le_of_ble_eq_true rfl) (Nat.le_of_ble_eq_true rfl) (q_isWorth hm h7) ?_
  refine sy_if_eq 16 dX7_tell_5 (by decide) (fun c5 => by first | exact kd_tf (hwj) c5 | exact kd_ft (hwj) c5 | exact absurd (hwj) c5 | exact absurd c5 (hwj)) (fun c5 => ?_)
  refine ss_aload_n dX7_tell_8 0 rfl ?_
  refine ss_iload_n dX7_tell_9 2 rfl ?_
  refine ss_callV (As := [_]) (i := 0) dX7_tell_10 vlX7_116 clX7_isSet rfl rfl (by omega) (sh_r0 _ _) rfl (Nat.le_of_ble_eq_true rfl) (Nat.le_of_ble_eq_true rfl) (q_isSet hn h6) ?_
  refine sy_if_ne 20 dX7_tell_13 (by decide) (fun c13 => ?_) (fun c13 => by first | exact kd_tf (hs9) c13 | exact kd_ft (hs9) c13 | exact absurd (hs9) c13 | exact absurd c13 (hs9))
  refine ss_iload_n dX7_tell_20 2 rfl ?_
  refine sz_if_eq 35 dX7_tell_21 (by decide) (by omega) (fun c21 => by omega) (fun c21 => ?_)
  refine ss_iload_n dX7_tell_24 3 rfl ?_
  refine ss_i2l dX7_tell_25 ?_
  refine ss_ldc2 dX7_tell_26 kcX7_140 ?_
  refine ss_callS (As := [_, _]) dX7_tell_29 vlX7_142 clX7_isInSize rfl rfl (Nat.le_of_ble_eq_true rfl) (Nat.le_of_ble_eq_true rfl) (q_isInSize) ?_
  refine sy_if_ne 39 dX7_tell_32 (by decide) (fun c32 => by first | exact kd_tf (hv) c32 | exact kd_ft (hv) c32 | exact absurd (hv) c32 | exact absurd c32 (hv)) (fun c32 => ?_)
  refine ss_sipush (v := -1002) dX7_tell_35 (by decide) ?_
  exact ss_iret dX7_tell_38 rfl rfl (hQ)
set_option maxHeartbeats 4000000 in
set_option maxRecDepth 100000 in
theorem c_tell_n {c : cx} {d : Nat} {X : nX} {Y : nY} {n : Nat} (hn : n ≤ 10) (h6 : X 0 6 = nI n) {m : Nat} (hm : m ≤ 12) (h7 : X 0 7 = nI m) {j : Nat} (hjm : j < m) {s : Nat} (hs : s < 2 ^ n) {v : Int32} (h0 : s ≠ 0) (hv : wi v.toInt64 (-1000000) 1000000 = true) (hh : X (2 + 7 * j) 4 = bI true) : sc c mX7_tell (d + 3) [.ref (c_ad c 0), .int (nI j), .int (nI s), .int v] (X) (Y) (some (.int (-1003))) (X) (Y) := by
  intro Q hQ
  show ss c mX7_tell (d + 3) Q 0 [(0, .ref (c_ad c 0)), (1, .int (nI j)), (2, .int (nI s)), (3, .int v)] [] (X) (Y)
  have hj : j < 12 := by omega
  have hwj : ix (nI j) m = true := ix_of hjm (by omega)
  have hs9 : ix (nI s) (2 ^ n) = true := ix_of hs (by have := p2_le hn; omega)
  have hs8 := ix_2p hs hn
  refine ss_aload_n dX7_tell_0 0 rfl ?_
  refine ss_iload_n dX7_tell_1 1 rfl ?_
  refine ss_callV (As := [_]) (i := 0) dX7_tell_2 vlX7_113 clX7_isWorth rfl rfl (by omega) (sh_r0 _ _) rfl (Nat.le_of_ble_eq_true rfl) (Nat.le_of_ble_eq_true rfl) (q_isWorth hm h7) ?_
  refine sy_if_eq 16 dX7_tell_5 (by decide) (fun c5 => by first | exact kd_tf (hwj) c5 | exact kd_ft (hwj) c5 | exact absurd (hwj) c5 | exact absurd c5 (hwj)) (fun c5 => ?_)
  refine ss_aload_n dX7_tell_8 0 rfl ?_
  refine ss_iload_n dX7_tell_9 2 rfl ?_
  refine ss_callV (As := [_]) (i := 0) dX7_tell_10 vlX7_116 clX7_isSet rfl rfl (by omega) (sh_r0 _ _) rfl (Nat.le_of_ble_eq_true rfl) (Nat.le_of_ble_eq_true rfl) (q_isSet hn h6) ?_
  refine sy_if_ne 20 dX7_tell_13 (by decide) (fun c13 => ?_) (fun c13 => by first | exact kd_tf (hs9) c13 | exact kd_ft (hs9) c13 | exact absurd (hs9) c13 | exact absurd c13 (hs9))
  refine ss_iload_n dX7_tell_20 2 rfl ?_
  refine sz_if_eq 35 dX7_tell_21 (by decide) (by omega) (fun c21 => by omega) (fun c21 => ?_)
  refine ss_iload_n dX7_tell_24 3 rfl ?_
  refine ss_i2l dX7_tell_25 ?_
  refine ss_ldc2 dX7_tell_26 kcX7_140 ?_
  refine ss_callS (As := [_, _]) dX7_tell_29 vlX7_142 clX7_isInSize rfl rfl (Nat.le_of_ble_eq_true rfl) (Nat.le_of_ble_eq_true rfl) (q_isInSize) ?_
  refine sy_if_ne 39 dX7_tell_32 (by decide) (fun c32 => ?_) (fun c32 => by first | exact kd_tf (hv) c32 | exact kd_ft (hv) c32 | exact absurd (hv) c32 | exact absurd c32 (hv))
  refine ss_aload_n dX7_tell_39 0 rfl ?_
  refine ss_get (i := 0) dX7_tell_40 flX7_11 (by omega) (sh_r0 _ _) rfl ?_
  refine ss_iload_n dX7_tell_43 1 rfl ?_
  refine ss_worth (w := j) dX7_tell_44 hj ?_
  refine ss_astore (lv' := [(4, _), (0, _), (1, _), (2, _), (3, _)]) dX7_tell_45 (by decide) rfl ?_
  refine ss_aload dX7_tell_47 0 rfl ?_
  refine ss_get (i := 2 + 7 * j) dX7_tell_49 flX7_123 (by omega) (sh_w0 hj _ _) rfl ?_
  rw [hh]
  refine sy_if_eq 59 dX7_tell_52 (by decide) (fun c52 => by first | exact kd_tf (rfl) c52 | exact kd_ft (rfl) c52 | exact absurd (rfl) c52 | exact absurd c52 (rfl)) (fun c52 => ?_)
  refine ss_sipush (v := -1003) dX7_tell_55 (by decide) ?_
  exact ss_iret dX7_tell_58 rfl rfl (hQ)
set_option maxHeartbeats 4000000 in
set_option maxRecDepth 100000 in
theorem c_tell_c {c : cx} {d : Nat} {X : nX} {Y : nY} {n : Nat} (hn : n ≤ 10) (h6 : X 0 6 = nI n) {m : Nat} (hm : m ≤ 12) (h7 : X 0 7 = nI m) {j : Nat} (hjm : j < m) {s : Nat} (hs : s < 2 ^ n) {v : Int32} (h0 : s ≠ 0) (hv : wi v.toInt64 (-1000000) 1000000 = true) (hh : X (2 + 7 * j) 4 = bI false) (hkd : ¬ X (2 + 7 * j) 5 = 0) : sc c mX7_tell (d + 3) [.ref (c_ad c 0), .int (nI j), .int (nI s), .int v] (X) (Y) (some (.int (nI 0))) (up2 X 0 8 (nI 5)) (Y) := by
  intro Q hQ
  show ss c mX7_tell (d + 3) Q 0 [(0, .ref (c_ad c 0)), (1, .int (nI j)), (2, .int (nI s)), (3, .int v)] [] (X) (Y)
  have hj : j < 12 := by omega
  have hwj : ix (nI j) m = true := ix_of hjm (by omega)
  have hs9 : ix (nI s) (2 ^ n) = true := ix_of hs (by have := p2_le hn; omega)
  have hs8 := ix_2p hs hn
  refine ss_aload_n dX7_tell_0 0 rfl ?_
  refine ss_iload_n dX7_tell_1 1 rfl ?_
  refine ss_callV (As := [_]) (i := 0) dX7_tell_2 vlX7_113 clX7_isWorth rfl rfl (by omega) (sh_r0 _ _) rfl (Nat.le_of_ble_eq_true rfl) (Nat.le_of_ble_eq_true rfl) (q_isWorth hm h7) ?_
  refine sy_if_eq 16 dX7_tell_5 (by decide) (fun c5 => by first | exact kd_tf (hwj) c5 | exact kd_ft (hwj) c5 | exact absurd (hwj) c5 | exact absurd c5 (hwj)) (fun c5 => ?_)
  refine ss_aload_n dX7_tell_8 0 rfl ?_
  refine ss_iload_n dX7_tell_9 2 rfl ?_
  refine ss_callV (As := [_]) (i := 0) dX7_tell_10 vlX7_116 clX7_isSet rfl rfl (by omega) (sh_r0 _ _) rfl (Nat.le_of_ble_eq_true rfl) (Nat.le_of_ble_eq_true rfl) (q_isSet hn h6) ?_
  refine sy_if_ne 20 dX7_tell_13 (by decide) (fun c13 => ?_) (fun c13 => by first | exact kd_tf (hs9) c13 | exact kd_ft (hs9) c13 | exact absurd (hs9) c13 | exact absurd c13 (hs9))
  refine ss_iload_n dX7_tell_20 2 rfl ?_
  refine sz_if_eq 35 dX7_tell_21 (by decide) (by omega) (fun c21 => by omega) (fun c21 => ?_)
  refine ss_iload_n dX7_tell_24 3 rfl ?_
  refine ss_i2l dX7_tell_25 ?_
  refine ss_ldc2 dX7_tell_26 kcX7_140 ?_
  refine ss_callS (As := [_, _]) dX7_tell_29 vlX7_142 clX7_isInSize rfl rfl (Nat.le_of_ble_eq_true rfl) (Nat.le_of_ble_eq_true rfl) (q_isInSize) ?_
  refine sy_if_ne 39 dX7_tell_32 (by decide) (fun c32 => ?_) (fun c32 => by first | exact kd_tf (hv) c32 | exact kd_ft (hv) c32 | exact absurd (hv) c32 | exact absurd c32 (hv))
  refine ss_aload_n dX7_tell_39 0 rfl ?_
  refine ss_get (i := 0) dX7_tell_40 flX7_11 (by omega) (sh_r0 _ _) rfl ?_
  refine ss_iload_n dX7_tell_43 1 rfl ?_
  refine ss_worth (w := j) dX7_tell_44 hj ?_
  refine ss_astore (lv' := [(4, _), (0, _), (1, _), (2, _), (3, _)]) dX7_tell_45 (by decide) rfl ?_
  refine ss_aload dX7_tell_47 0 rfl ?_
  refine ss_get (i := 2 + 7 * j) dX7_tell_49 flX7_123 (by omega) (sh_w0 hj _ _) rfl ?_
  rw [hh]
  refine sy_if_eq 59 dX7_tell_52 (by decide) (fun c52 => ?_) (fun c52 => by first | exact kd_tf (rfl) c52 | exact kd_ft (rfl) c52 | exact absurd (rfl) c52 | exact absurd c52 (rfl))
  refine ss_aload dX7_tell_59 0 rfl ?_
  refine ss_get (i := 2 + 7 * j) dX7_tell_61 flX7_132 (by omega) (sh_w0 hj _ _) rfl ?_
  refine ss_if_eq 73 dX7_tell_64 (by decide) (fun c64 => by first | exact kd_tf (hkd) c64 | exact kd_ft (hkd) c64 | exact absurd (hkd) c64 | exact absurd c64 (hkd)) (fun c64 => ?_)
  refine ss_aload_n dX7_tell_67 1 rfl ?_
  refine ss_iconst (v := nI 5) dX7_tell_68 (by decide) ?_
  refine ss_callV (As := [_]) (i := 0) dX7_tell_69 vlX7_75 clX7_meet rfl rfl (by omega) (sh_r0 _ _) rfl (Nat.le_of_ble_eq_true rfl) (Nat.le_of_ble_eq_true rfl) (q_meet) ?_
  exact ss_iret dX7_tell_72 rfl rfl (hQ)
set_option maxHeartbeats 4000000 in
set_option maxRecDepth 100000 in
theorem c_tell_k {c : cx} {d : Nat} {X : nX} {Y : nY} {n : Nat} (hn : n ≤ 10) (h6 : X 0 6 = nI n) {m : Nat} (hm : m ≤ 12) (h7 : X 0 7 = nI m) {j : Nat} (hjm : j < m) {s : Nat} (hs : s < 2 ^ n) {v : Int32} (h0 : s ≠ 0) (hv : wi v.toInt64 (-1000000) 1000000 = true) (hh : X (2 + 7 * j) 4 = bI false) (hkd : X (2 + 7 * j) 5 = 0) : sc c mX7_tell (d + 3) [.ref (c_ad c 0), .int (nI j), .int (nI s), .int v] (X) (Y) (some (.int (nI 1))) (up2 X 0 8 (nI 0)) (upl Y (3 + 7 * j) s v.toInt64) := by
  intro Q hQ
  show ss c mX7_tell (d + 3) Q 0 [(0, .ref (c_ad c 0)), (1, .int (nI j)), (2, .int (nI s)), (3, .int v)] [] (X) (Y)
  have hj : j < 12 := by omega
  have hwj : ix (nI j) m = true := ix_of hjm (by omega)
  have hs9 : ix (nI s) (2 ^ n) = true := ix_of hs (by have := p2_le hn; omega)
  have hs8 := ix_2p hs hn
  refine ss_aload_n dX7_tell_0 0 rfl ?_
  refine ss_iload_n dX7_tell_1 1 rfl ?_
  refine ss_callV (As := [_]) (i := 0) dX7_tell_2 vlX7_113 clX7_isWorth rfl rfl (by omega) (sh_r0 _ _) rfl (Nat.le_of_ble_eq_true rfl) (Nat.le_of_ble_eq_true rfl) (q_isWorth hm h7) ?_
  refine sy_if_eq 16 dX7_tell_5 (by decide) (fun c5 => by first | exact kd_tf (hwj) c5 | exact kd_ft (hwj) c5 | exact absurd (hwj) c5 | exact absurd c5 (hwj)) (fun c5 => ?_)
  refine ss_aload_n dX7_tell_8 0 rfl ?_
  refine ss_iload_n dX7_tell_9 2 rfl ?_
  refine ss_callV (As := [_]) (i := 0) dX7_tell_10 vlX7_116 clX7_isSet rfl rfl (by omega) (sh_r0 _ _) rfl (Nat.le_of_ble_eq_true rfl) (Nat.le_of_ble_eq_true rfl) (q_isSet hn h6) ?_
  refine sy_if_ne 20 dX7_tell_13 (by decide) (fun c13 => ?_) (fun c13 => by first | exact kd_tf (hs9) c13 | exact kd_ft (hs9) c13 | exact absurd (hs9) c13 | exact absurd c13 (hs9))
  refine ss_iload_n dX7_tell_20 2 rfl ?_
  refine sz_if_eq 35 dX7_tell_21 (by decide) (by omega) (fun c21 => by omega) (fun c21 => ?_)
  refine ss_iload_n dX7_tell_24 3 rfl ?_
  refine ss_i2l dX7_tell_25 ?_
  refine ss_ldc2 dX7_tell_26 kcX7_140 ?_
  refine ss_callS (As := [_, _]) dX7_tell_29 vlX7_142 clX7_isInSize rfl rfl (Nat.le_of_ble_eq_true rfl) (Nat.le_of_ble_eq_true rfl) (q_isInSize) ?_
  refine sy_if_ne 39 dX7_tell_32 (by decide) (fun c32 => ?_) (fun c32 => by first | exact kd_tf (hv) c32 | exact kd_ft (hv) c32 | exact absurd (hv) c32 | exact absurd c32 (hv))
  refine ss_aload_n dX7_tell_39 0 rfl ?_
  refine ss_get (i := 0) dX7_tell_40 flX7_11 (by omega) (sh_r0 _ _) rfl ?_
  refine ss_iload_n dX7_tell_43 1 rfl ?_
  refine ss_worth (w := j) dX7_tell_44 hj ?_
  refine ss_astore (lv' := [(4, _), (0, _), (1, _), (2, _), (3, _)]) dX7_tell_45 (by decide) rfl ?_
  refine ss_aload dX7_tell_47 0 rfl ?_
  refine ss_get (i := 2 + 7 * j) dX7_tell_49 flX7_123 (by omega) (sh_w0 hj _ _) rfl ?_
  rw [hh]
  refine sy_if_eq 59 dX7_tell_52 (by decide) (fun c52 => ?_) (fun c52 => by first | exact kd_tf (rfl) c52 | exact kd_ft (rfl) c52 | exact absurd (rfl) c52 | exact absurd c52 (rfl))
  refine ss_aload dX7_tell_59 0 rfl ?_
  refine ss_get (i := 2 + 7 * j) dX7_tell_61 flX7_132 (by omega) (sh_w0 hj _ _) rfl ?_
  refine ss_if_eq 73 dX7_tell_64 (by decide) (fun c64 => ?_) (fun c64 => by first | exact kd_tf (hkd) c64 | exact kd_ft (hkd) c64 | exact absurd (hkd) c64 | exact absurd c64 (hkd))
  refine ss_aload_n dX7_tell_73 1 rfl ?_
  refine ss_iconst (v := nI 0) dX7_tell_74 (by decide) ?_
  refine ss_put (i := 0) dX7_tell_75 fwX7_79 (by omega) (sh_r0 _ _) rfl rfl (Nat.le_of_ble_eq_true rfl) (sh_r0 _ _) ?_
  refine ss_aload dX7_tell_78 0 rfl ?_
  refine ss_get (i := 2 + 7 * j) dX7_tell_80 flX7_146 (by omega) (sh_w0 hj _ _) rfl ?_
  refine ss_iload_n dX7_tell_83 3 rfl ?_
  refine ss_iload_n dX7_tell_84 4 rfl ?_
  refine ss_i2l dX7_tell_85 ?_
  refine ss_last (i := 3 + 7 * j) dX7_tell_86 (by omega) (sh_w1 hj) (by omega) (by decide) ?_
  refine ss_iconst (v := nI 1) dX7_tell_87 (by decide) ?_
  exact ss_iret dX7_tell_88 rfl rfl (hQ)
set_option maxHeartbeats 4000000 in
set_option maxRecDepth 100000 in
theorem c_read_u {c : cx} {d : Nat} {X : nX} {Y : nY} {m : Nat} (hm : m ≤ 12) (h7 : X 0 7 = nI m) {w s : Int32} (hu : ix w m = false ∨ ix s 4 = false) : sc c mX7_read (d + 4) [.ref (c_ad c 0), .int w, .int s] (X) (Y) (some (.int (-1001))) (X) (Y) := by
  intro Q hQ
  show ss c mX7_read (d + 4) Q 0 [(0, .ref (c_ad c 0)), (1, .int w), (2, .int s)] [] (X) (Y)
  refine ss_aload_n dX7_read_0 0 rfl ?_
  refine ss_iload_n dX7_read_1 1 rfl ?_
  refine ss_callV (As := [_]) (i := 0) dX7_read_2 vlX7_113 clX7_isWorth rfl rfl (by omega) (sh_r0 _ _) rfl (Nat.le_of_ble_eq_true rfl) (Nat.le_of_ble_eq_true rfl) (q_isWorth hm h7) ?_
  refine sy_if_eq 15 dX7_read_5 (by decide) (fun c5 => ?_) (fun c5 => ?_)
  · skip
    refine ss_sipush (v := -1001) dX7_read_15 (by decide) ?_
    exact ss_iret dX7_read_18 rfl rfl (hQ)
  · skip
    refine ss_iload_n dX7_read_8 2 rfl ?_
    refine ss_callS (As := [_]) dX7_read_9 vlX7_68 clX7_isSheet rfl rfl (Nat.le_of_ble_eq_true rfl) (Nat.le_of_ble_eq_true rfl) (q_isSheet) ?_
    refine sy_if_ne 19 dX7_read_12 (by decide) (fun c12 => by rcases hu with h8 | h8; exact kd_tf c5 h8; exact kd_tf c12 h8) (fun c12 => ?_)
    refine ss_sipush (v := -1001) dX7_read_15 (by decide) ?_
    exact ss_iret dX7_read_18 rfl rfl (hQ)
set_option maxHeartbeats 4000000 in
set_option maxRecDepth 100000 in
theorem c_read_n {c : cx} {d : Nat} {X : nX} {Y : nY} {n : Nat} (hn : n ≤ 10) (h6 : X 0 6 = nI n) {m : Nat} (hm : m ≤ 12) (h7 : X 0 7 = nI m) {j : Nat} (hjm : j < m) (hse : X (2 + 7 * j) 7 = nI (2 ^ n)) {s : Nat} (hs : s < 4) (hh : X (2 + 7 * j) 4 = bI true) : sc c mX7_read (d + 4) [.ref (c_ad c 0), .int (nI j), .int (nI s)] (X) (Y) (some (.int (-1003))) (X) (Y) := by
  intro Q hQ
  show ss c mX7_read (d + 4) Q 0 [(0, .ref (c_ad c 0)), (1, .int (nI j)), (2, .int (nI s))] [] (X) (Y)
  have hj : j < 12 := by omega
  have hwj : ix (nI j) m = true := ix_of hjm (by omega)
  have hs9 : ix (nI s) 4 = true := ix_of hs (by decide)
  refine ss_aload_n dX7_read_0 0 rfl ?_
  refine ss_iload_n dX7_read_1 1 rfl ?_
  refine ss_callV (As := [_]) (i := 0) dX7_read_2 vlX7_113 clX7_isWorth rfl rfl (by omega) (sh_r0 _ _) rfl (Nat.le_of_ble_eq_true rfl) (Nat.le_of_ble_eq_true rfl) (q_isWorth hm h7) ?_
  refine sy_if_eq 15 dX7_read_5 (by decide) (fun c5 => by first | exact kd_tf (hwj) c5 | exact kd_ft (hwj) c5 | exact absurd (hwj) c5 | exact absurd c5 (hwj)) (fun c5 => ?_)
  refine ss_iload_n dX7_read_8 2 rfl ?_
  refine ss_callS (As := [_]) dX7_read_9 vlX7_68 clX7_isSheet rfl rfl (Nat.le_of_ble_eq_true rfl) (Nat.le_of_ble_eq_true rfl) (q_isSheet) ?_
  refine sy_if_ne 19 dX7_read_12 (by decide) (fun c12 => ?_) (fun c12 => by first | exact kd_tf (hs9) c12 | exact kd_ft (hs9) c12 | exact absurd (hs9) c12 | exact absurd c12 (hs9))
  refine ss_aload_n dX7_read_19 0 rfl ?_
  refine ss_get (i := 0) dX7_read_20 flX7_11 (by omega) (sh_r0 _ _) rfl ?_
  refine ss_iload_n dX7_read_23 1 rfl ?_
  refine ss_worth (w := j) dX7_read_24 hj ?_
  refine ss_astore_n (lv' := [(3, _), (0, _), (1, _), (2, _)]) dX7_read_25 (by decide) rfl ?_
  refine ss_aload_n dX7_read_26 1 rfl ?_
  refine ss_get (i := 0) dX7_read_27 flX7_18 (by omega) (sh_r0 _ _) rfl ?_
  refine ss_iload_n dX7_read_30 3 rfl ?_
  refine ss_sheet (w := s) dX7_read_31 hs ?_
  refine ss_astore (lv' := [(4, _), (3, _), (0, _), (1, _), (2, _)]) dX7_read_32 (by decide) rfl ?_
  refine ss_aload_n dX7_read_34 1 rfl ?_
  refine ss_get (i := 2 + 7 * j) dX7_read_35 flX7_123 (by omega) (sh_w0 hj _ _) rfl ?_
  rw [hh]
  refine sy_if_eq 45 dX7_read_38 (by decide) (fun c38 => by first | exact kd_tf (rfl) c38 | exact kd_ft (rfl) c38 | exact absurd (rfl) c38 | exact absurd c38 (rfl)) (fun c38 => ?_)
  refine ss_sipush (v := -1003) dX7_read_41 (by decide) ?_
  exact ss_iret dX7_read_44 rfl rfl (hQ)
set_option maxHeartbeats 4000000 in
set_option maxRecDepth 100000 in
theorem c_read_c5 {c : cx} {d : Nat} {X : nX} {Y : nY} {n : Nat} (hn : n ≤ 10) (h6 : X 0 6 = nI n) {m : Nat} (hm : m ≤ 12) (h7 : X 0 7 = nI m) {j : Nat} (hjm : j < m) (hse : X (2 + 7 * j) 7 = nI (2 ^ n)) {s : Nat} (hs : s < 4) (hh : X (2 + 7 * j) 4 = bI false) (hkd : ¬ X (2 + 7 * j) 5 = 0) : sc c mX7_read (d + 4) [.ref (c_ad c 0), .int (nI j), .int (nI s)] (X) (Y) (some (.int (nI 0))) (up2 X 0 8 (nI 5)) (Y) := by
  intro Q hQ
  show ss c mX7_read (d + 4) Q 0 [(0, .ref (c_ad c 0)), (1, .int (nI j)), (2, .int (nI s))] [] (X) (Y)
  have hj : j < 12 := by omega
  have hwj : ix (nI j) m = true := ix_of hjm (by omega)
  have hs9 : ix (nI s) 4 = true := ix_of hs (by decide)
  refine ss_aload_n dX7_read_0 0 rfl ?_
  refine ss_iload_n dX7_read_1 1 rfl ?_
  refine ss_callV (As := [_]) (i := 0) dX7_read_2 vlX7_113 clX7_isWorth rfl rfl (by omega) (sh_r0 _ _) rfl (Nat.le_of_ble_eq_true rfl) (Nat.le_of_ble_eq_true rfl) (q_isWorth hm h7) ?_
  refine sy_if_eq 15 dX7_read_5 (by decide) (fun c5 => by first | exact kd_tf (hwj) c5 | exact kd_ft (hwj) c5 | exact absurd (hwj) c5 | exact absurd c5 (hwj)) (fun c5 => ?_)
  refine ss_iload_n dX7_read_8 2 rfl ?_
  refine ss_callS (As := [_]) dX7_read_9 vlX7_68 clX7_isSheet rfl rfl (Nat.le_of_ble_eq_true rfl) (Nat.le_of_ble_eq_true rfl) (q_isSheet) ?_
  refine sy_if_ne 19 dX7_read_12 (by decide) (fun c12 => ?_) (fun c12 => by first | exact kd_tf (hs9) c12 | exact kd_ft (hs9) c12 | exact absurd (hs9) c12 | exact absurd c12 (hs9))
  refine ss_aload_n dX7_read_19 0 rfl ?_
  refine ss_get (i := 0) dX7_read_20 flX7_11 (by omega) (sh_r0 _ _) rfl ?_
  refine ss_iload_n dX7_read_23 1 rfl ?_
  refine ss_worth (w := j) dX7_read_24 hj ?_
  refine ss_astore_n (lv' := [(3, _), (0, _), (1, _), (2, _)]) dX7_read_25 (by decide) rfl ?_
  refine ss_aload_n dX7_read_26 1 rfl ?_
  refine ss_get (i := 0) dX7_read_27 flX7_18 (by omega) (sh_r0 _ _) rfl ?_
  refine ss_iload_n dX7_read_30 3 rfl ?_
  refine ss_sheet (w := s) dX7_read_31 hs ?_
  refine ss_astore (lv' := [(4, _), (3, _), (0, _), (1, _), (2, _)]) dX7_read_32 (by decide) rfl ?_
  refine ss_aload_n dX7_read_34 1 rfl ?_
  refine ss_get (i := 2 + 7 * j) dX7_read_35 flX7_123 (by omega) (sh_w0 hj _ _) rfl ?_
  rw [hh]
  refine sy_if_eq 45 dX7_read_38 (by decide) (fun c38 => ?_) (fun c38 => by first | exact kd_tf (rfl) c38 | exact kd_ft (rfl) c38 | exact absurd (rfl) c38 | exact absurd c38 (rfl))
  refine ss_aload_n dX7_read_45 1 rfl ?_
  refine ss_get (i := 2 + 7 * j) dX7_read_46 flX7_132 (by omega) (sh_w0 hj _ _) rfl ?_
  refine ss_if_eq 58 dX7_read_49 (by decide) (fun c49 => by first | exact kd_tf (hkd) c49 | exact kd_ft (hkd) c49 | exact absurd (hkd) c49 | exact absurd c49 (hkd)) (fun c49 => ?_)
  refine ss_aload_n dX7_read_52 2 rfl ?_
  refine ss_iconst (v := nI 5) dX7_read_53 (by decide) ?_
  refine ss_callV (As := [_]) (i := 0) dX7_read_54 vlX7_75 clX7_meet rfl rfl (by omega) (sh_r0 _ _) rfl (Nat.le_of_ble_eq_true rfl) (Nat.le_of_ble_eq_true rfl) (q_meet) ?_
  exact ss_iret dX7_read_57 rfl rfl (hQ)
set_option maxHeartbeats 4000000 in
set_option maxRecDepth 100000 in
theorem c_read_c1 {c : cx} {d : Nat} {X : nX} {Y : nY} {n : Nat} (hn : n ≤ 10) (h6 : X 0 6 = nI n) {m : Nat} (hm : m ≤ 12) (h7 : X 0 7 = nI m) {j : Nat} (hjm : j < m) (hse : X (2 + 7 * j) 7 = nI (2 ^ n)) {s : Nat} (hs : s < 4) (hh : X (2 + 7 * j) 4 = bI false) (hkd : X (2 + 7 * j) 5 = 0) (ht : X (87 + 2 * s) 1 = bI false) : sc c mX7_read (d + 4) [.ref (c_ad c 0), .int (nI j), .int (nI s)] (X) (Y) (some (.int (nI 0))) (up2 X 0 8 (nI 1)) (Y) := by
  intro Q hQ
  show ss c mX7_read (d + 4) Q 0 [(0, .ref (c_ad c 0)), (1, .int (nI j)), (2, .int (nI s))] [] (X) (Y)
  have hj : j < 12 := by omega
  have hwj : ix (nI j) m = true := ix_of hjm (by omega)
  have hs9 : ix (nI s) 4 = true := ix_of hs (by decide)
  refine ss_aload_n dX7_read_0 0 rfl ?_
  refine ss_iload_n dX7_read_1 1 rfl ?_
  refine ss_callV (As := [_]) (i := 0) dX7_read_2 vlX7_113 clX7_isWorth rfl rfl (by omega) (sh_r0 _ _) rfl (Nat.le_of_ble_eq_true rfl) (Nat.le_of_ble_eq_true rfl) (q_isWorth hm h7) ?_
  refine sy_if_eq 15 dX7_read_5 (by decide) (fun c5 => by first | exact kd_tf (hwj) c5 | exact kd_ft (hwj) c5 | exact absurd (hwj) c5 | exact absurd c5 (hwj)) (fun c5 => ?_)
  refine ss_iload_n dX7_read_8 2 rfl ?_
  refine ss_callS (As := [_]) dX7_read_9 vlX7_68 clX7_isSheet rfl rfl (Nat.le_of_ble_eq_true rfl) (Nat.le_of_ble_eq_true rfl) (q_isSheet) ?_
  refine sy_if_ne 19 dX7_read_12 (by decide) (fun c12 => ?_) (fun c12 => by first | exact kd_tf (hs9) c12 | exact kd_ft (hs9) c12 | exact absurd (hs9) c12 | exact absurd c12 (hs9))
  refine ss_aload_n dX7_read_19 0 rfl ?_
  refine ss_get (i := 0) dX7_read_20 flX7_11 (by omega) (sh_r0 _ _) rfl ?_
  refine ss_iload_n dX7_read_23 1 rfl ?_
  refine ss_worth (w := j) dX7_read_24 hj ?_
  refine ss_astore_n (lv' := [(3, _), (0, _), (1, _), (2, _)]) dX7_read_25 (by decide) rfl ?_
  refine ss_aload_n dX7_read_26 1 rfl ?_
  refine ss_get (i := 0) dX7_read_27 flX7_18 (by omega) (sh_r0 _ _) rfl ?_
  refine ss_iload_n dX7_read_30 3 rfl ?_
  refine ss_sheet (w := s) dX7_read_31 hs ?_
  refine ss_astore (lv' := [(4, _), (3, _), (0, _), (1, _), (2, _)]) dX7_read_32 (by decide) rfl ?_
  refine ss_aload_n dX7_read_34 1 rfl ?_
  refine ss_get (i := 2 + 7 * j) dX7_read_35 flX7_123 (by omega) (sh_w0 hj _ _) rfl ?_
  rw [hh]
  refine sy_if_eq 45 dX7_read_38 (by decide) (fun c38 => ?_) (fun c38 => by first | exact kd_tf (rfl) c38 | exact kd_ft (rfl) c38 | exact absurd (rfl) c38 | exact absurd c38 (rfl))
  refine ss_aload_n dX7_read_45 1 rfl ?_
  refine ss_get (i := 2 + 7 * j) dX7_read_46 flX7_132 (by omega) (sh_w0 hj _ _) rfl ?_
  refine ss_if_eq 58 dX7_read_49 (by decide) (fun c49 => ?_) (fun c49 => by first | exact kd_tf (hkd) c49 | exact kd_ft (hkd) c49 | exact absurd (hkd) c49 | exact absurd c49 (hkd))
  refine ss_aload dX7_read_58 0 rfl ?_
  refine ss_get (i := 87 + 2 * s) dX7_read_60 flX7_86 (by omega) (sh_s0 hs _ _) rfl ?_
  rw [ht]
  refine sy_if_ne 72 dX7_read_63 (by decide) (fun c63 => by first | exact kd_tf (rfl) c63 | exact kd_ft (rfl) c63 | exact absurd (rfl) c63 | exact absurd c63 (rfl)) (fun c63 => ?_)
  refine ss_aload_n dX7_read_66 2 rfl ?_
  refine ss_iconst (v := nI 1) dX7_read_67 (by decide) ?_
  refine ss_callV (As := [_]) (i := 0) dX7_read_68 vlX7_75 clX7_meet rfl rfl (by omega) (sh_r0 _ _) rfl (Nat.le_of_ble_eq_true rfl) (Nat.le_of_ble_eq_true rfl) (q_meet) ?_
  exact ss_iret dX7_read_71 rfl rfl (hQ)
set_option maxHeartbeats 4000000 in
set_option maxRecDepth 100000 in
theorem c_read_c3 {c : cx} {d : Nat} {X : nX} {Y : nY} {n : Nat} (hn : n ≤ 10) (h6 : X 0 6 = nI n) {m : Nat} (hm : m ≤ 12) (h7 : X 0 7 = nI m) {j : Nat} (hjm : j < m) (hse : X (2 + 7 * j) 7 = nI (2 ^ n)) {s : Nat} (hs : s < 4) (hh : X (2 + 7 * j) 4 = bI false) (hkd : X (2 + 7 * j) 5 = 0) (ht : X (87 + 2 * s) 1 = bI true) {k : Nat} (hk : k ≤ 1100) (hpl : X (87 + 2 * s) 3 = nI k) (h1 : 1 < 2 ^ n) (hlk : k < 2 ^ n) : sc c mX7_read (d + 4) [.ref (c_ad c 0), .int (nI j), .int (nI s)] (X) (Y) (some (.int (nI 0))) (up2 X 0 8 (nI 3)) (Y) := by
  intro Q hQ
  show ss c mX7_read (d + 4) Q 0 [(0, .ref (c_ad c 0)), (1, .int (nI j)), (2, .int (nI s))] [] (X) (Y)
  have hj : j < 12 := by omega
  have hwj : ix (nI j) m = true := ix_of hjm (by omega)
  have hs9 : ix (nI s) 4 = true := ix_of hs (by decide)
  refine ss_aload_n dX7_read_0 0 rfl ?_
  refine ss_iload_n dX7_read_1 1 rfl ?_
  refine ss_callV (As := [_]) (i := 0) dX7_read_2 vlX7_113 clX7_isWorth rfl rfl (by omega) (sh_r0 _ _) rfl (Nat.le_of_ble_eq_true rfl) (Nat.le_of_ble_eq_true rfl) (q_isWorth hm h7) ?_
  refine sy_if_eq 15 dX7_read_5 (by decide) (fun c5 => by first | exact kd_tf (hwj) c5 | exact kd_ft (hwj) c5 | exact absurd (hwj) c5 | exact absurd c5 (hwj)) (fun c5 => ?_)
  refine ss_iload_n dX7_read_8 2 rfl ?_
  refine ss_callS (As := [_]) dX7_read_9 vlX7_68 clX7_isSheet rfl rfl (Nat.le_of_ble_eq_true rfl) (Nat.le_of_ble_eq_true rfl) (q_isSheet) ?_
  refine sy_if_ne 19 dX7_read_12 (by decide) (fun c12 => ?_) (fun c12 => by first | exact kd_tf (hs9) c12 | exact kd_ft (hs9) c12 | exact absurd (hs9) c12 | exact absurd c12 (hs9))
  refine ss_aload_n dX7_read_19 0 rfl ?_
  refine ss_get (i := 0) dX7_read_20 flX7_11 (by omega) (sh_r0 _ _) rfl ?_
  refine ss_iload_n dX7_read_23 1 rfl ?_
  refine ss_worth (w := j) dX7_read_24 hj ?_
  refine ss_astore_n (lv' := [(3, _), (0, _), (1, _), (2, _)]) dX7_read_25 (by decide) rfl ?_
  refine ss_aload_n dX7_read_26 1 rfl ?_
  refine ss_get (i := 0) dX7_read_27 flX7_18 (by omega) (sh_r0 _ _) rfl ?_
  refine ss_iload_n dX7_read_30 3 rfl ?_
  refine ss_sheet (w := s) dX7_read_31 hs ?_
  refine ss_astore (lv' := [(4, _), (3, _), (0, _), (1, _), (2, _)]) dX7_read_32 (by decide) rfl ?_
  refine ss_aload_n dX7_read_34 1 rfl ?_
  refine ss_get (i := 2 + 7 * j) dX7_read_35 flX7_123 (by omega) (sh_w0 hj _ _) rfl ?_
  rw [hh]
  refine sy_if_eq 45 dX7_read_38 (by decide) (fun c38 => ?_) (fun c38 => by first | exact kd_tf (rfl) c38 | exact kd_ft (rfl) c38 | exact absurd (rfl) c38 | exact absurd c38 (rfl))
  refine ss_aload_n dX7_read_45 1 rfl ?_
  refine ss_get (i := 2 + 7 * j) dX7_read_46 flX7_132 (by omega) (sh_w0 hj _ _) rfl ?_
  refine ss_if_eq 58 dX7_read_49 (by decide) (fun c49 => ?_) (fun c49 => by first | exact kd_tf (hkd) c49 | exact kd_ft (hkd) c49 | exact absurd (hkd) c49 | exact absurd c49 (hkd))
  refine ss_aload dX7_read_58 0 rfl ?_
  refine ss_get (i := 87 + 2 * s) dX7_read_60 flX7_86 (by omega) (sh_s0 hs _ _) rfl ?_
  rw [ht]
  refine sy_if_ne 72 dX7_read_63 (by decide) (fun c63 => ?_) (fun c63 => by first | exact kd_tf (rfl) c63 | exact kd_ft (rfl) c63 | exact absurd (rfl) c63 | exact absurd c63 (rfl))
  refine ss_aload_n dX7_read_72 1 rfl ?_
  refine ss_get (i := 2 + 7 * j) dX7_read_73 flX7_149 (by omega) (sh_w0 hj _ _) rfl ?_
  rw [hse]
  refine ss_iconst (v := nI 1) dX7_read_76 (by decide) ?_
  refine sz_icmp_le 98 dX7_read_77 (by decide) (by have := p2_le hn; omega) (by decide) (fun c77 => by omega) (fun c77 => ?_)
  refine ss_aload_n dX7_read_80 1 rfl ?_
  refine ss_get (i := 2 + 7 * j) dX7_read_81 flX7_149 (by omega) (sh_w0 hj _ _) rfl ?_
  rw [hse]
  refine ss_aload dX7_read_84 0 rfl ?_
  refine ss_get (i := 87 + 2 * s) dX7_read_86 flX7_152 (by omega) (sh_s0 hs _ _) rfl ?_
  rw [hpl]
  refine sz_icmp_le 98 dX7_read_89 (by decide) (by have := p2_le hn; omega) (by omega) (fun c89 => by omega) (fun c89 => ?_)
  refine ss_aload_n dX7_read_92 2 rfl ?_
  refine ss_iconst (v := nI 3) dX7_read_93 (by decide) ?_
  refine ss_callV (As := [_]) (i := 0) dX7_read_94 vlX7_75 clX7_meet rfl rfl (by omega) (sh_r0 _ _) rfl (Nat.le_of_ble_eq_true rfl) (Nat.le_of_ble_eq_true rfl) (q_meet) ?_
  exact ss_iret dX7_read_97 rfl rfl (hQ)
set_option maxHeartbeats 4000000 in
set_option maxRecDepth 100000 in
theorem c_read_ba {c : cx} {d : Nat} {X : nX} {Y : nY} {n : Nat} (hn : n ≤ 10) (h6 : X 0 6 = nI n) {m : Nat} (hm : m ≤ 12) (h7 : X 0 7 = nI m) {j : Nat} (hjm : j < m) (hse : X (2 + 7 * j) 7 = nI (2 ^ n)) {s : Nat} (hs : s < 4) (hh : X (2 + 7 * j) 4 = bI false) (hkd : X (2 + 7 * j) 5 = 0) (ht : X (87 + 2 * s) 1 = bI true) {k : Nat} (hk : k ≤ 1100) (hpl : X (87 + 2 * s) 3 = nI k) (h1 : 2 ^ n ≤ 1) (hl : lany (fun k => decide (1 ≤ k) && !(wi (Y (88 + 2 * s) k) (-1000000) 1000000)) (2 ^ n) = true) : sc c mX7_read (d + 4) [.ref (c_ad c 0), .int (nI j), .int (nI s)] (X) (Y) (some (.int (-1003))) (X) (Y) := by
  intro Q hQ
  show ss c mX7_read (d + 4) Q 0 [(0, .ref (c_ad c 0)), (1, .int (nI j)), (2, .int (nI s))] [] (X) (Y)
  have hj : j < 12 := by omega
  have hwj : ix (nI j) m = true := ix_of hjm (by omega)
  have hs9 : ix (nI s) 4 = true := ix_of hs (by decide)
  refine ss_aload_n dX7_read_0 0 rfl ?_
  refine ss_iload_n dX7_read_1 1 rfl ?_
  refine ss_callV (As := [_]) (i := 0) dX7_read_2 vlX7_113 clX7_isWorth rfl rfl (by omega) (sh_r0 _ _) rfl (Nat.le_of_ble_eq_true rfl) (Nat.le_of_ble_eq_true rfl) (q_isWorth hm h7) ?_
  refine sy_if_eq 15 dX7_read_5 (by decide) (fun c5 => by first | exact kd_tf (hwj) c5 | exact kd_ft (hwj) c5 | exact absurd (hwj) c5 | exact absurd c5 (hwj)) (fun c5 => ?_)
  refine ss_iload_n dX7_read_8 2 rfl ?_
  refine ss_callS (As := [_]) dX7_read_9 vlX7_68 clX7_isSheet rfl rfl (Nat.le_of_ble_eq_true rfl) (Nat.le_of_ble_eq_true rfl) (q_isSheet) ?_
  refine sy_if_ne 19 dX7_read_12 (by decide) (fun c12 => ?_) (fun c12 => by first | exact kd_tf (hs9) c12 | exact kd_ft (hs9) c12 | exact absurd (hs9) c12 | exact absurd c12 (hs9))
  refine ss_aload_n dX7_read_19 0 rfl ?_
  refine ss_get (i := 0) dX7_read_20 flX7_11 (by omega) (sh_r0 _ _) rfl ?_
  refine ss_iload_n dX7_read_23 1 rfl ?_
  refine ss_worth (w := j) dX7_read_24 hj ?_
  refine ss_astore_n (lv' := [(3, _), (0, _), (1, _), (2, _)]) dX7_read_25 (by decide) rfl ?_
  refine ss_aload_n dX7_read_26 1 rfl ?_
  refine ss_get (i := 0) dX7_read_27 flX7_18 (by omega) (sh_r0 _ _) rfl ?_
  refine ss_iload_n dX7_read_30 3 rfl ?_
  refine ss_sheet (w := s) dX7_read_31 hs ?_
  refine ss_astore (lv' := [(4, _), (3, _), (0, _), (1, _), (2, _)]) dX7_read_32 (by decide) rfl ?_
  refine ss_aload_n dX7_read_34 1 rfl ?_
  refine ss_get (i := 2 + 7 * j) dX7_read_35 flX7_123 (by omega) (sh_w0 hj _ _) rfl ?_
  rw [hh]
  refine sy_if_eq 45 dX7_read_38 (by decide) (fun c38 => ?_) (fun c38 => by first | exact kd_tf (rfl) c38 | exact kd_ft (rfl) c38 | exact absurd (rfl) c38 | exact absurd c38 (rfl))
  refine ss_aload_n dX7_read_45 1 rfl ?_
  refine ss_get (i := 2 + 7 * j) dX7_read_46 flX7_132 (by omega) (sh_w0 hj _ _) rfl ?_
  refine ss_if_eq 58 dX7_read_49 (by decide) (fun c49 => ?_) (fun c49 => by first | exact kd_tf (hkd) c49 | exact kd_ft (hkd) c49 | exact absurd (hkd) c49 | exact absurd c49 (hkd))
  refine ss_aload dX7_read_58 0 rfl ?_
  refine ss_get (i := 87 + 2 * s) dX7_read_60 flX7_86 (by omega) (sh_s0 hs _ _) rfl ?_
  rw [ht]
  refine sy_if_ne 72 dX7_read_63 (by decide) (fun c63 => ?_) (fun c63 => by first | exact kd_tf (rfl) c63 | exact kd_ft (rfl) c63 | exact absurd (rfl) c63 | exact absurd c63 (rfl))
  refine ss_aload_n dX7_read_72 1 rfl ?_
  refine ss_get (i := 2 + 7 * j) dX7_read_73 flX7_149 (by omega) (sh_w0 hj _ _) rfl ?_
  rw [hse]
  refine ss_iconst (v := nI 1) dX7_read_76 (by decide) ?_
  refine sz_icmp_le 98 dX7_read_77 (by decide) (by have := p2_le hn; omega) (by decide) (fun c77 => ?_) (fun c77 => by omega)
  refine ss_aload dX7_read_98 0 rfl ?_
  refine ss_get (i := 87 + 2 * s) dX7_read_100 flX7_100 (by omega) (sh_s0 hs _ _) rfl ?_
  refine ss_aload_n dX7_read_103 1 rfl ?_
  refine ss_get (i := 2 + 7 * j) dX7_read_104 flX7_149 (by omega) (sh_w0 hj _ _) rfl ?_
  rw [hse]
  refine ss_callS (As := [_, _]) dX7_read_107 vlX7_155 clX7_canBeTold rfl rfl (Nat.le_of_ble_eq_true rfl) (Nat.le_of_ble_eq_true rfl) (q_canBeTold hs (p2_le hn) p2_1) ?_
  refine sy_if_ne 117 dX7_read_110 (by decide) (fun c110 => by first | exact kd_tf (by rw [hl]; rfl) c110 | exact kd_ft (by rw [hl]; rfl) c110 | exact absurd (by rw [hl]; rfl) c110 | exact absurd c110 (by rw [hl]; rfl)) (fun c110 => ?_)
  refine ss_sipush (v := -1003) dX7_read_113 (by decide) ?_
  exact ss_iret dX7_read_116 rfl rfl (hQ)
set_option maxHeartbeats 4000000 in
set_option maxRecDepth 100000 in
theorem c_read_bb {c : cx} {d : Nat} {X : nX} {Y : nY} {n : Nat} (hn : n ≤ 10) (h6 : X 0 6 = nI n) {m : Nat} (hm : m ≤ 12) (h7 : X 0 7 = nI m) {j : Nat} (hjm : j < m) (hse : X (2 + 7 * j) 7 = nI (2 ^ n)) {s : Nat} (hs : s < 4) (hh : X (2 + 7 * j) 4 = bI false) (hkd : X (2 + 7 * j) 5 = 0) (ht : X (87 + 2 * s) 1 = bI true) {k : Nat} (hk : k ≤ 1100) (hpl : X (87 + 2 * s) 3 = nI k) (h1 : 1 < 2 ^ n) (hlk : 2 ^ n ≤ k) (hl : lany (fun k => decide (1 ≤ k) && !(wi (Y (88 + 2 * s) k) (-1000000) 1000000)) (2 ^ n) = true) : sc c mX7_read (d + 4) [.ref (c_ad c 0), .int (nI j), .int (nI s)] (X) (Y) (some (.int (-1003))) (X) (Y) := by
  intro Q hQ
  show ss c mX7_read (d + 4) Q 0 [(0, .ref (c_ad c 0)), (1, .int (nI j)), (2, .int (nI s))] [] (X) (Y)
  have hj : j < 12 := by omega
  have hwj : ix (nI j) m = true := ix_of hjm (by omega)
  have hs9 : ix (nI s) 4 = true := ix_of hs (by decide)
  refine ss_aload_n dX7_read_0 0 rfl ?_
  refine ss_iload_n dX7_read_1 1 rfl ?_
  refine ss_callV (As := [_]) (i := 0) dX7_read_2 vlX7_113 clX7_isWorth rfl rfl (by omega) (sh_r0 _ _) rfl (Nat.le_of_ble_eq_true rfl) (Nat.le_of_ble_eq_true rfl) (q_isWorth hm h7) ?_
  refine sy_if_eq 15 dX7_read_5 (by decide) (fun c5 => by first | exact kd_tf (hwj) c5 | exact kd_ft (hwj) c5 | exact absurd (hwj) c5 | exact absurd c5 (hwj)) (fun c5 => ?_)
  refine ss_iload_n dX7_read_8 2 rfl ?_
  refine ss_callS (As := [_]) dX7_read_9 vlX7_68 clX7_isSheet rfl rfl (Nat.le_of_ble_eq_true rfl) (Nat.le_of_ble_eq_true rfl) (q_isSheet) ?_
  refine sy_if_ne 19 dX7_read_12 (by decide) (fun c12 => ?_) (fun c12 => by first | exact kd_tf (hs9) c12 | exact kd_ft (hs9) c12 | exact absurd (hs9) c12 | exact absurd c12 (hs9))
  refine ss_aload_n dX7_read_19 0 rfl ?_
  refine ss_get (i := 0) dX7_read_20 flX7_11 (by omega) (sh_r0 _ _) rfl ?_
  refine ss_iload_n dX7_read_23 1 rfl ?_
  refine ss_worth (w := j) dX7_read_24 hj ?_
  refine ss_astore_n (lv' := [(3, _), (0, _), (1, _), (2, _)]) dX7_read_25 (by decide) rfl ?_
  refine ss_aload_n dX7_read_26 1 rfl ?_
  refine ss_get (i := 0) dX7_read_27 flX7_18 (by omega) (sh_r0 _ _) rfl ?_
  refine ss_iload_n dX7_read_30 3 rfl ?_
  refine ss_sheet (w := s) dX7_read_31 hs ?_
  refine ss_astore (lv' := [(4, _), (3, _), (0, _), (1, _), (2, _)]) dX7_read_32 (by decide) rfl ?_
  refine ss_aload_n dX7_read_34 1 rfl ?_
  refine ss_get (i := 2 + 7 * j) dX7_read_35 flX7_123 (by omega) (sh_w0 hj _ _) rfl ?_
  rw [hh]
  refine sy_if_eq 45 dX7_read_38 (by decide) (fun c38 => ?_) (fun c38 => by first | exact kd_tf (rfl) c38 | exact kd_ft (rfl) c38 | exact absurd (rfl) c38 | exact absurd c38 (rfl))
  refine ss_aload_n dX7_read_45 1 rfl ?_
  refine ss_get (i := 2 + 7 * j) dX7_read_46 flX7_132 (by omega) (sh_w0 hj _ _) rfl ?_
  refine ss_if_eq 58 dX7_read_49 (by decide) (fun c49 => ?_) (fun c49 => by first | exact kd_tf (hkd) c49 | exact kd_ft (hkd) c49 | exact absurd (hkd) c49 | exact absurd c49 (hkd))
  refine ss_aload dX7_read_58 0 rfl ?_
  refine ss_get (i := 87 + 2 * s) dX7_read_60 flX7_86 (by omega) (sh_s0 hs _ _) rfl ?_
  rw [ht]
  refine sy_if_ne 72 dX7_read_63 (by decide) (fun c63 => ?_) (fun c63 => by first | exact kd_tf (rfl) c63 | exact kd_ft (rfl) c63 | exact absurd (rfl) c63 | exact absurd c63 (rfl))
  refine ss_aload_n dX7_read_72 1 rfl ?_
  refine ss_get (i := 2 + 7 * j) dX7_read_73 flX7_149 (by omega) (sh_w0 hj _ _) rfl ?_
  rw [hse]
  refine ss_iconst (v := nI 1) dX7_read_76 (by decide) ?_
  refine sz_icmp_le 98 dX7_read_77 (by decide) (by have := p2_le hn; omega) (by decide) (fun c77 => by omega) (fun c77 => ?_)
  refine ss_aload_n dX7_read_80 1 rfl ?_
  refine ss_get (i := 2 + 7 * j) dX7_read_81 flX7_149 (by omega) (sh_w0 hj _ _) rfl ?_
  rw [hse]
  refine ss_aload dX7_read_84 0 rfl ?_
  refine ss_get (i := 87 + 2 * s) dX7_read_86 flX7_152 (by omega) (sh_s0 hs _ _) rfl ?_
  rw [hpl]
  refine sz_icmp_le 98 dX7_read_89 (by decide) (by have := p2_le hn; omega) (by omega) (fun c89 => ?_) (fun c89 => by omega)
  refine ss_aload dX7_read_98 0 rfl ?_
  refine ss_get (i := 87 + 2 * s) dX7_read_100 flX7_100 (by omega) (sh_s0 hs _ _) rfl ?_
  refine ss_aload_n dX7_read_103 1 rfl ?_
  refine ss_get (i := 2 + 7 * j) dX7_read_104 flX7_149 (by omega) (sh_w0 hj _ _) rfl ?_
  rw [hse]
  refine ss_callS (As := [_, _]) dX7_read_107 vlX7_155 clX7_canBeTold rfl rfl (Nat.le_of_ble_eq_true rfl) (Nat.le_of_ble_eq_true rfl) (q_canBeTold hs (p2_le hn) p2_1) ?_
  refine sy_if_ne 117 dX7_read_110 (by decide) (fun c110 => by first | exact kd_tf (by rw [hl]; rfl) c110 | exact kd_ft (by rw [hl]; rfl) c110 | exact absurd (by rw [hl]; rfl) c110 | exact absurd c110 (by rw [hl]; rfl)) (fun c110 => ?_)
  refine ss_sipush (v := -1003) dX7_read_113 (by decide) ?_
  exact ss_iret dX7_read_116 rfl rfl (hQ)
set_option maxHeartbeats 4000000 in
set_option maxRecDepth 100000 in
theorem l_read {c : cx} {d : Nat} {X : nX} {Y : nY} {Q : Option Value → nX → nY → Prop} {j s S : Nat} (hj : j < 12) (hs : s < 4) (hS : S ≤ 1024) (hse : X (2 + 7 * j) 7 = nI S) (hQ : Q (some (.int (nI 1))) X (mpl Y (3 + 7 * j) 1 S (fun k => Y (88 + 2 * s) k))) : ∀ (nn i : Nat), i + nn = S → (1 ≤ i) → ss c mX7_read (d + 4) Q 125 [(5, .int (nI i)), (4, .ref (c_ad c (87 + 2 * s))), (3, .ref (c_ad c (2 + 7 * j))), (0, .ref (c_ad c 0)), (1, .int (nI j)), (2, .int (nI s))] [] (X) (mpl Y (3 + 7 * j) 1 i (fun k => Y (88 + 2 * s) k)) := by
  intro nn
  induction nn with
  | zero =>
      intro i hin hinv
      simp only [Nat.add_zero] at hin
      subst hin
      refine ss_iload dX7_read_125 0 rfl ?_
      refine ss_aload_n dX7_read_127 2 rfl ?_
      refine ss_get (i := 2 + 7 * j) dX7_read_128 flX7_149 (by omega) (sh_w0 hj _ _) rfl ?_
      rw [hse]
      refine sz_icmp_ge 155 dX7_read_131 (by decide) (by omega) (by omega) (fun c131 => ?_) (fun c131 => by omega)
      refine ss_iconst (v := nI 1) dX7_read_155 (by decide) ?_
      exact ss_iret dX7_read_156 rfl rfl (hQ)
  | succ nn ih =>
      intro i hin hinv
      refine ss_iload dX7_read_125 0 rfl ?_
      refine ss_aload_n dX7_read_127 2 rfl ?_
      refine ss_get (i := 2 + 7 * j) dX7_read_128 flX7_149 (by omega) (sh_w0 hj _ _) rfl ?_
      rw [hse]
      refine sz_icmp_ge 155 dX7_read_131 (by decide) (by omega) (by omega) (fun c131 => by omega) (fun c131 => ?_)
      refine ss_aload_n dX7_read_134 2 rfl ?_
      refine ss_get (i := 2 + 7 * j) dX7_read_135 flX7_146 (by omega) (sh_w0 hj _ _) rfl ?_
      refine ss_iload dX7_read_138 0 rfl ?_
      refine ss_aload dX7_read_140 1 rfl ?_
      refine ss_get (i := 87 + 2 * s) dX7_read_142 flX7_100 (by omega) (sh_s0 hs _ _) rfl ?_
      refine ss_iload dX7_read_145 0 rfl ?_
      refine ss_lald (i := 88 + 2 * s) dX7_read_147 (by omega) (sh_s1 hs) (by omega) (by decide) ?_
      rw [mpl_ne (by omega)]
      refine ss_last (i := 3 + 7 * j) dX7_read_148 (by omega) (sh_w1 hj) (by omega) (by decide) ?_
      refine sz_inc (lv' := [(5, _), (4, _), (3, _), (0, _), (1, _), (2, _)]) dX7_read_149 0 rfl (by decide) rfl ?_
      refine ss_goto 125 dX7_read_152 (by decide) ?_
      refine ss_eY (mpl_s hinv rfl) ?_
      exact ih (i + 1) (by omega) (by omega)
set_option maxHeartbeats 4000000 in
set_option maxRecDepth 100000 in
theorem c_read_ka {c : cx} {d : Nat} {X : nX} {Y : nY} {n : Nat} (hn : n ≤ 10) (h6 : X 0 6 = nI n) {m : Nat} (hm : m ≤ 12) (h7 : X 0 7 = nI m) {j : Nat} (hjm : j < m) (hse : X (2 + 7 * j) 7 = nI (2 ^ n)) {s : Nat} (hs : s < 4) (hh : X (2 + 7 * j) 4 = bI false) (hkd : X (2 + 7 * j) 5 = 0) (ht : X (87 + 2 * s) 1 = bI true) {k : Nat} (hk : k ≤ 1100) (hpl : X (87 + 2 * s) 3 = nI k) (h1 : 2 ^ n ≤ 1) (hl : lany (fun k => decide (1 ≤ k) && !(wi (Y (88 + 2 * s) k) (-1000000) 1000000)) (2 ^ n) = false) : sc c mX7_read (d + 4) [.ref (c_ad c 0), .int (nI j), .int (nI s)] (X) (Y) (some (.int (nI 1))) (up2 X 0 8 (nI 0)) (mpl Y (3 + 7 * j) 1 (2 ^ n) (fun k => Y (88 + 2 * s) k)) := by
  intro Q hQ
  show ss c mX7_read (d + 4) Q 0 [(0, .ref (c_ad c 0)), (1, .int (nI j)), (2, .int (nI s))] [] (X) (Y)
  have hj : j < 12 := by omega
  have hwj : ix (nI j) m = true := ix_of hjm (by omega)
  have hs9 : ix (nI s) 4 = true := ix_of hs (by decide)
  refine ss_aload_n dX7_read_0 0 rfl ?_
  refine ss_iload_n dX7_read_1 1 rfl ?_
  refine ss_callV (As := [_]) (i := 0) dX7_read_2 vlX7_113 clX7_isWorth rfl rfl (by omega) (sh_r0 _ _) rfl (Nat.le_of_ble_eq_true rfl) (Nat.le_of_ble_eq_true rfl) (q_isWorth hm h7) ?_
  refine sy_if_eq 15 dX7_read_5 (by decide) (fun c5 => by first | exact kd_tf (hwj) c5 | exact kd_ft (hwj) c5 | exact absurd (hwj) c5 | exact absurd c5 (hwj)) (fun c5 => ?_)
  refine ss_iload_n dX7_read_8 2 rfl ?_
  refine ss_callS (As := [_]) dX7_read_9 vlX7_68 clX7_isSheet rfl rfl (Nat.le_of_ble_eq_true rfl) (Nat.le_of_ble_eq_true rfl) (q_isSheet) ?_
  refine sy_if_ne 19 dX7_read_12 (by decide) (fun c12 => ?_) (fun c12 => by first | exact kd_tf (hs9) c12 | exact kd_ft (hs9) c12 | exact absurd (hs9) c12 | exact absurd c12 (hs9))
  refine ss_aload_n dX7_read_19 0 rfl ?_
  refine ss_get (i := 0) dX7_read_20 flX7_11 (by omega) (sh_r0 _ _) rfl ?_
  refine ss_iload_n dX7_read_23 1 rfl ?_
  refine ss_worth (w := j) dX7_read_24 hj ?_
  refine ss_astore_n (lv' := [(3, _), (0, _), (1, _), (2, _)]) dX7_read_25 (by decide) rfl ?_
  refine ss_aload_n dX7_read_26 1 rfl ?_
  refine ss_get (i := 0) dX7_read_27 flX7_18 (by omega) (sh_r0 _ _) rfl ?_
  refine ss_iload_n dX7_read_30 3 rfl ?_
  refine ss_sheet (w := s) dX7_read_31 hs ?_
  refine ss_astore (lv' := [(4, _), (3, _), (0, _), (1, _), (2, _)]) dX7_read_32 (by decide) rfl ?_
  refine ss_aload_n dX7_read_34 1 rfl ?_
  refine ss_get (i := 2 + 7 * j) dX7_read_35 flX7_123 (by omega) (sh_w0 hj _ _) rfl ?_
  rw [hh]
  refine sy_if_eq 45 dX7_read_38 (by decide) (fun c38 => ?_) (fun c38 => by first | exact kd_tf (rfl) c38 | exact kd_ft (rfl) c38 | exact absurd (rfl) c38 | exact absurd c38 (rfl))
  refine ss_aload_n dX7_read_45 1 rfl ?_
  refine ss_get (i := 2 + 7 * j) dX7_read_46 flX7_132 (by omega) (sh_w0 hj _ _) rfl ?_
  refine ss_if_eq 58 dX7_read_49 (by decide) (fun c49 => ?_) (fun c49 => by first | exact kd_tf (hkd) c49 | exact kd_ft (hkd) c49 | exact absurd (hkd) c49 | exact absurd c49 (hkd))
  refine ss_aload dX7_read_58 0 rfl ?_
  refine ss_get (i := 87 + 2 * s) dX7_read_60 flX7_86 (by omega) (sh_s0 hs _ _) rfl ?_
  rw [ht]
  refine sy_if_ne 72 dX7_read_63 (by decide) (fun c63 => ?_) (fun c63 => by first | exact kd_tf (rfl) c63 | exact kd_ft (rfl) c63 | exact absurd (rfl) c63 | exact absurd c63 (rfl))
  refine ss_aload_n dX7_read_72 1 rfl ?_
  refine ss_get (i := 2 + 7 * j) dX7_read_73 flX7_149 (by omega) (sh_w0 hj _ _) rfl ?_
  rw [hse]
  refine ss_iconst (v := nI 1) dX7_read_76 (by decide) ?_
  refine sz_icmp_le 98 dX7_read_77 (by decide) (by have := p2_le hn; omega) (by decide) (fun c77 => ?_) (fun c77 => by omega)
  refine ss_aload dX7_read_98 0 rfl ?_
  refine ss_get (i := 87 + 2 * s) dX7_read_100 flX7_100 (by omega) (sh_s0 hs _ _) rfl ?_
  refine ss_aload_n dX7_read_103 1 rfl ?_
  refine ss_get (i := 2 + 7 * j) dX7_read_104 flX7_149 (by omega) (sh_w0 hj _ _) rfl ?_
  rw [hse]
  refine ss_callS (As := [_, _]) dX7_read_107 vlX7_155 clX7_canBeTold rfl rfl (Nat.le_of_ble_eq_true rfl) (Nat.le_of_ble_eq_true rfl) (q_canBeTold hs (p2_le hn) p2_1) ?_
  refine sy_if_ne 117 dX7_read_110 (by decide) (fun c110 => ?_) (fun c110 => by first | exact kd_tf (by rw [hl]; rfl) c110 | exact kd_ft (by rw [hl]; rfl) c110 | exact absurd (by rw [hl]; rfl) c110 | exact absurd c110 (by rw [hl]; rfl))
  refine ss_aload_n dX7_read_117 2 rfl ?_
  refine ss_iconst (v := nI 0) dX7_read_118 (by decide) ?_
  refine ss_put (i := 0) dX7_read_119 fwX7_79 (by omega) (sh_r0 _ _) rfl rfl (Nat.le_of_ble_eq_true rfl) (sh_r0 _ _) ?_
  refine ss_iconst (v := nI 1) dX7_read_122 (by decide) ?_
  refine ss_istore (lv' := [(5, _), (4, _), (3, _), (0, _), (1, _), (2, _)]) dX7_read_123 (by decide) rfl ?_
  have h9 := l_read (X := up2 X 0 8 (nI 0)) (Y := Y) (c := c) (d := d) (Q := Q) hj hs (p2_le hn) (by rw [up2_at, if_neg (by omega)]; exact hse) hQ (2 ^ n - 1) 1 (by have := p2_1 (n := n); omega) (Nat.le_refl _)
  rw [mpl_0] at h9
  exact h9
set_option maxHeartbeats 4000000 in
set_option maxRecDepth 100000 in
theorem c_read_kb {c : cx} {d : Nat} {X : nX} {Y : nY} {n : Nat} (hn : n ≤ 10) (h6 : X 0 6 = nI n) {m : Nat} (hm : m ≤ 12) (h7 : X 0 7 = nI m) {j : Nat} (hjm : j < m) (hse : X (2 + 7 * j) 7 = nI (2 ^ n)) {s : Nat} (hs : s < 4) (hh : X (2 + 7 * j) 4 = bI false) (hkd : X (2 + 7 * j) 5 = 0) (ht : X (87 + 2 * s) 1 = bI true) {k : Nat} (hk : k ≤ 1100) (hpl : X (87 + 2 * s) 3 = nI k) (h1 : 1 < 2 ^ n) (hlk : 2 ^ n ≤ k) (hl : lany (fun k => decide (1 ≤ k) && !(wi (Y (88 + 2 * s) k) (-1000000) 1000000)) (2 ^ n) = false) : sc c mX7_read (d + 4) [.ref (c_ad c 0), .int (nI j), .int (nI s)] (X) (Y) (some (.int (nI 1))) (up2 X 0 8 (nI 0)) (mpl Y (3 + 7 * j) 1 (2 ^ n) (fun k => Y (88 + 2 * s) k)) := by
  intro Q hQ
  show ss c mX7_read (d + 4) Q 0 [(0, .ref (c_ad c 0)), (1, .int (nI j)), (2, .int (nI s))] [] (X) (Y)
  have hj : j < 12 := by omega
  have hwj : ix (nI j) m = true := ix_of hjm (by omega)
  have hs9 : ix (nI s) 4 = true := ix_of hs (by decide)
  refine ss_aload_n dX7_read_0 0 rfl ?_
  refine ss_iload_n dX7_read_1 1 rfl ?_
  refine ss_callV (As := [_]) (i := 0) dX7_read_2 vlX7_113 clX7_isWorth rfl rfl (by omega) (sh_r0 _ _) rfl (Nat.le_of_ble_eq_true rfl) (Nat.le_of_ble_eq_true rfl) (q_isWorth hm h7) ?_
  refine sy_if_eq 15 dX7_read_5 (by decide) (fun c5 => by first | exact kd_tf (hwj) c5 | exact kd_ft (hwj) c5 | exact absurd (hwj) c5 | exact absurd c5 (hwj)) (fun c5 => ?_)
  refine ss_iload_n dX7_read_8 2 rfl ?_
  refine ss_callS (As := [_]) dX7_read_9 vlX7_68 clX7_isSheet rfl rfl (Nat.le_of_ble_eq_true rfl) (Nat.le_of_ble_eq_true rfl) (q_isSheet) ?_
  refine sy_if_ne 19 dX7_read_12 (by decide) (fun c12 => ?_) (fun c12 => by first | exact kd_tf (hs9) c12 | exact kd_ft (hs9) c12 | exact absurd (hs9) c12 | exact absurd c12 (hs9))
  refine ss_aload_n dX7_read_19 0 rfl ?_
  refine ss_get (i := 0) dX7_read_20 flX7_11 (by omega) (sh_r0 _ _) rfl ?_
  refine ss_iload_n dX7_read_23 1 rfl ?_
  refine ss_worth (w := j) dX7_read_24 hj ?_
  refine ss_astore_n (lv' := [(3, _), (0, _), (1, _), (2, _)]) dX7_read_25 (by decide) rfl ?_
  refine ss_aload_n dX7_read_26 1 rfl ?_
  refine ss_get (i := 0) dX7_read_27 flX7_18 (by omega) (sh_r0 _ _) rfl ?_
  refine ss_iload_n dX7_read_30 3 rfl ?_
  refine ss_sheet (w := s) dX7_read_31 hs ?_
  refine ss_astore (lv' := [(4, _), (3, _), (0, _), (1, _), (2, _)]) dX7_read_32 (by decide) rfl ?_
  refine ss_aload_n dX7_read_34 1 rfl ?_
  refine ss_get (i := 2 + 7 * j) dX7_read_35 flX7_123 (by omega) (sh_w0 hj _ _) rfl ?_
  rw [hh]
  refine sy_if_eq 45 dX7_read_38 (by decide) (fun c38 => ?_) (fun c38 => by first | exact kd_tf (rfl) c38 | exact kd_ft (rfl) c38 | exact absurd (rfl) c38 | exact absurd c38 (rfl))
  refine ss_aload_n dX7_read_45 1 rfl ?_
  refine ss_get (i := 2 + 7 * j) dX7_read_46 flX7_132 (by omega) (sh_w0 hj _ _) rfl ?_
  refine ss_if_eq 58 dX7_read_49 (by decide) (fun c49 => ?_) (fun c49 => by first | exact kd_tf (hkd) c49 | exact kd_ft (hkd) c49 | exact absurd (hkd) c49 | exact absurd c49 (hkd))
  refine ss_aload dX7_read_58 0 rfl ?_
  refine ss_get (i := 87 + 2 * s) dX7_read_60 flX7_86 (by omega) (sh_s0 hs _ _) rfl ?_
  rw [ht]
  refine sy_if_ne 72 dX7_read_63 (by decide) (fun c63 => ?_) (fun c63 => by first | exact kd_tf (rfl) c63 | exact kd_ft (rfl) c63 | exact absurd (rfl) c63 | exact absurd c63 (rfl))
  refine ss_aload_n dX7_read_72 1 rfl ?_
  refine ss_get (i := 2 + 7 * j) dX7_read_73 flX7_149 (by omega) (sh_w0 hj _ _) rfl ?_
  rw [hse]
  refine ss_iconst (v := nI 1) dX7_read_76 (by decide) ?_
  refine sz_icmp_le 98 dX7_read_77 (by decide) (by have := p2_le hn; omega) (by decide) (fun c77 => by omega) (fun c77 => ?_)
  refine ss_aload_n dX7_read_80 1 rfl ?_
  refine ss_get (i := 2 + 7 * j) dX7_read_81 flX7_149 (by omega) (sh_w0 hj _ _) rfl ?_
  rw [hse]
  refine ss_aload dX7_read_84 0 rfl ?_
  refine ss_get (i := 87 + 2 * s) dX7_read_86 flX7_152 (by omega) (sh_s0 hs _ _) rfl ?_
  rw [hpl]
  refine sz_icmp_le 98 dX7_read_89 (by decide) (by have := p2_le hn; omega) (by omega) (fun c89 => ?_) (fun c89 => by omega)
  refine ss_aload dX7_read_98 0 rfl ?_
  refine ss_get (i := 87 + 2 * s) dX7_read_100 flX7_100 (by omega) (sh_s0 hs _ _) rfl ?_
  refine ss_aload_n dX7_read_103 1 rfl ?_
  refine ss_get (i := 2 + 7 * j) dX7_read_104 flX7_149 (by omega) (sh_w0 hj _ _) rfl ?_
  rw [hse]
  refine ss_callS (As := [_, _]) dX7_read_107 vlX7_155 clX7_canBeTold rfl rfl (Nat.le_of_ble_eq_true rfl) (Nat.le_of_ble_eq_true rfl) (q_canBeTold hs (p2_le hn) p2_1) ?_
  refine sy_if_ne 117 dX7_read_110 (by decide) (fun c110 => ?_) (fun c110 => by first | exact kd_tf (by rw [hl]; rfl) c110 | exact kd_ft (by rw [hl]; rfl) c110 | exact absurd (by rw [hl]; rfl) c110 | exact absurd c110 (by rw [hl]; rfl))
  refine ss_aload_n dX7_read_117 2 rfl ?_
  refine ss_iconst (v := nI 0) dX7_read_118 (by decide) ?_
  refine ss_put (i := 0) dX7_read_119 fwX7_79 (by omega) (sh_r0 _ _) rfl rfl (Nat.le_of_ble_eq_true rfl) (sh_r0 _ _) ?_
  refine ss_iconst (v := nI 1) dX7_read_122 (by decide) ?_
  refine ss_istore (lv' := [(5, _), (4, _), (3, _), (0, _), (1, _), (2, _)]) dX7_read_123 (by decide) rfl ?_
  have h9 := l_read (X := up2 X 0 8 (nI 0)) (Y := Y) (c := c) (d := d) (Q := Q) hj hs (p2_le hn) (by rw [up2_at, if_neg (by omega)]; exact hse) hQ (2 ^ n - 1) 1 (by have := p2_1 (n := n); omega) (Nat.le_refl _)
  rw [mpl_0] at h9
  exact h9
set_option maxHeartbeats 4000000 in
set_option maxRecDepth 100000 in
theorem c_line_u {c : cx} {d : Nat} {X : nX} {Y : nY} {n : Nat} (hn : n ≤ 10) (h6 : X 0 6 = nI n) {m : Nat} (hm : m ≤ 12) (h7 : X 0 7 = nI m) {w a b v : Int32} (hu : ix w m = false ∨ ix a n = false ∨ ix b n = false) : sc c mX7_line (d + 3) [.ref (c_ad c 0), .int w, .int a, .int b, .int v] (X) (Y) (some (.int (-1001))) (X) (Y) := by
  intro Q hQ
  show ss c mX7_line (d + 3) Q 0 [(0, .ref (c_ad c 0)), (1, .int w), (2, .int a), (3, .int b), (4, .int v)] [] (X) (Y)
  refine ss_aload_n dX7_line_0 0 rfl ?_
  refine ss_iload_n dX7_line_1 1 rfl ?_
  refine ss_callV (As := [_]) (i := 0) dX7_line_2 vlX7_113 clX7_isWorth rfl rfl (by omega) (sh_r0 _ _) rfl (Nat.le_of_ble_eq_true rfl) (Nat.le_of_ble_eq_true rfl) (q_isWorth hm h7) ?_
  refine sy_if_eq 24 dX7_line_5 (by decide) (fun c5 => ?_) (fun c5 => ?_)
  · skip
    refine ss_sipush (v := -1001) dX7_line_24 (by decide) ?_
    exact ss_iret dX7_line_27 rfl rfl (hQ)
  · skip
    refine ss_aload_n dX7_line_8 0 rfl ?_
    refine ss_iload_n dX7_line_9 2 rfl ?_
    refine ss_callV (As := [_]) (i := 0) dX7_line_10 vlX7_159 clX7_isThing rfl rfl (by omega) (sh_r0 _ _) rfl (Nat.le_of_ble_eq_true rfl) (Nat.le_of_ble_eq_true rfl) (q_isThing hn h6) ?_
    refine sy_if_eq 24 dX7_line_13 (by decide) (fun c13 => ?_) (fun c13 => ?_)
    · skip
      refine ss_sipush (v := -1001) dX7_line_24 (by decide) ?_
      exact ss_iret dX7_line_27 rfl rfl (hQ)
    · skip
      refine ss_aload_n dX7_line_16 0 rfl ?_
      refine ss_iload_n dX7_line_17 3 rfl ?_
      refine ss_callV (As := [_]) (i := 0) dX7_line_18 vlX7_159 clX7_isThing rfl rfl (by omega) (sh_r0 _ _) rfl (Nat.le_of_ble_eq_true rfl) (Nat.le_of_ble_eq_true rfl) (q_isThing hn h6) ?_
      refine sy_if_ne 28 dX7_line_21 (by decide) (fun c21 => by rcases hu with h8 | h8 | h8; exact kd_tf c5 h8; exact kd_tf c13 h8; exact kd_tf c21 h8) (fun c21 => ?_)
      refine ss_sipush (v := -1001) dX7_line_24 (by decide) ?_
      exact ss_iret dX7_line_27 rfl rfl (hQ)
set_option maxHeartbeats 4000000 in
set_option maxRecDepth 100000 in
theorem c_line_o {c : cx} {d : Nat} {X : nX} {Y : nY} {n : Nat} (hn : n ≤ 10) (h6 : X 0 6 = nI n) {m : Nat} (hm : m ≤ 12) (h7 : X 0 7 = nI m) {j : Nat} (hjm : j < m) {a b : Nat} (ha : a < n) (hb0 : b < n) {v : Int32} (hv : ix v 10001 = false) : sc c mX7_line (d + 3) [.ref (c_ad c 0), .int (nI j), .int (nI a), .int (nI b), .int v] (X) (Y) (some (.int (-1002))) (X) (Y) := by
  intro Q hQ
  show ss c mX7_line (d + 3) Q 0 [(0, .ref (c_ad c 0)), (1, .int (nI j)), (2, .int (nI a)), (3, .int (nI b)), (4, .int v)] [] (X) (Y)
  have hj : j < 12 := by omega
  have hwj : ix (nI j) m = true := ix_of hjm (by omega)
  have ha9 : ix (nI a) n = true := ix_of ha (by omega)
  have hb9 : ix (nI b) n = true := ix_of hb0 (by omega)
  refine ss_aload_n dX7_line_0 0 rfl ?_
  refine ss_iload_n dX7_line_1 1 rfl ?_
  refine ss_callV (As := [_]) (i := 0) dX7_line_2 vlX7_113 clX7_isWorth rfl rfl (by omega) (sh_r0 _ _) rfl (Nat.le_of_ble_eq_true rfl) (Nat.le_of_ble_eq_true rfl) (q_isWorth hm h7) ?_
  refine sy_if_eq 24 dX7_line_5 (by decide) (fun c5 => by first | exact kd_tf (hwj) c5 | exact kd_ft (hwj) c5 | exact absurd (hwj) c5 | exact absurd c5 (hwj)) (fun c5 => ?_)
  refine ss_aload_n dX7_line_8 0 rfl ?_
  refine ss_iload_n dX7_line_9 2 rfl ?_
  refine ss_callV (As := [_]) (i := 0) dX7_line_10 vlX7_159 clX7_isThing rfl rfl (by omega) (sh_r0 _ _) rfl (Nat.le_of_ble_eq_true rfl) (Nat.le_of_ble_eq_true rfl) (q_isThing hn h6) ?_
  refine sy_if_eq 24 dX7_line_13 (by decide) (fun c13 => by first | exact kd_tf (ha9) c13 | exact kd_ft (ha9) c13 | exact absurd (ha9) c13 | exact absurd c13 (ha9)) (fun c13 => ?_)
  refine ss_aload_n dX7_line_16 0 rfl ?_
  refine ss_iload_n dX7_line_17 3 rfl ?_
  refine ss_callV (As := [_]) (i := 0) dX7_line_18 vlX7_159 clX7_isThing rfl rfl (by omega) (sh_r0 _ _) rfl (Nat.le_of_ble_eq_true rfl) (Nat.le_of_ble_eq_true rfl) (q_isThing hn h6) ?_
  refine sy_if_ne 28 dX7_line_21 (by decide) (fun c21 => ?_) (fun c21 => by first | exact kd_tf (hb9) c21 | exact kd_ft (hb9) c21 | exact absurd (hb9) c21 | exact absurd c21 (hb9))
  refine ss_iload dX7_line_28 4 rfl ?_
  refine ss_i2l dX7_line_30 ?_
  refine ss_lconst (v := 0) dX7_line_31 (by decide) ?_
  refine ss_ldc2 dX7_line_32 kcX7_162 ?_
  refine ss_callS (As := [_, _, _]) dX7_line_35 vlX7_53 clX7_isWithin rfl rfl (Nat.le_of_ble_eq_true rfl) (Nat.le_of_ble_eq_true rfl) (q_isWithin) ?_
  refine sy_if_ne 45 dX7_line_38 (by decide) (fun c38 => by first | exact kd_tf (by rw [wi_ix (n := 10001) rfl]; exact hv) c38 | exact kd_ft (by rw [wi_ix (n := 10001) rfl]; exact hv) c38 | exact absurd (by rw [wi_ix (n := 10001) rfl]; exact hv) c38 | exact absurd c38 (by rw [wi_ix (n := 10001) rfl]; exact hv)) (fun c38 => ?_)
  refine ss_sipush (v := -1002) dX7_line_41 (by decide) ?_
  exact ss_iret dX7_line_44 rfl rfl (hQ)
set_option maxHeartbeats 4000000 in
set_option maxRecDepth 100000 in
theorem c_line_n1 {c : cx} {d : Nat} {X : nX} {Y : nY} {n : Nat} (hn : n ≤ 10) (h6 : X 0 6 = nI n) {m : Nat} (hm : m ≤ 12) (h7 : X 0 7 = nI m) {j : Nat} (hjm : j < m) {a b : Nat} (ha : a < n) (hb0 : b < n) {v : Int32} (hv : ix v 10001 = true) (hh : X (2 + 7 * j) 4 = bI true) : sc c mX7_line (d + 3) [.ref (c_ad c 0), .int (nI j), .int (nI a), .int (nI b), .int v] (X) (Y) (some (.int (-1003))) (X) (Y) := by
  intro Q hQ
  show ss c mX7_line (d + 3) Q 0 [(0, .ref (c_ad c 0)), (1, .int (nI j)), (2, .int (nI a)), (3, .int (nI b)), (4, .int v)] [] (X) (Y)
  have hj : j < 12 := by omega
  have hwj : ix (nI j) m = true := ix_of hjm (by omega)
  have ha9 : ix (nI a) n = true := ix_of ha (by omega)
  have hb9 : ix (nI b) n = true := ix_of hb0 (by omega)
  refine ss_aload_n dX7_line_0 0 rfl ?_
  refine ss_iload_n dX7_line_1 1 rfl ?_
  refine ss_callV (As := [_]) (i := 0) dX7_line_2 vlX7_113 clX7_isWorth rfl rfl (by omega) (sh_r0 _ _) rfl (Nat.le_of_ble_eq_true rfl) (Nat.le_of_ble_eq_true rfl) (q_isWorth hm h7) ?_
  refine sy_if_eq 24 dX7_line_5 (by decide) (fun c5 => by first | exact kd_tf (hwj) c5 | exact kd_ft (hwj) c5 | exact absurd (hwj) c5 | exact absurd c5 (hwj)) (fun c5 => ?_)
  refine ss_aload_n dX7_line_8 0 rfl ?_
  refine ss_iload_n dX7_line_9 2 rfl ?_
  refine ss_callV (As := [_]) (i := 0) dX7_line_10 vlX7_159 clX7_isThing rfl rfl (by omega) (sh_r0 _ _) rfl (Nat.le_of_ble_eq_true rfl) (Nat.le_of_ble_eq_true rfl) (q_isThing hn h6) ?_
  refine sy_if_eq 24 dX7_line_13 (by decide) (fun c13 => by first | exact kd_tf (ha9) c13 | exact kd_ft (ha9) c13 | exact absurd (ha9) c13 | exact absurd c13 (ha9)) (fun c13 => ?_)
  refine ss_aload_n dX7_line_16 0 rfl ?_
  refine ss_iload_n dX7_line_17 3 rfl ?_
  refine ss_callV (As := [_]) (i := 0) dX7_line_18 vlX7_159 clX7_isThing rfl rfl (by omega) (sh_r0 _ _) rfl (Nat.le_of_ble_eq_true rfl) (Nat.le_of_ble_eq_true rfl) (q_isThing hn h6) ?_
  refine sy_if_ne 28 dX7_line_21 (by decide) (fun c21 => ?_) (fun c21 => by first | exact kd_tf (hb9) c21 | exact kd_ft (hb9) c21 | exact absurd (hb9) c21 | exact absurd c21 (hb9))
  refine ss_iload dX7_line_28 4 rfl ?_
  refine ss_i2l dX7_line_30 ?_
  refine ss_lconst (v := 0) dX7_line_31 (by decide) ?_
  refine ss_ldc2 dX7_line_32 kcX7_162 ?_
  refine ss_callS (As := [_, _, _]) dX7_line_35 vlX7_53 clX7_isWithin rfl rfl (Nat.le_of_ble_eq_true rfl) (Nat.le_of_ble_eq_true rfl) (q_isWithin) ?_
  refine sy_if_ne 45 dX7_line_38 (by decide) (fun c38 => ?_) (fun c38 => by first | exact kd_tf (by rw [wi_ix (n := 10001) rfl]; exact hv) c38 | exact kd_ft (by rw [wi_ix (n := 10001) rfl]; exact hv) c38 | exact absurd (by rw [wi_ix (n := 10001) rfl]; exact hv) c38 | exact absurd c38 (by rw [wi_ix (n := 10001) rfl]; exact hv))
  refine ss_aload_n dX7_line_45 0 rfl ?_
  refine ss_get (i := 0) dX7_line_46 flX7_11 (by omega) (sh_r0 _ _) rfl ?_
  refine ss_iload_n dX7_line_49 1 rfl ?_
  refine ss_worth (w := j) dX7_line_50 hj ?_
  refine ss_astore (lv' := [(5, _), (0, _), (1, _), (2, _), (3, _), (4, _)]) dX7_line_51 (by decide) rfl ?_
  refine ss_aload dX7_line_53 0 rfl ?_
  refine ss_get (i := 2 + 7 * j) dX7_line_55 flX7_123 (by omega) (sh_w0 hj _ _) rfl ?_
  rw [hh]
  refine sy_if_ne 66 dX7_line_58 (by decide) (fun c58 => ?_) (fun c58 => by first | exact kd_tf (rfl) c58 | exact kd_ft (rfl) c58 | exact absurd (rfl) c58 | exact absurd c58 (rfl))
  refine ss_sipush (v := -1003) dX7_line_66 (by decide) ?_
  exact ss_iret dX7_line_69 rfl rfl (hQ)
set_option maxHeartbeats 4000000 in
set_option maxRecDepth 100000 in
theorem c_line_n2 {c : cx} {d : Nat} {X : nX} {Y : nY} {n : Nat} (hn : n ≤ 10) (h6 : X 0 6 = nI n) {m : Nat} (hm : m ≤ 12) (h7 : X 0 7 = nI m) {j : Nat} (hjm : j < m) {a b : Nat} (ha : a < n) (hb0 : b < n) {v : Int32} (hv : ix v 10001 = true) (hh : X (2 + 7 * j) 4 = bI false) (hab : a = b) : sc c mX7_line (d + 3) [.ref (c_ad c 0), .int (nI j), .int (nI a), .int (nI b), .int v] (X) (Y) (some (.int (-1003))) (X) (Y) := by
  intro Q hQ
  show ss c mX7_line (d + 3) Q 0 [(0, .ref (c_ad c 0)), (1, .int (nI j)), (2, .int (nI a)), (3, .int (nI b)), (4, .int v)] [] (X) (Y)
  have hj : j < 12 := by omega
  have hwj : ix (nI j) m = true := ix_of hjm (by omega)
  have ha9 : ix (nI a) n = true := ix_of ha (by omega)
  have hb9 : ix (nI b) n = true := ix_of hb0 (by omega)
  refine ss_aload_n dX7_line_0 0 rfl ?_
  refine ss_iload_n dX7_line_1 1 rfl ?_
  refine ss_callV (As := [_]) (i := 0) dX7_line_2 vlX7_113 clX7_isWorth rfl rfl (by omega) (sh_r0 _ _) rfl (Nat.le_of_ble_eq_true rfl) (Nat.le_of_ble_eq_true rfl) (q_isWorth hm h7) ?_
  refine sy_if_eq 24 dX7_line_5 (by decide) (fun c5 => by first | exact kd_tf (hwj) c5 | exact kd_ft (hwj) c5 | exact absurd (hwj) c5 | exact absurd c5 (hwj)) (fun c5 => ?_)
  refine ss_aload_n dX7_line_8 0 rfl ?_
  refine ss_iload_n dX7_line_9 2 rfl ?_
  refine ss_callV (As := [_]) (i := 0) dX7_line_10 vlX7_159 clX7_isThing rfl rfl (by omega) (sh_r0 _ _) rfl (Nat.le_of_ble_eq_true rfl) (Nat.le_of_ble_eq_true rfl) (q_isThing hn h6) ?_
  refine sy_if_eq 24 dX7_line_13 (by decide) (fun c13 => by first | exact kd_tf (ha9) c13 | exact kd_ft (ha9) c13 | exact absurd (ha9) c13 | exact absurd c13 (ha9)) (fun c13 => ?_)
  refine ss_aload_n dX7_line_16 0 rfl ?_
  refine ss_iload_n dX7_line_17 3 rfl ?_
  refine ss_callV (As := [_]) (i := 0) dX7_line_18 vlX7_159 clX7_isThing rfl rfl (by omega) (sh_r0 _ _) rfl (Nat.le_of_ble_eq_true rfl) (Nat.le_of_ble_eq_true rfl) (q_isThing hn h6) ?_
  refine sy_if_ne 28 dX7_line_21 (by decide) (fun c21 => ?_) (fun c21 => by first | exact kd_tf (hb9) c21 | exact kd_ft (hb9) c21 | exact absurd (hb9) c21 | exact absurd c21 (hb9))
  refine ss_iload dX7_line_28 4 rfl ?_
  refine ss_i2l dX7_line_30 ?_
  refine ss_lconst (v := 0) dX7_line_31 (by decide) ?_
  refine ss_ldc2 dX7_line_32 kcX7_162 ?_
  refine ss_callS (As := [_, _, _]) dX7_line_35 vlX7_53 clX7_isWithin rfl rfl (Nat.le_of_ble_eq_true rfl) (Nat.le_of_ble_eq_true rfl) (q_isWithin) ?_
  refine sy_if_ne 45 dX7_line_38 (by decide) (fun c38 => ?_) (fun c38 => by first | exact kd_tf (by rw [wi_ix (n := 10001) rfl]; exact hv) c38 | exact kd_ft (by rw [wi_ix (n := 10001) rfl]; exact hv) c38 | exact absurd (by rw [wi_ix (n := 10001) rfl]; exact hv) c38 | exact absurd c38 (by rw [wi_ix (n := 10001) rfl]; exact hv))
  refine ss_aload_n dX7_line_45 0 rfl ?_
  refine ss_get (i := 0) dX7_line_46 flX7_11 (by omega) (sh_r0 _ _) rfl ?_
  refine ss_iload_n dX7_line_49 1 rfl ?_
  refine ss_worth (w := j) dX7_line_50 hj ?_
  refine ss_astore (lv' := [(5, _), (0, _), (1, _), (2, _), (3, _), (4, _)]) dX7_line_51 (by decide) rfl ?_
  refine ss_aload dX7_line_53 0 rfl ?_
  refine ss_get (i := 2 + 7 * j) dX7_line_55 flX7_123 (by omega) (sh_w0 hj _ _) rfl ?_
  rw [hh]
  refine sy_if_ne 66 dX7_line_58 (by decide) (fun c58 => by first | exact kd_tf (rfl) c58 | exact kd_ft (rfl) c58 | exact absurd (rfl) c58 | exact absurd c58 (rfl)) (fun c58 => ?_)
  refine ss_iload_n dX7_line_61 3 rfl ?_
  refine ss_iload_n dX7_line_62 4 rfl ?_
  refine sz_icmp_ne 70 dX7_line_63 (by decide) (by omega) (by omega) (fun c63 => by omega) (fun c63 => ?_)
  refine ss_sipush (v := -1003) dX7_line_66 (by decide) ?_
  exact ss_iret dX7_line_69 rfl rfl (hQ)
set_option maxHeartbeats 4000000 in
set_option maxRecDepth 100000 in
theorem c_line_c {c : cx} {d : Nat} {X : nX} {Y : nY} {n : Nat} (hn : n ≤ 10) (h6 : X 0 6 = nI n) {m : Nat} (hm : m ≤ 12) (h7 : X 0 7 = nI m) {j : Nat} (hjm : j < m) {a b : Nat} (ha : a < n) (hb0 : b < n) {v : Int32} (hv : ix v 10001 = true) (hh : X (2 + 7 * j) 4 = bI false) (hab : a ≠ b) (hkd : ¬ X (2 + 7 * j) 5 = nI 1) : sc c mX7_line (d + 3) [.ref (c_ad c 0), .int (nI j), .int (nI a), .int (nI b), .int v] (X) (Y) (some (.int (nI 0))) (up2 X 0 8 (nI 5)) (Y) := by
  intro Q hQ
  show ss c mX7_line (d + 3) Q 0 [(0, .ref (c_ad c 0)), (1, .int (nI j)), (2, .int (nI a)), (3, .int (nI b)), (4, .int v)] [] (X) (Y)
  have hj : j < 12 := by omega
  have hwj : ix (nI j) m = true := ix_of hjm (by omega)
  have ha9 : ix (nI a) n = true := ix_of ha (by omega)
  have hb9 : ix (nI b) n = true := ix_of hb0 (by omega)
  refine ss_aload_n dX7_line_0 0 rfl ?_
  refine ss_iload_n dX7_line_1 1 rfl ?_
  refine ss_callV (As := [_]) (i := 0) dX7_line_2 vlX7_113 clX7_isWorth rfl rfl (by omega) (sh_r0 _ _) rfl (Nat.le_of_ble_eq_true rfl) (Nat.le_of_ble_eq_true rfl) (q_isWorth hm h7) ?_
  refine sy_if_eq 24 dX7_line_5 (by decide) (fun c5 => by first | exact kd_tf (hwj) c5 | exact kd_ft (hwj) c5 | exact absurd (hwj) c5 | exact absurd c5 (hwj)) (fun c5 => ?_)
  refine ss_aload_n dX7_line_8 0 rfl ?_
  refine ss_iload_n dX7_line_9 2 rfl ?_
  refine ss_callV (As := [_]) (i := 0) dX7_line_10 vlX7_159 clX7_isThing rfl rfl (by omega) (sh_r0 _ _) rfl (Nat.le_of_ble_eq_true rfl) (Nat.le_of_ble_eq_true rfl) (q_isThing hn h6) ?_
  refine sy_if_eq 24 dX7_line_13 (by decide) (fun c13 => by first | exact kd_tf (ha9) c13 | exact kd_ft (ha9) c13 | exact absurd (ha9) c13 | exact absurd c13 (ha9)) (fun c13 => ?_)
  refine ss_aload_n dX7_line_16 0 rfl ?_
  refine ss_iload_n dX7_line_17 3 rfl ?_
  refine ss_callV (As := [_]) (i := 0) dX7_line_18 vlX7_159 clX7_isThing rfl rfl (by omega) (sh_r0 _ _) rfl (Nat.le_of_ble_eq_true rfl) (Nat.le_of_ble_eq_true rfl) (q_isThing hn h6) ?_
  refine sy_if_ne 28 dX7_line_21 (by decide) (fun c21 => ?_) (fun c21 => by first | exact kd_tf (hb9) c21 | exact kd_ft (hb9) c21 | exact absurd (hb9) c21 | exact absurd c21 (hb9))
  refine ss_iload dX7_line_28 4 rfl ?_
  refine ss_i2l dX7_line_30 ?_
  refine ss_lconst (v := 0) dX7_line_31 (by decide) ?_
  refine ss_ldc2 dX7_line_32 kcX7_162 ?_
  refine ss_callS (As := [_, _, _]) dX7_line_35 vlX7_53 clX7_isWithin rfl rfl (Nat.le_of_ble_eq_true rfl) (Nat.le_of_ble_eq_true rfl) (q_isWithin) ?_
  refine sy_if_ne 45 dX7_line_38 (by decide) (fun c38 => ?_) (fun c38 => by first | exact kd_tf (by rw [wi_ix (n := 10001) rfl]; exact hv) c38 | exact kd_ft (by rw [wi_ix (n := 10001) rfl]; exact hv) c38 | exact absurd (by rw [wi_ix (n := 10001) rfl]; exact hv) c38 | exact absurd c38 (by rw [wi_ix (n := 10001) rfl]; exact hv))
  refine ss_aload_n dX7_line_45 0 rfl ?_
  refine ss_get (i := 0) dX7_line_46 flX7_11 (by omega) (sh_r0 _ _) rfl ?_
  refine ss_iload_n dX7_line_49 1 rfl ?_
  refine ss_worth (w := j) dX7_line_50 hj ?_
  refine ss_astore (lv' := [(5, _), (0, _), (1, _), (2, _), (3, _), (4, _)]) dX7_line_51 (by decide) rfl ?_
  refine ss_aload dX7_line_53 0 rfl ?_
  refine ss_get (i := 2 + 7 * j) dX7_line_55 flX7_123 (by omega) (sh_w0 hj _ _) rfl ?_
  rw [hh]
  refine sy_if_ne 66 dX7_line_58 (by decide) (fun c58 => by first | exact kd_tf (rfl) c58 | exact kd_ft (rfl) c58 | exact absurd (rfl) c58 | exact absurd c58 (rfl)) (fun c58 => ?_)
  refine ss_iload_n dX7_line_61 3 rfl ?_
  refine ss_iload_n dX7_line_62 4 rfl ?_
  refine sz_icmp_ne 70 dX7_line_63 (by decide) (by omega) (by omega) (fun c63 => ?_) (fun c63 => by omega)
  refine ss_aload dX7_line_70 0 rfl ?_
  refine ss_get (i := 2 + 7 * j) dX7_line_72 flX7_132 (by omega) (sh_w0 hj _ _) rfl ?_
  refine ss_iconst (v := nI 1) dX7_line_75 (by decide) ?_
  refine ss_icmp_eq 85 dX7_line_76 (by decide) (fun c76 => by first | exact kd_tf (hkd) c76 | exact kd_ft (hkd) c76 | exact absurd (hkd) c76 | exact absurd c76 (hkd)) (fun c76 => ?_)
  refine ss_aload_n dX7_line_79 1 rfl ?_
  refine ss_iconst (v := nI 5) dX7_line_80 (by decide) ?_
  refine ss_callV (As := [_]) (i := 0) dX7_line_81 vlX7_75 clX7_meet rfl rfl (by omega) (sh_r0 _ _) rfl (Nat.le_of_ble_eq_true rfl) (Nat.le_of_ble_eq_true rfl) (q_meet) ?_
  exact ss_iret dX7_line_84 rfl rfl (hQ)
set_option maxHeartbeats 4000000 in
set_option maxRecDepth 100000 in
theorem c_line_f {c : cx} {d : Nat} {X : nX} {Y : nY} {n : Nat} (hn : n ≤ 10) (h6 : X 0 6 = nI n) {m : Nat} (hm : m ≤ 12) (h7 : X 0 7 = nI m) {j : Nat} (hjm : j < m) {a b : Nat} (ha : a < n) (hb0 : b < n) {v : Int32} (hv : ix v 10001 = true) (hh : X (2 + 7 * j) 4 = bI false) (hab : a ≠ b) (hkd : X (2 + 7 * j) 5 = nI 1) {P : Nat} (hpi : X (2 + 7 * j) 8 = nI P) (hP : P = 24) : sc c mX7_line (d + 3) [.ref (c_ad c 0), .int (nI j), .int (nI a), .int (nI b), .int v] (X) (Y) (some (.int (-1004))) (X) (Y) := by
  intro Q hQ
  show ss c mX7_line (d + 3) Q 0 [(0, .ref (c_ad c 0)), (1, .int (nI j)), (2, .int (nI a)), (3, .int (nI b)), (4, .int v)] [] (X) (Y)
  have hj : j < 12 := by omega
  have hwj : ix (nI j) m = true := ix_of hjm (by omega)
  have ha9 : ix (nI a) n = true := ix_of ha (by omega)
  have hb9 : ix (nI b) n = true := ix_of hb0 (by omega)
  refine ss_aload_n dX7_line_0 0 rfl ?_
  refine ss_iload_n dX7_line_1 1 rfl ?_
  refine ss_callV (As := [_]) (i := 0) dX7_line_2 vlX7_113 clX7_isWorth rfl rfl (by omega) (sh_r0 _ _) rfl (Nat.le_of_ble_eq_true rfl) (Nat.le_of_ble_eq_true rfl) (q_isWorth hm h7) ?_
  refine sy_if_eq 24 dX7_line_5 (by decide) (fun c5 => by first | exact kd_tf (hwj) c5 | exact kd_ft (hwj) c5 | exact absurd (hwj) c5 | exact absurd c5 (hwj)) (fun c5 => ?_)
  refine ss_aload_n dX7_line_8 0 rfl ?_
  refine ss_iload_n dX7_line_9 2 rfl ?_
  refine ss_callV (As := [_]) (i := 0) dX7_line_10 vlX7_159 clX7_isThing rfl rfl (by omega) (sh_r0 _ _) rfl (Nat.le_of_ble_eq_true rfl) (Nat.le_of_ble_eq_true rfl) (q_isThing hn h6) ?_
  refine sy_if_eq 24 dX7_line_13 (by decide) (fun c13 => by first | exact kd_tf (ha9) c13 | exact kd_ft (ha9) c13 | exact absurd (ha9) c13 | exact absurd c13 (ha9)) (fun c13 => ?_)
  refine ss_aload_n dX7_line_16 0 rfl ?_
  refine ss_iload_n dX7_line_17 3 rfl ?_
  refine ss_callV (As := [_]) (i := 0) dX7_line_18 vlX7_159 clX7_isThing rfl rfl (by omega) (sh_r0 _ _) rfl (Nat.le_of_ble_eq_true rfl) (Nat.le_of_ble_eq_true rfl) (q_isThing hn h6) ?_
  refine sy_if_ne 28 dX7_line_21 (by decide) (fun c21 => ?_) (fun c21 => by first | exact kd_tf (hb9) c21 | exact kd_ft (hb9) c21 | exact absurd (hb9) c21 | exact absurd c21 (hb9))
  refine ss_iload dX7_line_28 4 rfl ?_
  refine ss_i2l dX7_line_30 ?_
  refine ss_lconst (v := 0) dX7_line_31 (by decide) ?_
  refine ss_ldc2 dX7_line_32 kcX7_162 ?_
  refine ss_callS (As := [_, _, _]) dX7_line_35 vlX7_53 clX7_isWithin rfl rfl (Nat.le_of_ble_eq_true rfl) (Nat.le_of_ble_eq_true rfl) (q_isWithin) ?_
  refine sy_if_ne 45 dX7_line_38 (by decide) (fun c38 => ?_) (fun c38 => by first | exact kd_tf (by rw [wi_ix (n := 10001) rfl]; exact hv) c38 | exact kd_ft (by rw [wi_ix (n := 10001) rfl]; exact hv) c38 | exact absurd (by rw [wi_ix (n := 10001) rfl]; exact hv) c38 | exact absurd c38 (by rw [wi_ix (n := 10001) rfl]; exact hv))
  refine ss_aload_n dX7_line_45 0 rfl ?_
  refine ss_get (i := 0) dX7_line_46 flX7_11 (by omega) (sh_r0 _ _) rfl ?_
  refine ss_iload_n dX7_line_49 1 rfl ?_
  refine ss_worth (w := j) dX7_line_50 hj ?_
  refine ss_astore (lv' := [(5, _), (0, _), (1, _), (2, _), (3, _), (4, _)]) dX7_line_51 (by decide) rfl ?_
  refine ss_aload dX7_line_53 0 rfl ?_
  refine ss_get (i := 2 + 7 * j) dX7_line_55 flX7_123 (by omega) (sh_w0 hj _ _) rfl ?_
  rw [hh]
  refine sy_if_ne 66 dX7_line_58 (by decide) (fun c58 => by first | exact kd_tf (rfl) c58 | exact kd_ft (rfl) c58 | exact absurd (rfl) c58 | exact absurd c58 (rfl)) (fun c58 => ?_)
  refine ss_iload_n dX7_line_61 3 rfl ?_
  refine ss_iload_n dX7_line_62 4 rfl ?_
  refine sz_icmp_ne 70 dX7_line_63 (by decide) (by omega) (by omega) (fun c63 => ?_) (fun c63 => by omega)
  refine ss_aload dX7_line_70 0 rfl ?_
  refine ss_get (i := 2 + 7 * j) dX7_line_72 flX7_132 (by omega) (sh_w0 hj _ _) rfl ?_
  refine ss_iconst (v := nI 1) dX7_line_75 (by decide) ?_
  refine ss_icmp_eq 85 dX7_line_76 (by decide) (fun c76 => ?_) (fun c76 => by first | exact kd_tf (hkd) c76 | exact kd_ft (hkd) c76 | exact absurd (hkd) c76 | exact absurd c76 (hkd))
  refine ss_aload dX7_line_85 0 rfl ?_
  refine ss_get (i := 2 + 7 * j) dX7_line_87 flX7_164 (by omega) (sh_w0 hj _ _) rfl ?_
  rw [hpi]
  refine ss_bipush (v := nI 24) dX7_line_90 (by decide) ?_
  refine sz_icmp_lt 99 dX7_line_92 (by decide) (by omega) (by omega) (fun c92 => by omega) (fun c92 => ?_)
  refine ss_sipush (v := -1004) dX7_line_95 (by decide) ?_
  exact ss_iret dX7_line_98 rfl rfl (hQ)
set_option maxHeartbeats 4000000 in
set_option maxRecDepth 100000 in
theorem c_line_k {c : cx} {d : Nat} {X : nX} {Y : nY} {n : Nat} (hn : n ≤ 10) (h6 : X 0 6 = nI n) {m : Nat} (hm : m ≤ 12) (h7 : X 0 7 = nI m) {j : Nat} (hjm : j < m) {a b : Nat} (ha : a < n) (hb0 : b < n) {v : Int32} (hv : ix v 10001 = true) (hh : X (2 + 7 * j) 4 = bI false) (hab : a ≠ b) (hkd : X (2 + 7 * j) 5 = nI 1) {P : Nat} (hpi : X (2 + 7 * j) 8 = nI P) (hP : P < 24) (hse : X (2 + 7 * j) 7 = nI (2 ^ n)) : sc c mX7_line (d + 3) [.ref (c_ad c 0), .int (nI j), .int (nI a), .int (nI b), .int v] (X) (Y) (some (.int (nI (P + 1)))) (up2 (up2 X 0 8 (nI 0)) (2 + 7 * j) 8 (nI (P + 1))) (mpl Y (3 + 7 * j) 0 (2 ^ n) (f_line Y j a b v)) := by
  intro Q hQ
  show ss c mX7_line (d + 3) Q 0 [(0, .ref (c_ad c 0)), (1, .int (nI j)), (2, .int (nI a)), (3, .int (nI b)), (4, .int v)] [] (X) (Y)
  have hj : j < 12 := by omega
  have hwj : ix (nI j) m = true := ix_of hjm (by omega)
  have ha9 : ix (nI a) n = true := ix_of ha (by omega)
  have hb9 : ix (nI b) n = true := ix_of hb0 (by omega)
  refine ss_aload_n dX7_line_0 0 rfl ?_
  refine ss_iload_n dX7_line_1 1 rfl ?_
  refine ss_callV (As := [_]) (i := 0) dX7_line_2 vlX7_113 clX7_isWorth rfl rfl (by omega) (sh_r0 _ _) rfl (Nat.le_of_ble_eq_true rfl) (Nat.le_of_ble_eq_true rfl) (q_isWorth hm h7) ?_
  refine sy_if_eq 24 dX7_line_5 (by decide) (fun c5 => by first | exact kd_tf (hwj) c5 | exact kd_ft (hwj) c5 | exact absurd (hwj) c5 | exact absurd c5 (hwj)) (fun c5 => ?_)
  refine ss_aload_n dX7_line_8 0 rfl ?_
  refine ss_iload_n dX7_line_9 2 rfl ?_
  refine ss_callV (As := [_]) (i := 0) dX7_line_10 vlX7_159 clX7_isThing rfl rfl (by omega) (sh_r0 _ _) rfl (Nat.le_of_ble_eq_true rfl) (Nat.le_of_ble_eq_true rfl) (q_isThing hn h6) ?_
  refine sy_if_eq 24 dX7_line_13 (by decide) (fun c13 => by first | exact kd_tf (ha9) c13 | exact kd_ft (ha9) c13 | exact absurd (ha9) c13 | exact absurd c13 (ha9)) (fun c13 => ?_)
  refine ss_aload_n dX7_line_16 0 rfl ?_
  refine ss_iload_n dX7_line_17 3 rfl ?_
  refine ss_callV (As := [_]) (i := 0) dX7_line_18 vlX7_159 clX7_isThing rfl rfl (by omega) (sh_r0 _ _) rfl (Nat.le_of_ble_eq_true rfl) (Nat.le_of_ble_eq_true rfl) (q_isThing hn h6) ?_
  refine sy_if_ne 28 dX7_line_21 (by decide) (fun c21 => ?_) (fun c21 => by first | exact kd_tf (hb9) c21 | exact kd_ft (hb9) c21 | exact absurd (hb9) c21 | exact absurd c21 (hb9))
  refine ss_iload dX7_line_28 4 rfl ?_
  refine ss_i2l dX7_line_30 ?_
  refine ss_lconst (v := 0) dX7_line_31 (by decide) ?_
  refine ss_ldc2 dX7_line_32 kcX7_162 ?_
  refine ss_callS (As := [_, _, _]) dX7_line_35 vlX7_53 clX7_isWithin rfl rfl (Nat.le_of_ble_eq_true rfl) (Nat.le_of_ble_eq_true rfl) (q_isWithin) ?_
  refine sy_if_ne 45 dX7_line_38 (by decide) (fun c38 => ?_) (fun c38 => by first | exact kd_tf (by rw [wi_ix (n := 10001) rfl]; exact hv) c38 | exact kd_ft (by rw [wi_ix (n := 10001) rfl]; exact hv) c38 | exact absurd (by rw [wi_ix (n := 10001) rfl]; exact hv) c38 | exact absurd c38 (by rw [wi_ix (n := 10001) rfl]; exact hv))
  refine ss_aload_n dX7_line_45 0 rfl ?_
  refine ss_get (i := 0) dX7_line_46 flX7_11 (by omega) (sh_r0 _ _) rfl ?_
  refine ss_iload_n dX7_line_49 1 rfl ?_
  refine ss_worth (w := j) dX7_line_50 hj ?_
  refine ss_astore (lv' := [(5, _), (0, _), (1, _), (2, _), (3, _), (4, _)]) dX7_line_51 (by decide) rfl ?_
  refine ss_aload dX7_line_53 0 rfl ?_
  refine ss_get (i := 2 + 7 * j) dX7_line_55 flX7_123 (by omega) (sh_w0 hj _ _) rfl ?_
  rw [hh]
  refine sy_if_ne 66 dX7_line_58 (by decide) (fun c58 => by first | exact kd_tf (rfl) c58 | exact kd_ft (rfl) c58 | exact absurd (rfl) c58 | exact absurd c58 (rfl)) (fun c58 => ?_)
  refine ss_iload_n dX7_line_61 3 rfl ?_
  refine ss_iload_n dX7_line_62 4 rfl ?_
  refine sz_icmp_ne 70 dX7_line_63 (by decide) (by omega) (by omega) (fun c63 => ?_) (fun c63 => by omega)
  refine ss_aload dX7_line_70 0 rfl ?_
  refine ss_get (i := 2 + 7 * j) dX7_line_72 flX7_132 (by omega) (sh_w0 hj _ _) rfl ?_
  refine ss_iconst (v := nI 1) dX7_line_75 (by decide) ?_
  refine ss_icmp_eq 85 dX7_line_76 (by decide) (fun c76 => ?_) (fun c76 => by first | exact kd_tf (hkd) c76 | exact kd_ft (hkd) c76 | exact absurd (hkd) c76 | exact absurd c76 (hkd))
  refine ss_aload dX7_line_85 0 rfl ?_
  refine ss_get (i := 2 + 7 * j) dX7_line_87 flX7_164 (by omega) (sh_w0 hj _ _) rfl ?_
  rw [hpi]
  refine ss_bipush (v := nI 24) dX7_line_90 (by decide) ?_
  refine sz_icmp_lt 99 dX7_line_92 (by decide) (by omega) (by omega) (fun c92 => ?_) (fun c92 => by omega)
  refine ss_aload_n dX7_line_99 1 rfl ?_
  refine ss_iconst (v := nI 0) dX7_line_100 (by decide) ?_
  refine ss_put (i := 0) dX7_line_101 fwX7_79 (by omega) (sh_r0 _ _) rfl rfl (Nat.le_of_ble_eq_true rfl) (sh_r0 _ _) ?_
  refine ss_aload dX7_line_104 0 rfl ?_
  refine ss_iload_n dX7_line_106 3 rfl ?_
  refine ss_iload_n dX7_line_107 4 rfl ?_
  refine ss_iload dX7_line_108 5 rfl ?_
  refine ss_callV (As := [_, _, _]) (i := 2 + 7 * j) dX7_line_110 vlX7_167 clX6_takeLine rfl rfl (by omega) (sh_w0 hj _ _) rfl (Nat.le_of_ble_eq_true rfl) (Nat.le_of_ble_eq_true rfl) (q_takeLine hj (p2_le hn) (by rw [up2_at, if_neg (by omega)]; exact hse) (by omega) (by omega)) ?_
  refine ss_aload dX7_line_113 0 rfl ?_
  refine ss_get (i := 2 + 7 * j) dX7_line_115 flX7_164 (by omega) (sh_w0 hj _ _) rfl ?_
  rw [up2_at, if_pos ⟨rfl, rfl⟩, up2_at, if_neg (by omega), hpi, nI_add]
  exact ss_iret dX7_line_118 rfl rfl (hQ)
set_option maxHeartbeats 4000000 in
set_option maxRecDepth 100000 in
theorem c_spot_u {c : cx} {d : Nat} {X : nX} {Y : nY} {n : Nat} (hn : n ≤ 10) (h6 : X 0 6 = nI n) {m : Nat} (hm : m ≤ 12) (h7 : X 0 7 = nI m) {w s v : Int32} (hu : ix w m = false ∨ ix s (2 ^ n) = false) : sc c mX7_spot (d + 3) [.ref (c_ad c 0), .int w, .int v, .int s] (X) (Y) (some (.int (-1001))) (X) (Y) := by
  intro Q hQ
  show ss c mX7_spot (d + 3) Q 0 [(0, .ref (c_ad c 0)), (1, .int w), (2, .int v), (3, .int s)] [] (X) (Y)
  refine ss_aload_n dX7_spot_0 0 rfl ?_
  refine ss_iload_n dX7_spot_1 1 rfl ?_
  refine ss_callV (As := [_]) (i := 0) dX7_spot_2 vlX7_113 clX7_isWorth rfl rfl (by omega) (sh_r0 _ _) rfl (Nat.le_of_ble_eq_true rfl) (Nat.le_of_ble_eq_true rfl) (q_isWorth hm h7) ?_
  refine sy_if_eq 16 dX7_spot_5 (by decide) (fun c5 => ?_) (fun c5 => ?_)
  · skip
    refine ss_sipush (v := -1001) dX7_spot_16 (by decide) ?_
    exact ss_iret dX7_spot_19 rfl rfl (hQ)
  · skip
    refine ss_aload_n dX7_spot_8 0 rfl ?_
    refine ss_iload_n dX7_spot_9 3 rfl ?_
    refine ss_callV (As := [_]) (i := 0) dX7_spot_10 vlX7_116 clX7_isSet rfl rfl (by omega) (sh_r0 _ _) rfl (Nat.le_of_ble_eq_true rfl) (Nat.le_of_ble_eq_true rfl) (q_isSet hn h6) ?_
    refine sy_if_ne 20 dX7_spot_13 (by decide) (fun c13 => by rcases hu with h8 | h8; exact kd_tf c5 h8; exact kd_tf c13 h8) (fun c13 => ?_)
    refine ss_sipush (v := -1001) dX7_spot_16 (by decide) ?_
    exact ss_iret dX7_spot_19 rfl rfl (hQ)
set_option maxHeartbeats 4000000 in
set_option maxRecDepth 100000 in
theorem c_spot_o {c : cx} {d : Nat} {X : nX} {Y : nY} {n : Nat} (hn : n ≤ 10) (h6 : X 0 6 = nI n) {m : Nat} (hm : m ≤ 12) (h7 : X 0 7 = nI m) {j : Nat} (hjm : j < m) {s : Nat} (hs : s < 2 ^ n) {v : Int32} (hv : ix v 10001 = false) : sc c mX7_spot (d + 3) [.ref (c_ad c 0), .int (nI j), .int v, .int (nI s)] (X) (Y) (some (.int (-1002))) (X) (Y) := by
  intro Q hQ
  show ss c mX7_spot (d + 3) Q 0 [(0, .ref (c_ad c 0)), (1, .int (nI j)), (2, .int v), (3, .int (nI s))] [] (X) (Y)
  have hj : j < 12 := by omega
  have hwj : ix (nI j) m = true := ix_of hjm (by omega)
  have hs9 : ix (nI s) (2 ^ n) = true := ix_of hs (by have := p2_le hn; omega)
  have hs8 := ix_2p hs hn
  refine ss_aload_n dX7_spot_0 0 rfl ?_
  refine ss_iload_n dX7_spot_1 1 rfl ?_
  refine ss_callV (As := [_]) (i := 0) dX7_spot_2 vlX7_113 clX7_isWorth rfl rfl (by omega) (sh_r0 _ _) rfl (Nat.le_of_ble_eq_true rfl) (Nat.le_of_ble_eq_true rfl) (q_isWorth hm h7) ?_
  refine sy_if_eq 16 dX7_spot_5 (by decide) (fun c5 => by first | exact kd_tf (hwj) c5 | exact kd_ft (hwj) c5 | exact absurd (hwj) c5 | exact absurd c5 (hwj)) (fun c5 => ?_)
  refine ss_aload_n dX7_spot_8 0 rfl ?_
  refine ss_iload_n dX7_spot_9 3 rfl ?_
  refine ss_callV (As := [_]) (i := 0) dX7_spot_10 vlX7_116 clX7_isSet rfl rfl (by omega) (sh_r0 _ _) rfl (Nat.le_of_ble_eq_true rfl) (Nat.le_of_ble_eq_true rfl) (q_isSet hn h6) ?_
  refine sy_if_ne 20 dX7_spot_13 (by decide) (fun c13 => ?_) (fun c13 => by first | exact kd_tf (hs9) c13 | exact kd_ft (hs9) c13 | exact absurd (hs9) c13 | exact absurd c13 (hs9))
  refine ss_iload_n dX7_spot_20 2 rfl ?_
  refine ss_i2l dX7_spot_21 ?_
  refine ss_lconst (v := 0) dX7_spot_22 (by decide) ?_
  refine ss_ldc2 dX7_spot_23 kcX7_162 ?_
  refine ss_callS (As := [_, _, _]) dX7_spot_26 vlX7_53 clX7_isWithin rfl rfl (Nat.le_of_ble_eq_true rfl) (Nat.le_of_ble_eq_true rfl) (q_isWithin) ?_
  refine sy_if_ne 36 dX7_spot_29 (by decide) (fun c29 => by first | exact kd_tf (by rw [wi_ix (n := 10001) rfl]; exact hv) c29 | exact kd_ft (by rw [wi_ix (n := 10001) rfl]; exact hv) c29 | exact absurd (by rw [wi_ix (n := 10001) rfl]; exact hv) c29 | exact absurd c29 (by rw [wi_ix (n := 10001) rfl]; exact hv)) (fun c29 => ?_)
  refine ss_sipush (v := -1002) dX7_spot_32 (by decide) ?_
  exact ss_iret dX7_spot_35 rfl rfl (hQ)
set_option maxHeartbeats 4000000 in
set_option maxRecDepth 100000 in
theorem c_spot_n {c : cx} {d : Nat} {X : nX} {Y : nY} {n : Nat} (hn : n ≤ 10) (h6 : X 0 6 = nI n) {m : Nat} (hm : m ≤ 12) (h7 : X 0 7 = nI m) {j : Nat} (hjm : j < m) {s : Nat} (hs : s < 2 ^ n) {v : Int32} (hv : ix v 10001 = true) (hh : X (2 + 7 * j) 4 = bI true) : sc c mX7_spot (d + 3) [.ref (c_ad c 0), .int (nI j), .int v, .int (nI s)] (X) (Y) (some (.int (-1003))) (X) (Y) := by
  intro Q hQ
  show ss c mX7_spot (d + 3) Q 0 [(0, .ref (c_ad c 0)), (1, .int (nI j)), (2, .int v), (3, .int (nI s))] [] (X) (Y)
  have hj : j < 12 := by omega
  have hwj : ix (nI j) m = true := ix_of hjm (by omega)
  have hs9 : ix (nI s) (2 ^ n) = true := ix_of hs (by have := p2_le hn; omega)
  have hs8 := ix_2p hs hn
  refine ss_aload_n dX7_spot_0 0 rfl ?_
  refine ss_iload_n dX7_spot_1 1 rfl ?_
  refine ss_callV (As := [_]) (i := 0) dX7_spot_2 vlX7_113 clX7_isWorth rfl rfl (by omega) (sh_r0 _ _) rfl (Nat.le_of_ble_eq_true rfl) (Nat.le_of_ble_eq_true rfl) (q_isWorth hm h7) ?_
  refine sy_if_eq 16 dX7_spot_5 (by decide) (fun c5 => by first | exact kd_tf (hwj) c5 | exact kd_ft (hwj) c5 | exact absurd (hwj) c5 | exact absurd c5 (hwj)) (fun c5 => ?_)
  refine ss_aload_n dX7_spot_8 0 rfl ?_
  refine ss_iload_n dX7_spot_9 3 rfl ?_
  refine ss_callV (As := [_]) (i := 0) dX7_spot_10 vlX7_116 clX7_isSet rfl rfl (by omega) (sh_r0 _ _) rfl (Nat.le_of_ble_eq_true rfl) (Nat.le_of_ble_eq_true rfl) (q_isSet hn h6) ?_
  refine sy_if_ne 20 dX7_spot_13 (by decide) (fun c13 => ?_) (fun c13 => by first | exact kd_tf (hs9) c13 | exact kd_ft (hs9) c13 | exact absurd (hs9) c13 | exact absurd c13 (hs9))
  refine ss_iload_n dX7_spot_20 2 rfl ?_
  refine ss_i2l dX7_spot_21 ?_
  refine ss_lconst (v := 0) dX7_spot_22 (by decide) ?_
  refine ss_ldc2 dX7_spot_23 kcX7_162 ?_
  refine ss_callS (As := [_, _, _]) dX7_spot_26 vlX7_53 clX7_isWithin rfl rfl (Nat.le_of_ble_eq_true rfl) (Nat.le_of_ble_eq_true rfl) (q_isWithin) ?_
  refine sy_if_ne 36 dX7_spot_29 (by decide) (fun c29 => ?_) (fun c29 => by first | exact kd_tf (by rw [wi_ix (n := 10001) rfl]; exact hv) c29 | exact kd_ft (by rw [wi_ix (n := 10001) rfl]; exact hv) c29 | exact absurd (by rw [wi_ix (n := 10001) rfl]; exact hv) c29 | exact absurd c29 (by rw [wi_ix (n := 10001) rfl]; exact hv))
  refine ss_aload_n dX7_spot_36 0 rfl ?_
  refine ss_get (i := 0) dX7_spot_37 flX7_11 (by omega) (sh_r0 _ _) rfl ?_
  refine ss_iload_n dX7_spot_40 1 rfl ?_
  refine ss_worth (w := j) dX7_spot_41 hj ?_
  refine ss_astore (lv' := [(4, _), (0, _), (1, _), (2, _), (3, _)]) dX7_spot_42 (by decide) rfl ?_
  refine ss_aload dX7_spot_44 0 rfl ?_
  refine ss_get (i := 2 + 7 * j) dX7_spot_46 flX7_123 (by omega) (sh_w0 hj _ _) rfl ?_
  rw [hh]
  refine sy_if_eq 56 dX7_spot_49 (by decide) (fun c49 => by first | exact kd_tf (rfl) c49 | exact kd_ft (rfl) c49 | exact absurd (rfl) c49 | exact absurd c49 (rfl)) (fun c49 => ?_)
  refine ss_sipush (v := -1003) dX7_spot_52 (by decide) ?_
  exact ss_iret dX7_spot_55 rfl rfl (hQ)
set_option maxHeartbeats 4000000 in
set_option maxRecDepth 100000 in
theorem c_spot_c {c : cx} {d : Nat} {X : nX} {Y : nY} {n : Nat} (hn : n ≤ 10) (h6 : X 0 6 = nI n) {m : Nat} (hm : m ≤ 12) (h7 : X 0 7 = nI m) {j : Nat} (hjm : j < m) {s : Nat} (hs : s < 2 ^ n) {v : Int32} (hv : ix v 10001 = true) (hh : X (2 + 7 * j) 4 = bI false) (hkd : ¬ X (2 + 7 * j) 5 = nI 2) : sc c mX7_spot (d + 3) [.ref (c_ad c 0), .int (nI j), .int v, .int (nI s)] (X) (Y) (some (.int (nI 0))) (up2 X 0 8 (nI 5)) (Y) := by
  intro Q hQ
  show ss c mX7_spot (d + 3) Q 0 [(0, .ref (c_ad c 0)), (1, .int (nI j)), (2, .int v), (3, .int (nI s))] [] (X) (Y)
  have hj : j < 12 := by omega
  have hwj : ix (nI j) m = true := ix_of hjm (by omega)
  have hs9 : ix (nI s) (2 ^ n) = true := ix_of hs (by have := p2_le hn; omega)
  have hs8 := ix_2p hs hn
  refine ss_aload_n dX7_spot_0 0 rfl ?_
  refine ss_iload_n dX7_spot_1 1 rfl ?_
  refine ss_callV (As := [_]) (i := 0) dX7_spot_2 vlX7_113 clX7_isWorth rfl rfl (by omega) (sh_r0 _ _) rfl (Nat.le_of_ble_eq_true rfl) (Nat.le_of_ble_eq_true rfl) (q_isWorth hm h7) ?_
  refine sy_if_eq 16 dX7_spot_5 (by decide) (fun c5 => by first | exact kd_tf (hwj) c5 | exact kd_ft (hwj) c5 | exact absurd (hwj) c5 | exact absurd c5 (hwj)) (fun c5 => ?_)
  refine ss_aload_n dX7_spot_8 0 rfl ?_
  refine ss_iload_n dX7_spot_9 3 rfl ?_
  refine ss_callV (As := [_]) (i := 0) dX7_spot_10 vlX7_116 clX7_isSet rfl rfl (by omega) (sh_r0 _ _) rfl (Nat.le_of_ble_eq_true rfl) (Nat.le_of_ble_eq_true rfl) (q_isSet hn h6) ?_
  refine sy_if_ne 20 dX7_spot_13 (by decide) (fun c13 => ?_) (fun c13 => by first | exact kd_tf (hs9) c13 | exact kd_ft (hs9) c13 | exact absurd (hs9) c13 | exact absurd c13 (hs9))
  refine ss_iload_n dX7_spot_20 2 rfl ?_
  refine ss_i2l dX7_spot_21 ?_
  refine ss_lconst (v := 0) dX7_spot_22 (by decide) ?_
  refine ss_ldc2 dX7_spot_23 kcX7_162 ?_
  refine ss_callS (As := [_, _, _]) dX7_spot_26 vlX7_53 clX7_isWithin rfl rfl (Nat.le_of_ble_eq_true rfl) (Nat.le_of_ble_eq_true rfl) (q_isWithin) ?_
  refine sy_if_ne 36 dX7_spot_29 (by decide) (fun c29 => ?_) (fun c29 => by first | exact kd_tf (by rw [wi_ix (n := 10001) rfl]; exact hv) c29 | exact kd_ft (by rw [wi_ix (n := 10001) rfl]; exact hv) c29 | exact absurd (by rw [wi_ix (n := 10001) rfl]; exact hv) c29 | exact absurd c29 (by rw [wi_ix (n := 10001) rfl]; exact hv))
  refine ss_aload_n dX7_spot_36 0 rfl ?_
  refine ss_get (i := 0) dX7_spot_37 flX7_11 (by omega) (sh_r0 _ _) rfl ?_
  refine ss_iload_n dX7_spot_40 1 rfl ?_
  refine ss_worth (w := j) dX7_spot_41 hj ?_
  refine ss_astore (lv' := [(4, _), (0, _), (1, _), (2, _), (3, _)]) dX7_spot_42 (by decide) rfl ?_
  refine ss_aload dX7_spot_44 0 rfl ?_
  refine ss_get (i := 2 + 7 * j) dX7_spot_46 flX7_123 (by omega) (sh_w0 hj _ _) rfl ?_
  rw [hh]
  refine sy_if_eq 56 dX7_spot_49 (by decide) (fun c49 => ?_) (fun c49 => by first | exact kd_tf (rfl) c49 | exact kd_ft (rfl) c49 | exact absurd (rfl) c49 | exact absurd c49 (rfl))
  refine ss_aload dX7_spot_56 0 rfl ?_
  refine ss_get (i := 2 + 7 * j) dX7_spot_58 flX7_132 (by omega) (sh_w0 hj _ _) rfl ?_
  refine ss_iconst (v := nI 2) dX7_spot_61 (by decide) ?_
  refine ss_icmp_eq 71 dX7_spot_62 (by decide) (fun c62 => by first | exact kd_tf (hkd) c62 | exact kd_ft (hkd) c62 | exact absurd (hkd) c62 | exact absurd c62 (hkd)) (fun c62 => ?_)
  refine ss_aload_n dX7_spot_65 1 rfl ?_
  refine ss_iconst (v := nI 5) dX7_spot_66 (by decide) ?_
  refine ss_callV (As := [_]) (i := 0) dX7_spot_67 vlX7_75 clX7_meet rfl rfl (by omega) (sh_r0 _ _) rfl (Nat.le_of_ble_eq_true rfl) (Nat.le_of_ble_eq_true rfl) (q_meet) ?_
  exact ss_iret dX7_spot_70 rfl rfl (hQ)
set_option maxHeartbeats 4000000 in
set_option maxRecDepth 100000 in
theorem c_spot_f {c : cx} {d : Nat} {X : nX} {Y : nY} {n : Nat} (hn : n ≤ 10) (h6 : X 0 6 = nI n) {m : Nat} (hm : m ≤ 12) (h7 : X 0 7 = nI m) {j : Nat} (hjm : j < m) {s : Nat} (hs : s < 2 ^ n) {v : Int32} (hv : ix v 10001 = true) (hh : X (2 + 7 * j) 4 = bI false) (hkd : X (2 + 7 * j) 5 = nI 2) {P : Nat} (hpi : X (2 + 7 * j) 8 = nI P) (hP : P = 24) : sc c mX7_spot (d + 3) [.ref (c_ad c 0), .int (nI j), .int v, .int (nI s)] (X) (Y) (some (.int (-1004))) (X) (Y) := by
  intro Q hQ
  show ss c mX7_spot (d + 3) Q 0 [(0, .ref (c_ad c 0)), (1, .int (nI j)), (2, .int v), (3, .int (nI s))] [] (X) (Y)
  have hj : j < 12 := by omega
  have hwj : ix (nI j) m = true := ix_of hjm (by omega)
  have hs9 : ix (nI s) (2 ^ n) = true := ix_of hs (by have := p2_le hn; omega)
  have hs8 := ix_2p hs hn
  refine ss_aload_n dX7_spot_0 0 rfl ?_
  refine ss_iload_n dX7_spot_1 1 rfl ?_
  refine ss_callV (As := [_]) (i := 0) dX7_spot_2 vlX7_113 clX7_isWorth rfl rfl (by omega) (sh_r0 _ _) rfl (Nat.le_of_ble_eq_true rfl) (Nat.le_of_ble_eq_true rfl) (q_isWorth hm h7) ?_
  refine sy_if_eq 16 dX7_spot_5 (by decide) (fun c5 => by first | exact kd_tf (hwj) c5 | exact kd_ft (hwj) c5 | exact absurd (hwj) c5 | exact absurd c5 (hwj)) (fun c5 => ?_)
  refine ss_aload_n dX7_spot_8 0 rfl ?_
  refine ss_iload_n dX7_spot_9 3 rfl ?_
  refine ss_callV (As := [_]) (i := 0) dX7_spot_10 vlX7_116 clX7_isSet rfl rfl (by omega) (sh_r0 _ _) rfl (Nat.le_of_ble_eq_true rfl) (Nat.le_of_ble_eq_true rfl) (q_isSet hn h6) ?_
  refine sy_if_ne 20 dX7_spot_13 (by decide) (fun c13 => ?_) (fun c13 => by first | exact kd_tf (hs9) c13 | exact kd_ft (hs9) c13 | exact absurd (hs9) c13 | exact absurd c13 (hs9))
  refine ss_iload_n dX7_spot_20 2 rfl ?_
  refine ss_i2l dX7_spot_21 ?_
  refine ss_lconst (v := 0) dX7_spot_22 (by decide) ?_
  refine ss_ldc2 dX7_spot_23 kcX7_162 ?_
  refine ss_callS (As := [_, _, _]) dX7_spot_26 vlX7_53 clX7_isWithin rfl rfl (Nat.le_of_ble_eq_true rfl) (Nat.le_of_ble_eq_true rfl) (q_isWithin) ?_
  refine sy_if_ne 36 dX7_spot_29 (by decide) (fun c29 => ?_) (fun c29 => by first | exact kd_tf (by rw [wi_ix (n := 10001) rfl]; exact hv) c29 | exact kd_ft (by rw [wi_ix (n := 10001) rfl]; exact hv) c29 | exact absurd (by rw [wi_ix (n := 10001) rfl]; exact hv) c29 | exact absurd c29 (by rw [wi_ix (n := 10001) rfl]; exact hv))
  refine ss_aload_n dX7_spot_36 0 rfl ?_
  refine ss_get (i := 0) dX7_spot_37 flX7_11 (by omega) (sh_r0 _ _) rfl ?_
  refine ss_iload_n dX7_spot_40 1 rfl ?_
  refine ss_worth (w := j) dX7_spot_41 hj ?_
  refine ss_astore (lv' := [(4, _), (0, _), (1, _), (2, _), (3, _)]) dX7_spot_42 (by decide) rfl ?_
  refine ss_aload dX7_spot_44 0 rfl ?_
  refine ss_get (i := 2 + 7 * j) dX7_spot_46 flX7_123 (by omega) (sh_w0 hj _ _) rfl ?_
  rw [hh]
  refine sy_if_eq 56 dX7_spot_49 (by decide) (fun c49 => ?_) (fun c49 => by first | exact kd_tf (rfl) c49 | exact kd_ft (rfl) c49 | exact absurd (rfl) c49 | exact absurd c49 (rfl))
  refine ss_aload dX7_spot_56 0 rfl ?_
  refine ss_get (i := 2 + 7 * j) dX7_spot_58 flX7_132 (by omega) (sh_w0 hj _ _) rfl ?_
  refine ss_iconst (v := nI 2) dX7_spot_61 (by decide) ?_
  refine ss_icmp_eq 71 dX7_spot_62 (by decide) (fun c62 => ?_) (fun c62 => by first | exact kd_tf (hkd) c62 | exact kd_ft (hkd) c62 | exact absurd (hkd) c62 | exact absurd c62 (hkd))
  refine ss_aload dX7_spot_71 0 rfl ?_
  refine ss_get (i := 2 + 7 * j) dX7_spot_73 flX7_164 (by omega) (sh_w0 hj _ _) rfl ?_
  rw [hpi]
  refine ss_bipush (v := nI 24) dX7_spot_76 (by decide) ?_
  refine sz_icmp_lt 85 dX7_spot_78 (by decide) (by omega) (by omega) (fun c78 => by omega) (fun c78 => ?_)
  refine ss_sipush (v := -1004) dX7_spot_81 (by decide) ?_
  exact ss_iret dX7_spot_84 rfl rfl (hQ)
set_option maxHeartbeats 4000000 in
set_option maxRecDepth 100000 in
theorem c_spot_k {c : cx} {d : Nat} {X : nX} {Y : nY} {n : Nat} (hn : n ≤ 10) (h6 : X 0 6 = nI n) {m : Nat} (hm : m ≤ 12) (h7 : X 0 7 = nI m) {j : Nat} (hjm : j < m) {s : Nat} (hs : s < 2 ^ n) {v : Int32} (hv : ix v 10001 = true) (hh : X (2 + 7 * j) 4 = bI false) (hkd : X (2 + 7 * j) 5 = nI 2) {P : Nat} (hpi : X (2 + 7 * j) 8 = nI P) (hP : P < 24) (hse : X (2 + 7 * j) 7 = nI (2 ^ n)) : sc c mX7_spot (d + 3) [.ref (c_ad c 0), .int (nI j), .int v, .int (nI s)] (X) (Y) (some (.int (nI (P + 1)))) (up2 (up2 X 0 8 (nI 0)) (2 + 7 * j) 8 (nI (P + 1))) (mpl Y (3 + 7 * j) 0 (2 ^ n) (f_spot Y j v s)) := by
  intro Q hQ
  show ss c mX7_spot (d + 3) Q 0 [(0, .ref (c_ad c 0)), (1, .int (nI j)), (2, .int v), (3, .int (nI s))] [] (X) (Y)
  have hj : j < 12 := by omega
  have hwj : ix (nI j) m = true := ix_of hjm (by omega)
  have hs9 : ix (nI s) (2 ^ n) = true := ix_of hs (by have := p2_le hn; omega)
  have hs8 := ix_2p hs hn
  refine ss_aload_n dX7_spot_0 0 rfl ?_
  refine ss_iload_n dX7_spot_1 1 rfl ?_
  refine ss_callV (As := [_]) (i := 0) dX7_spot_2 vlX7_113 clX7_isWorth rfl rfl (by omega) (sh_r0 _ _) rfl (Nat.le_of_ble_eq_true rfl) (Nat.le_of_ble_eq_true rfl) (q_isWorth hm h7) ?_
  refine sy_if_eq 16 dX7_spot_5 (by decide) (fun c5 => by first | exact kd_tf (hwj) c5 | exact kd_ft (hwj) c5 | exact absurd (hwj) c5 | exact absurd c5 (hwj)) (fun c5 => ?_)
  refine ss_aload_n dX7_spot_8 0 rfl ?_
  refine ss_iload_n dX7_spot_9 3 rfl ?_
  refine ss_callV (As := [_]) (i := 0) dX7_spot_10 vlX7_116 clX7_isSet rfl rfl (by omega) (sh_r0 _ _) rfl (Nat.le_of_ble_eq_true rfl) (Nat.le_of_ble_eq_true rfl) (q_isSet hn h6) ?_
  refine sy_if_ne 20 dX7_spot_13 (by decide) (fun c13 => ?_) (fun c13 => by first | exact kd_tf (hs9) c13 | exact kd_ft (hs9) c13 | exact absurd (hs9) c13 | exact absurd c13 (hs9))
  refine ss_iload_n dX7_spot_20 2 rfl ?_
  refine ss_i2l dX7_spot_21 ?_
  refine ss_lconst (v := 0) dX7_spot_22 (by decide) ?_
  refine ss_ldc2 dX7_spot_23 kcX7_162 ?_
  refine ss_callS (As := [_, _, _]) dX7_spot_26 vlX7_53 clX7_isWithin rfl rfl (Nat.le_of_ble_eq_true rfl) (Nat.le_of_ble_eq_true rfl) (q_isWithin) ?_
  refine sy_if_ne 36 dX7_spot_29 (by decide) (fun c29 => ?_) (fun c29 => by first | exact kd_tf (by rw [wi_ix (n := 10001) rfl]; exact hv) c29 | exact kd_ft (by rw [wi_ix (n := 10001) rfl]; exact hv) c29 | exact absurd (by rw [wi_ix (n := 10001) rfl]; exact hv) c29 | exact absurd c29 (by rw [wi_ix (n := 10001) rfl]; exact hv))
  refine ss_aload_n dX7_spot_36 0 rfl ?_
  refine ss_get (i := 0) dX7_spot_37 flX7_11 (by omega) (sh_r0 _ _) rfl ?_
  refine ss_iload_n dX7_spot_40 1 rfl ?_
  refine ss_worth (w := j) dX7_spot_41 hj ?_
  refine ss_astore (lv' := [(4, _), (0, _), (1, _), (2, _), (3, _)]) dX7_spot_42 (by decide) rfl ?_
  refine ss_aload dX7_spot_44 0 rfl ?_
  refine ss_get (i := 2 + 7 * j) dX7_spot_46 flX7_123 (by omega) (sh_w0 hj _ _) rfl ?_
  rw [hh]
  refine sy_if_eq 56 dX7_spot_49 (by decide) (fun c49 => ?_) (fun c49 => by first | exact kd_tf (rfl) c49 | exact kd_ft (rfl) c49 | exact absurd (rfl) c49 | exact absurd c49 (rfl))
  refine ss_aload dX7_spot_56 0 rfl ?_
  refine ss_get (i := 2 + 7 * j) dX7_spot_58 flX7_132 (by omega) (sh_w0 hj _ _) rfl ?_
  refine ss_iconst (v := nI 2) dX7_spot_61 (by decide) ?_
  refine ss_icmp_eq 71 dX7_spot_62 (by decide) (fun c62 => ?_) (fun c62 => by first | exact kd_tf (hkd) c62 | exact kd_ft (hkd) c62 | exact absurd (hkd) c62 | exact absurd c62 (hkd))
  refine ss_aload dX7_spot_71 0 rfl ?_
  refine ss_get (i := 2 + 7 * j) dX7_spot_73 flX7_164 (by omega) (sh_w0 hj _ _) rfl ?_
  rw [hpi]
  refine ss_bipush (v := nI 24) dX7_spot_76 (by decide) ?_
  refine sz_icmp_lt 85 dX7_spot_78 (by decide) (by omega) (by omega) (fun c78 => ?_) (fun c78 => by omega)
  refine ss_aload_n dX7_spot_85 1 rfl ?_
  refine ss_iconst (v := nI 0) dX7_spot_86 (by decide) ?_
  refine ss_put (i := 0) dX7_spot_87 fwX7_79 (by omega) (sh_r0 _ _) rfl rfl (Nat.le_of_ble_eq_true rfl) (sh_r0 _ _) ?_
  refine ss_aload dX7_spot_90 0 rfl ?_
  refine ss_iload_n dX7_spot_92 3 rfl ?_
  refine ss_iload_n dX7_spot_93 4 rfl ?_
  refine ss_callV (As := [_, _]) (i := 2 + 7 * j) dX7_spot_94 vlX7_171 clX6_takeSpot rfl rfl (by omega) (sh_w0 hj _ _) rfl (Nat.le_of_ble_eq_true rfl) (Nat.le_of_ble_eq_true rfl) (q_takeSpot hj (p2_le hn) (by rw [up2_at, if_neg (by omega)]; exact hse)) ?_
  refine ss_aload dX7_spot_97 0 rfl ?_
  refine ss_get (i := 2 + 7 * j) dX7_spot_99 flX7_164 (by omega) (sh_w0 hj _ _) rfl ?_
  rw [up2_at, if_pos ⟨rfl, rfl⟩, up2_at, if_neg (by omega), hpi, nI_add]
  exact ss_iret dX7_spot_102 rfl rfl (hQ)
