set_option maxHeartbeats 1000000 in
set_option maxRecDepth 100000 in
theorem r_least_u {c : cx} {d : Nat} {X : nX} {Y : nY} {m : Nat} (hm : m ≤ 12) (h7 : X 105 1 = nI m) {w : Int32} (hw : ix w m = false)  : sc c mX8_least (d + 2) [.ref (c_ad c 105), .int w] (X) (Y) (some (.long (-1001))) (X) (Y) := by
  intro Q hQ
  show ss c mX8_least (d + 2) Q 0 [(0, .ref (c_ad c 105)), (1, .int w)] [] (X) (Y)
  refine ss_aload_n dX8_least_0 0 rfl ?_
  refine ss_iload_n dX8_least_1 1 rfl ?_
  refine ss_callV (As := [_]) (i := 105) dX8_least_2 vlX8_157 clX8_isWorth rfl rfl (by omega) (sh_r105 _ _) rfl (Nat.le_of_ble_eq_true rfl) (Nat.le_of_ble_eq_true rfl) (m_isWorth hm h7) ?_
  refine sy_if_eq 16 dX8_least_5 (by decide) (fun c5 => ?_) (fun c5 => by first | exact kd_tf (hw) c5 | exact kd_ft (hw) c5 | exact absurd (hw) c5 | exact absurd c5 (hw))
  refine ss_ldc2 dX8_least_16 kcX8_108 ?_
  exact ss_lret dX8_least_19 rfl (hQ)
set_option maxHeartbeats 1000000 in
set_option maxRecDepth 100000 in
theorem r_bends_u {c : cx} {d : Nat} {X : nX} {Y : nY} {m : Nat} (hm : m ≤ 12) (h7 : X 105 1 = nI m) {w : Int32} (hw : ix w m = false)  : sc c mX8_bends (d + 3) [.ref (c_ad c 105), .int w] (X) (Y) (some (.int (-1001))) (X) (Y) := by
  intro Q hQ
  show ss c mX8_bends (d + 3) Q 0 [(0, .ref (c_ad c 105)), (1, .int w)] [] (X) (Y)
  refine ss_aload_n dX8_bends_0 0 rfl ?_
  refine ss_iload_n dX8_bends_1 1 rfl ?_
  refine ss_callV (As := [_]) (i := 105) dX8_bends_2 vlX8_157 clX8_isWorth rfl rfl (by omega) (sh_r105 _ _) rfl (Nat.le_of_ble_eq_true rfl) (Nat.le_of_ble_eq_true rfl) (m_isWorth hm h7) ?_
  refine sy_if_eq 16 dX8_bends_5 (by decide) (fun c5 => ?_) (fun c5 => by first | exact kd_tf (hw) c5 | exact kd_ft (hw) c5 | exact absurd (hw) c5 | exact absurd c5 (hw))
  refine ss_sipush (v := -1001) dX8_bends_16 (by decide) ?_
  exact ss_iret dX8_bends_19 rfl rfl (hQ)
set_option maxHeartbeats 1000000 in
set_option maxRecDepth 100000 in
theorem r_in_u {c : cx} {d : Nat} {X : nX} {Y : nY} {m : Nat} (hm : m ≤ 12) (h7 : X 105 1 = nI m) {w : Int32} (hw : ix w m = false)  : sc c mX8_in (d + 2) [.ref (c_ad c 105), .int w] (X) (Y) (some (.int (-1001))) (X) (Y) := by
  intro Q hQ
  show ss c mX8_in (d + 2) Q 0 [(0, .ref (c_ad c 105)), (1, .int w)] [] (X) (Y)
  refine ss_aload_n dX8_in_0 0 rfl ?_
  refine ss_iload_n dX8_in_1 1 rfl ?_
  refine ss_callV (As := [_]) (i := 105) dX8_in_2 vlX8_157 clX8_isWorth rfl rfl (by omega) (sh_r105 _ _) rfl (Nat.le_of_ble_eq_true rfl) (Nat.le_of_ble_eq_true rfl) (m_isWorth hm h7) ?_
  refine sy_if_eq 16 dX8_in_5 (by decide) (fun c5 => ?_) (fun c5 => by first | exact kd_tf (hw) c5 | exact kd_ft (hw) c5 | exact absurd (hw) c5 | exact absurd c5 (hw))
  refine ss_sipush (v := -1001) dX8_in_16 (by decide) ?_
  exact ss_iret dX8_in_19 rfl rfl (hQ)
set_option maxHeartbeats 1000000 in
set_option maxRecDepth 100000 in
theorem r_falls_u {c : cx} {d : Nat} {X : nX} {Y : nY} {m : Nat} (hm : m ≤ 12) (h7 : X 105 1 = nI m) {w : Int32} (hw : ix w m = false)  : sc c mX8_falls (d + 3) [.ref (c_ad c 105), .int w] (X) (Y) (some (.int (-1001))) (X) (Y) := by
  intro Q hQ
  show ss c mX8_falls (d + 3) Q 0 [(0, .ref (c_ad c 105)), (1, .int w)] [] (X) (Y)
  refine ss_aload_n dX8_falls_0 0 rfl ?_
  refine ss_iload_n dX8_falls_1 1 rfl ?_
  refine ss_callV (As := [_]) (i := 105) dX8_falls_2 vlX8_157 clX8_isWorth rfl rfl (by omega) (sh_r105 _ _) rfl (Nat.le_of_ble_eq_true rfl) (Nat.le_of_ble_eq_true rfl) (m_isWorth hm h7) ?_
  refine sy_if_ne 14 dX8_falls_5 (by decide) (fun c5 => by first | exact kd_tf (hw) c5 | exact kd_ft (hw) c5 | exact absurd (hw) c5 | exact absurd c5 (hw)) (fun c5 => ?_)
  refine ss_sipush (v := -1001) dX8_falls_8 (by decide) ?_
  refine ss_goto 27 dX8_falls_11 (by decide) ?_
  exact ss_iret dX8_falls_27 rfl rfl (hQ)
set_option maxHeartbeats 1000000 in
set_option maxRecDepth 100000 in
theorem r_corner_u {c : cx} {d : Nat} {X : nX} {Y : nY} {m : Nat} (hm : m ≤ 12) (h7 : X 105 1 = nI m) {w : Int32} (hw : ix w m = false)  : sc c mX8_corner (d + 3) [.ref (c_ad c 105), .int w] (X) (Y) (some (.int (-1001))) (X) (Y) := by
  intro Q hQ
  show ss c mX8_corner (d + 3) Q 0 [(0, .ref (c_ad c 105)), (1, .int w)] [] (X) (Y)
  refine ss_aload_n dX8_corner_0 0 rfl ?_
  refine ss_iload_n dX8_corner_1 1 rfl ?_
  refine ss_callV (As := [_]) (i := 105) dX8_corner_2 vlX8_157 clX8_isWorth rfl rfl (by omega) (sh_r105 _ _) rfl (Nat.le_of_ble_eq_true rfl) (Nat.le_of_ble_eq_true rfl) (m_isWorth hm h7) ?_
  refine sy_if_ne 12 dX8_corner_5 (by decide) (fun c5 => by first | exact kd_tf (hw) c5 | exact kd_ft (hw) c5 | exact absurd (hw) c5 | exact absurd c5 (hw)) (fun c5 => ?_)
  refine ss_sipush (v := -1001) dX8_corner_8 (by decide) ?_
  exact ss_iret dX8_corner_11 rfl rfl (hQ)
set_option maxHeartbeats 1000000 in
set_option maxRecDepth 100000 in
theorem r_proves_u {c : cx} {d : Nat} {X : nX} {Y : nY} {m : Nat} (hm : m ≤ 12) (h7 : X 105 1 = nI m) {w : Int32} (hw : ix w m = false)  : sc c mX8_proves (d + 3) [.ref (c_ad c 105), .int w] (X) (Y) (some (.int (-1001))) (X) (Y) := by
  intro Q hQ
  show ss c mX8_proves (d + 3) Q 0 [(0, .ref (c_ad c 105)), (1, .int w)] [] (X) (Y)
  refine ss_aload_n dX8_proves_0 0 rfl ?_
  refine ss_iload_n dX8_proves_1 1 rfl ?_
  refine ss_callV (As := [_]) (i := 105) dX8_proves_2 vlX8_157 clX8_isWorth rfl rfl (by omega) (sh_r105 _ _) rfl (Nat.le_of_ble_eq_true rfl) (Nat.le_of_ble_eq_true rfl) (m_isWorth hm h7) ?_
  refine sy_if_ne 12 dX8_proves_5 (by decide) (fun c5 => by first | exact kd_tf (hw) c5 | exact kd_ft (hw) c5 | exact absurd (hw) c5 | exact absurd c5 (hw)) (fun c5 => ?_)
  refine ss_sipush (v := -1001) dX8_proves_8 (by decide) ?_
  exact ss_iret dX8_proves_11 rfl rfl (hQ)
set_option maxHeartbeats 1000000 in
set_option maxRecDepth 100000 in
theorem r_why_u {c : cx} {d : Nat} {X : nX} {Y : nY} {m : Nat} (hm : m ≤ 12) (h7 : X 105 1 = nI m) {w : Int32} (hw : ix w m = false) {i : Int32} : sc c mX8_why (d + 3) [.ref (c_ad c 105), .int w, .int i] (X) (Y) (some (.int (-1001))) (X) (Y) := by
  intro Q hQ
  show ss c mX8_why (d + 3) Q 0 [(0, .ref (c_ad c 105)), (1, .int w), (2, .int i)] [] (X) (Y)
  refine ss_aload_n dX8_why_0 0 rfl ?_
  refine ss_iload_n dX8_why_1 1 rfl ?_
  refine ss_callV (As := [_]) (i := 105) dX8_why_2 vlX8_157 clX8_isWorth rfl rfl (by omega) (sh_r105 _ _) rfl (Nat.le_of_ble_eq_true rfl) (Nat.le_of_ble_eq_true rfl) (m_isWorth hm h7) ?_
  refine sy_if_ne 12 dX8_why_5 (by decide) (fun c5 => by first | exact kd_tf (hw) c5 | exact kd_ft (hw) c5 | exact absurd (hw) c5 | exact absurd c5 (hw)) (fun c5 => ?_)
  refine ss_sipush (v := -1001) dX8_why_8 (by decide) ?_
  exact ss_iret dX8_why_11 rfl rfl (hQ)
set_option maxHeartbeats 1000000 in
set_option maxRecDepth 100000 in
theorem r_all_u {c : cx} {d : Nat} {X : nX} {Y : nY} {m : Nat} (hm : m ≤ 12) (h7 : X 105 1 = nI m) {w : Int32} (hw : ix w m = false) {i : Int32} : sc c mX8_all (d + 3) [.ref (c_ad c 105), .int w, .int i] (X) (Y) (some (.int (-1001))) (X) (Y) := by
  intro Q hQ
  show ss c mX8_all (d + 3) Q 0 [(0, .ref (c_ad c 105)), (1, .int w), (2, .int i)] [] (X) (Y)
  refine ss_aload_n dX8_all_0 0 rfl ?_
  refine ss_iload_n dX8_all_1 1 rfl ?_
  refine ss_callV (As := [_]) (i := 105) dX8_all_2 vlX8_157 clX8_isWorth rfl rfl (by omega) (sh_r105 _ _) rfl (Nat.le_of_ble_eq_true rfl) (Nat.le_of_ble_eq_true rfl) (m_isWorth hm h7) ?_
  refine sy_if_ne 12 dX8_all_5 (by decide) (fun c5 => by first | exact kd_tf (hw) c5 | exact kd_ft (hw) c5 | exact absurd (hw) c5 | exact absurd c5 (hw)) (fun c5 => ?_)
  refine ss_sipush (v := -1001) dX8_all_8 (by decide) ?_
  exact ss_iret dX8_all_11 rfl rfl (hQ)
set_option maxHeartbeats 1000000 in
set_option maxRecDepth 100000 in
theorem r_one_u {c : cx} {d : Nat} {X : nX} {Y : nY} {m : Nat} (hm : m ≤ 12) (h7 : X 105 1 = nI m) {w : Int32} (hw : ix w m = false) {i : Int32} : sc c mX8_one (d + 3) [.ref (c_ad c 105), .int w, .int i] (X) (Y) (some (.int (-1001))) (X) (Y) := by
  intro Q hQ
  show ss c mX8_one (d + 3) Q 0 [(0, .ref (c_ad c 105)), (1, .int w), (2, .int i)] [] (X) (Y)
  refine ss_aload_n dX8_one_0 0 rfl ?_
  refine ss_iload_n dX8_one_1 1 rfl ?_
  refine ss_callV (As := [_]) (i := 105) dX8_one_2 vlX8_157 clX8_isWorth rfl rfl (by omega) (sh_r105 _ _) rfl (Nat.le_of_ble_eq_true rfl) (Nat.le_of_ble_eq_true rfl) (m_isWorth hm h7) ?_
  refine sy_if_ne 12 dX8_one_5 (by decide) (fun c5 => by first | exact kd_tf (hw) c5 | exact kd_ft (hw) c5 | exact absurd (hw) c5 | exact absurd c5 (hw)) (fun c5 => ?_)
  refine ss_sipush (v := -1001) dX8_one_8 (by decide) ?_
  exact ss_iret dX8_one_11 rfl rfl (hQ)
set_option maxHeartbeats 1000000 in
set_option maxRecDepth 100000 in
theorem r_level_u {c : cx} {d : Nat} {X : nX} {Y : nY} {m : Nat} (hm : m ≤ 12) (h7 : X 105 1 = nI m) {w : Int32} (hw : ix w m = false) {i : Int32} : sc c mX8_level (d + 3) [.ref (c_ad c 105), .int w, .int i] (X) (Y) (some (.long (-1001))) (X) (Y) := by
  intro Q hQ
  show ss c mX8_level (d + 3) Q 0 [(0, .ref (c_ad c 105)), (1, .int w), (2, .int i)] [] (X) (Y)
  refine ss_aload_n dX8_level_0 0 rfl ?_
  refine ss_iload_n dX8_level_1 1 rfl ?_
  refine ss_callV (As := [_]) (i := 105) dX8_level_2 vlX8_157 clX8_isWorth rfl rfl (by omega) (sh_r105 _ _) rfl (Nat.le_of_ble_eq_true rfl) (Nat.le_of_ble_eq_true rfl) (m_isWorth hm h7) ?_
  refine sy_if_ne 14 dX8_level_5 (by decide) (fun c5 => by first | exact kd_tf (hw) c5 | exact kd_ft (hw) c5 | exact absurd (hw) c5 | exact absurd c5 (hw)) (fun c5 => ?_)
  refine ss_ldc2 dX8_level_8 kcX8_108 ?_
  refine ss_goto 40 dX8_level_11 (by decide) ?_
  exact ss_lret dX8_level_40 rfl (hQ)
set_option maxHeartbeats 1000000 in
set_option maxRecDepth 100000 in
theorem r_mix_u {c : cx} {d : Nat} {X : nX} {Y : nY} {m : Nat} (hm : m ≤ 12) (h7 : X 105 1 = nI m) {w : Int32} (hw : ix w m = false) {i : Int32} {q : Int32} : sc c mX8_mix (d + 3) [.ref (c_ad c 105), .int w, .int i, .int q] (X) (Y) (some (.int (-1001))) (X) (Y) := by
  intro Q hQ
  show ss c mX8_mix (d + 3) Q 0 [(0, .ref (c_ad c 105)), (1, .int w), (2, .int i), (3, .int q)] [] (X) (Y)
  refine ss_aload_n dX8_mix_0 0 rfl ?_
  refine ss_iload_n dX8_mix_1 1 rfl ?_
  refine ss_callV (As := [_]) (i := 105) dX8_mix_2 vlX8_157 clX8_isWorth rfl rfl (by omega) (sh_r105 _ _) rfl (Nat.le_of_ble_eq_true rfl) (Nat.le_of_ble_eq_true rfl) (m_isWorth hm h7) ?_
  refine sy_if_ne 12 dX8_mix_5 (by decide) (fun c5 => by first | exact kd_tf (hw) c5 | exact kd_ft (hw) c5 | exact absurd (hw) c5 | exact absurd c5 (hw)) (fun c5 => ?_)
  refine ss_sipush (v := -1001) dX8_mix_8 (by decide) ?_
  exact ss_iret dX8_mix_11 rfl rfl (hQ)
set_option maxHeartbeats 1000000 in
set_option maxRecDepth 100000 in
theorem r_greed_u {c : cx} {d : Nat} {X : nX} {Y : nY} {m : Nat} (hm : m ≤ 12) (h7 : X 105 1 = nI m) {w : Int32} (hw : ix w m = false) {i : Int32} : sc c mX8_greed (d + 3) [.ref (c_ad c 105), .int w, .int i] (X) (Y) (some (.int (-1001))) (X) (Y) := by
  intro Q hQ
  show ss c mX8_greed (d + 3) Q 0 [(0, .ref (c_ad c 105)), (1, .int w), (2, .int i)] [] (X) (Y)
  refine ss_aload_n dX8_greed_0 0 rfl ?_
  refine ss_iload_n dX8_greed_1 1 rfl ?_
  refine ss_callV (As := [_]) (i := 105) dX8_greed_2 vlX8_157 clX8_isWorth rfl rfl (by omega) (sh_r105 _ _) rfl (Nat.le_of_ble_eq_true rfl) (Nat.le_of_ble_eq_true rfl) (m_isWorth hm h7) ?_
  refine sy_if_ne 12 dX8_greed_5 (by decide) (fun c5 => by first | exact kd_tf (hw) c5 | exact kd_ft (hw) c5 | exact absurd (hw) c5 | exact absurd c5 (hw)) (fun c5 => ?_)
  refine ss_sipush (v := -1001) dX8_greed_8 (by decide) ?_
  exact ss_iret dX8_greed_11 rfl rfl (hQ)
set_option maxHeartbeats 1000000 in
set_option maxRecDepth 100000 in
theorem r_best_u {c : cx} {d : Nat} {X : nX} {Y : nY} {m : Nat} (hm : m ≤ 12) (h7 : X 105 1 = nI m) {w : Int32} (hw : ix w m = false) {i : Int32} : sc c mX8_best (d + 3) [.ref (c_ad c 105), .int w, .int i] (X) (Y) (some (.long (-1001))) (X) (Y) := by
  intro Q hQ
  show ss c mX8_best (d + 3) Q 0 [(0, .ref (c_ad c 105)), (1, .int w), (2, .int i)] [] (X) (Y)
  refine ss_aload_n dX8_best_0 0 rfl ?_
  refine ss_iload_n dX8_best_1 1 rfl ?_
  refine ss_callV (As := [_]) (i := 105) dX8_best_2 vlX8_157 clX8_isWorth rfl rfl (by omega) (sh_r105 _ _) rfl (Nat.le_of_ble_eq_true rfl) (Nat.le_of_ble_eq_true rfl) (m_isWorth hm h7) ?_
  refine sy_if_ne 12 dX8_best_5 (by decide) (fun c5 => by first | exact kd_tf (hw) c5 | exact kd_ft (hw) c5 | exact absurd (hw) c5 | exact absurd c5 (hw)) (fun c5 => ?_)
  refine ss_ldc2 dX8_best_8 kcX8_108 ?_
  exact ss_lret dX8_best_11 rfl (hQ)
set_option maxHeartbeats 1000000 in
set_option maxRecDepth 100000 in
theorem r_bend_u {c : cx} {d : Nat} {X : nX} {Y : nY} {m : Nat} (hm : m ≤ 12) (h7 : X 105 1 = nI m) {w : Int32} (hw : ix w m = false) {i q : Int32} : sc c mX8_bend (d + 3) [.ref (c_ad c 105), .int w, .int i, .int q] (X) (Y) (some (.long (-1001))) (X) (Y) := by
  intro Q hQ
  show ss c mX8_bend (d + 3) Q 0 [(0, .ref (c_ad c 105)), (1, .int w), (2, .int i), (3, .int q)] [] (X) (Y)
  refine ss_aload_n dX8_bend_0 0 rfl ?_
  refine ss_iload_n dX8_bend_1 1 rfl ?_
  refine ss_callV (As := [_]) (i := 105) dX8_bend_2 vlX8_157 clX8_isWorth rfl rfl (by omega) (sh_r105 _ _) rfl (Nat.le_of_ble_eq_true rfl) (Nat.le_of_ble_eq_true rfl) (m_isWorth hm h7) ?_
  refine sy_if_eq 25 dX8_bend_5 (by decide) (fun c5 => ?_) (fun c5 => by first | exact kd_tf (hw) c5 | exact kd_ft (hw) c5 | exact absurd (hw) c5 | exact absurd c5 (hw))
  refine ss_ldc2 dX8_bend_25 kcX8_108 ?_
  exact ss_lret dX8_bend_28 rfl (hQ)
set_option maxHeartbeats 1000000 in
set_option maxRecDepth 100000 in
theorem r_value_u {c : cx} {d : Nat} {X : nX} {Y : nY} {n : Nat} (hn : n ≤ 10) (h6 : X 105 0 = nI n) {m : Nat} (hm : m ≤ 12) (h7 : X 105 1 = nI m) {w s : Int32} (hu : ix w m = false ∨ ix s (2 ^ n) = false) : sc c mX8_value (d + 2) [.ref (c_ad c 105), .int w, .int s] (X) (Y) (some (.long (-1001))) (X) (Y) := by
  intro Q hQ
  show ss c mX8_value (d + 2) Q 0 [(0, .ref (c_ad c 105)), (1, .int w), (2, .int s)] [] (X) (Y)
  refine ss_aload_n dX8_value_0 0 rfl ?_
  refine ss_iload_n dX8_value_1 1 rfl ?_
  refine ss_callV (As := [_]) (i := 105) dX8_value_2 vlX8_157 clX8_isWorth rfl rfl (by omega) (sh_r105 _ _) rfl (Nat.le_of_ble_eq_true rfl) (Nat.le_of_ble_eq_true rfl) (m_isWorth hm h7) ?_
  refine sy_if_eq 25 dX8_value_5 (by decide) (fun c5 => ?_) (fun c5 => ?_)
  · skip
    refine ss_ldc2 dX8_value_25 kcX8_108 ?_
    exact ss_lret dX8_value_28 rfl (hQ)
  · skip
    refine ss_aload_n dX8_value_8 0 rfl ?_
    refine ss_iload_n dX8_value_9 2 rfl ?_
    refine ss_callV (As := [_]) (i := 105) dX8_value_10 vlX8_160 clX8_isSet rfl rfl (by omega) (sh_r105 _ _) rfl (Nat.le_of_ble_eq_true rfl) (Nat.le_of_ble_eq_true rfl) (m_isSet hn h6) ?_
    refine sy_if_eq 25 dX8_value_13 (by decide) (fun c13 => ?_) (fun c13 => by rcases hu with h8 | h8; exact kd_tf c5 h8; exact kd_tf c13 h8)
    refine ss_ldc2 dX8_value_25 kcX8_108 ?_
    exact ss_lret dX8_value_28 rfl (hQ)
set_option maxHeartbeats 1000000 in
set_option maxRecDepth 100000 in
theorem r_value_k {c : cx} {d : Nat} {X : nX} {Y : nY} {n : Nat} (hn : n ≤ 10) (h6 : X 105 0 = nI n) {m : Nat} (hm : m ≤ 12) (h7 : X 105 1 = nI m) {j : Nat} (hjm : j < m) {s : Nat} (hs : s < 2 ^ n) : sc c mX8_value (d + 2) [.ref (c_ad c 105), .int (nI j), .int (nI s)] (X) (Y) (some (.long (vr Y j s))) (X) (Y) := by
  intro Q hQ
  show ss c mX8_value (d + 2) Q 0 [(0, .ref (c_ad c 105)), (1, .int (nI j)), (2, .int (nI s))] [] (X) (Y)
  have hj : j < 12 := by omega
  have hwj : ix (nI j) m = true := ix_of hjm (by omega)
  have hs9 : ix (nI s) (2 ^ n) = true := ix_of hs (by have := p2_le hn; omega)
  have hs8 := ix_2p hs hn
  refine ss_aload_n dX8_value_0 0 rfl ?_
  refine ss_iload_n dX8_value_1 1 rfl ?_
  refine ss_callV (As := [_]) (i := 105) dX8_value_2 vlX8_157 clX8_isWorth rfl rfl (by omega) (sh_r105 _ _) rfl (Nat.le_of_ble_eq_true rfl) (Nat.le_of_ble_eq_true rfl) (m_isWorth hm h7) ?_
  refine sy_if_eq 25 dX8_value_5 (by decide) (fun c5 => by first | exact kd_tf (hwj) c5 | exact kd_ft (hwj) c5 | exact absurd (hwj) c5 | exact absurd c5 (hwj)) (fun c5 => ?_)
  refine ss_aload_n dX8_value_8 0 rfl ?_
  refine ss_iload_n dX8_value_9 2 rfl ?_
  refine ss_callV (As := [_]) (i := 105) dX8_value_10 vlX8_160 clX8_isSet rfl rfl (by omega) (sh_r105 _ _) rfl (Nat.le_of_ble_eq_true rfl) (Nat.le_of_ble_eq_true rfl) (m_isSet hn h6) ?_
  refine sy_if_eq 25 dX8_value_13 (by decide) (fun c13 => by first | exact kd_tf (hs9) c13 | exact kd_ft (hs9) c13 | exact absurd (hs9) c13 | exact absurd c13 (hs9)) (fun c13 => ?_)
  refine ss_aload_n dX8_value_16 0 rfl ?_
  refine ss_iload_n dX8_value_17 1 rfl ?_
  refine ss_iload_n dX8_value_18 2 rfl ?_
  refine ss_callV (As := [_, _]) (i := 105) dX8_value_19 vlX8_205 clX8_v rfl rfl (by omega) (sh_r105 _ _) rfl (Nat.le_of_ble_eq_true rfl) (Nat.le_of_ble_eq_true rfl) (m_v hj hs8) ?_
  refine ss_goto 28 dX8_value_22 (by decide) ?_
  exact ss_lret dX8_value_28 rfl (hQ)
set_option maxHeartbeats 1000000 in
set_option maxRecDepth 100000 in
theorem r_adds_u {c : cx} {d : Nat} {X : nX} {Y : nY} {n : Nat} (hn : n ≤ 10) (h6 : X 105 0 = nI n) {m : Nat} (hm : m ≤ 12) (h7 : X 105 1 = nI m) {w s t : Int32} (hu : ix w m = false ∨ ix s (2 ^ n) = false ∨ ix t n = false) : sc c mX8_adds (d + 2) [.ref (c_ad c 105), .int w, .int s, .int t] (X) (Y) (some (.long (-1001))) (X) (Y) := by
  intro Q hQ
  show ss c mX8_adds (d + 2) Q 0 [(0, .ref (c_ad c 105)), (1, .int w), (2, .int s), (3, .int t)] [] (X) (Y)
  refine ss_aload_n dX8_adds_0 0 rfl ?_
  refine ss_iload_n dX8_adds_1 1 rfl ?_
  refine ss_callV (As := [_]) (i := 105) dX8_adds_2 vlX8_157 clX8_isWorth rfl rfl (by omega) (sh_r105 _ _) rfl (Nat.le_of_ble_eq_true rfl) (Nat.le_of_ble_eq_true rfl) (m_isWorth hm h7) ?_
  refine sy_if_eq 44 dX8_adds_5 (by decide) (fun c5 => ?_) (fun c5 => ?_)
  · skip
    refine ss_ldc2 dX8_adds_44 kcX8_108 ?_
    exact ss_lret dX8_adds_47 rfl (hQ)
  · skip
    refine ss_aload_n dX8_adds_8 0 rfl ?_
    refine ss_iload_n dX8_adds_9 2 rfl ?_
    refine ss_callV (As := [_]) (i := 105) dX8_adds_10 vlX8_160 clX8_isSet rfl rfl (by omega) (sh_r105 _ _) rfl (Nat.le_of_ble_eq_true rfl) (Nat.le_of_ble_eq_true rfl) (m_isSet hn h6) ?_
    refine sy_if_eq 44 dX8_adds_13 (by decide) (fun c13 => ?_) (fun c13 => ?_)
    · skip
      refine ss_ldc2 dX8_adds_44 kcX8_108 ?_
      exact ss_lret dX8_adds_47 rfl (hQ)
    · skip
      refine ss_aload_n dX8_adds_16 0 rfl ?_
      refine ss_iload_n dX8_adds_17 3 rfl ?_
      refine ss_callV (As := [_]) (i := 105) dX8_adds_18 vlX8_180 clX8_isThing rfl rfl (by omega) (sh_r105 _ _) rfl (Nat.le_of_ble_eq_true rfl) (Nat.le_of_ble_eq_true rfl) (m_isThing hn h6) ?_
      refine sy_if_eq 44 dX8_adds_21 (by decide) (fun c21 => ?_) (fun c21 => by rcases hu with h8 | h8 | h8; exact kd_tf c5 h8; exact kd_tf c13 h8; exact kd_tf c21 h8)
      refine ss_ldc2 dX8_adds_44 kcX8_108 ?_
      exact ss_lret dX8_adds_47 rfl (hQ)
set_option maxHeartbeats 1000000 in
set_option maxRecDepth 100000 in
theorem r_adds_k {c : cx} {d : Nat} {X : nX} {Y : nY} {n : Nat} (hn : n ≤ 10) (h6 : X 105 0 = nI n) {m : Nat} (hm : m ≤ 12) (h7 : X 105 1 = nI m) {j : Nat} (hjm : j < m) {s : Nat} (hs : s < 2 ^ n) {t : Nat} (ht : t < n) : sc c mX8_adds (d + 2) [.ref (c_ad c 105), .int (nI j), .int (nI s), .int (nI t)] (X) (Y) (some (.long (vr Y j (s ||| 2 ^ t) - vr Y j s))) (X) (Y) := by
  intro Q hQ
  show ss c mX8_adds (d + 2) Q 0 [(0, .ref (c_ad c 105)), (1, .int (nI j)), (2, .int (nI s)), (3, .int (nI t))] [] (X) (Y)
  have hj : j < 12 := by omega
  have hwj : ix (nI j) m = true := ix_of hjm (by omega)
  have hs9 : ix (nI s) (2 ^ n) = true := ix_of hs (by have := p2_le hn; omega)
  have hs8 := ix_2p hs hn
  have ht9 : ix (nI t) n = true := ix_of ht (by omega)
  refine ss_aload_n dX8_adds_0 0 rfl ?_
  refine ss_iload_n dX8_adds_1 1 rfl ?_
  refine ss_callV (As := [_]) (i := 105) dX8_adds_2 vlX8_157 clX8_isWorth rfl rfl (by omega) (sh_r105 _ _) rfl (Nat.le_of_ble_eq_true rfl) (Nat.le_of_ble_eq_true rfl) (m_isWorth hm h7) ?_
  refine sy_if_eq 44 dX8_adds_5 (by decide) (fun c5 => by first | exact kd_tf (hwj) c5 | exact kd_ft (hwj) c5 | exact absurd (hwj) c5 | exact absurd c5 (hwj)) (fun c5 => ?_)
  refine ss_aload_n dX8_adds_8 0 rfl ?_
  refine ss_iload_n dX8_adds_9 2 rfl ?_
  refine ss_callV (As := [_]) (i := 105) dX8_adds_10 vlX8_160 clX8_isSet rfl rfl (by omega) (sh_r105 _ _) rfl (Nat.le_of_ble_eq_true rfl) (Nat.le_of_ble_eq_true rfl) (m_isSet hn h6) ?_
  refine sy_if_eq 44 dX8_adds_13 (by decide) (fun c13 => by first | exact kd_tf (hs9) c13 | exact kd_ft (hs9) c13 | exact absurd (hs9) c13 | exact absurd c13 (hs9)) (fun c13 => ?_)
  refine ss_aload_n dX8_adds_16 0 rfl ?_
  refine ss_iload_n dX8_adds_17 3 rfl ?_
  refine ss_callV (As := [_]) (i := 105) dX8_adds_18 vlX8_180 clX8_isThing rfl rfl (by omega) (sh_r105 _ _) rfl (Nat.le_of_ble_eq_true rfl) (Nat.le_of_ble_eq_true rfl) (m_isThing hn h6) ?_
  refine sy_if_eq 44 dX8_adds_21 (by decide) (fun c21 => by first | exact kd_tf (ht9) c21 | exact kd_ft (ht9) c21 | exact absurd (ht9) c21 | exact absurd c21 (ht9)) (fun c21 => ?_)
  refine ss_aload_n dX8_adds_24 0 rfl ?_
  refine ss_iload_n dX8_adds_25 1 rfl ?_
  refine ss_iload_n dX8_adds_26 2 rfl ?_
  refine ss_iconst (v := nI 1) dX8_adds_27 (by decide) ?_
  refine ss_iload_n dX8_adds_28 3 rfl ?_
  refine sz_shl1 dX8_adds_29 (by omega) ?_
  refine sz_ior dX8_adds_30 ?_
  refine ss_callV (As := [_, _]) (i := 105) dX8_adds_31 vlX8_205 clX8_v rfl rfl (by omega) (sh_r105 _ _) rfl (Nat.le_of_ble_eq_true rfl) (Nat.le_of_ble_eq_true rfl) (m_v hj (xb_or10 hs8 (xb_p10 (by omega)))) ?_
  refine ss_aload_n dX8_adds_34 0 rfl ?_
  refine ss_iload_n dX8_adds_35 1 rfl ?_
  refine ss_iload_n dX8_adds_36 2 rfl ?_
  refine ss_callV (As := [_, _]) (i := 105) dX8_adds_37 vlX8_205 clX8_v rfl rfl (by omega) (sh_r105 _ _) rfl (Nat.le_of_ble_eq_true rfl) (Nat.le_of_ble_eq_true rfl) (m_v hj hs8) ?_
  refine ss_lsub dX8_adds_40 ?_
  refine ss_goto 47 dX8_adds_41 (by decide) ?_
  exact ss_lret dX8_adds_47 rfl (hQ)
set_option maxHeartbeats 1000000 in
set_option maxRecDepth 100000 in
theorem r_falls_t {c : cx} {d : Nat} {X : nX} {Y : nY} {n : Nat} (hn : n ≤ 10) (h6 : X 105 0 = nI n) {m : Nat} (hm : m ≤ 12) (h7 : X 105 1 = nI m) {j : Nat} (hjm : j < m) (h : ¬ 0 ≤ wrg (vr Y j) n (2 ^ n)) : sc c mX8_falls (d + 3) [.ref (c_ad c 105), .int (nI j)] (X) (Y) (some (.int (nI 1))) (X) (Y) := by
  intro Q hQ
  show ss c mX8_falls (d + 3) Q 0 [(0, .ref (c_ad c 105)), (1, .int (nI j))] [] (X) (Y)
  have hj : j < 12 := by omega
  have hwj : ix (nI j) m = true := ix_of hjm (by omega)
  refine ss_aload_n dX8_falls_0 0 rfl ?_
  refine ss_iload_n dX8_falls_1 1 rfl ?_
  refine ss_callV (As := [_]) (i := 105) dX8_falls_2 vlX8_157 clX8_isWorth rfl rfl (by omega) (sh_r105 _ _) rfl (Nat.le_of_ble_eq_true rfl) (Nat.le_of_ble_eq_true rfl) (m_isWorth hm h7) ?_
  refine sy_if_ne 14 dX8_falls_5 (by decide) (fun c5 => ?_) (fun c5 => by first | exact kd_tf (hwj) c5 | exact kd_ft (hwj) c5 | exact absurd (hwj) c5 | exact absurd c5 (hwj))
  refine ss_aload_n dX8_falls_14 0 rfl ?_
  refine ss_iload_n dX8_falls_15 1 rfl ?_
  refine ss_callV (As := [_]) (i := 105) dX8_falls_16 vlX8_208 clX8_wrong rfl rfl (by omega) (sh_r105 _ _) rfl (Nat.le_of_ble_eq_true rfl) (Nat.le_of_ble_eq_true rfl) (m_wrong hj hn h6) ?_
  refine ss_if_ge 26 dX8_falls_19 (by decide) (fun c19 => by first | exact kd_tf (h) c19 | exact kd_ft (h) c19 | exact absurd (h) c19 | exact absurd c19 (h)) (fun c19 => ?_)
  refine ss_iconst (v := nI 1) dX8_falls_22 (by decide) ?_
  refine ss_goto 27 dX8_falls_23 (by decide) ?_
  exact ss_iret dX8_falls_27 rfl rfl (hQ)
set_option maxHeartbeats 1000000 in
set_option maxRecDepth 100000 in
theorem r_falls_f {c : cx} {d : Nat} {X : nX} {Y : nY} {n : Nat} (hn : n ≤ 10) (h6 : X 105 0 = nI n) {m : Nat} (hm : m ≤ 12) (h7 : X 105 1 = nI m) {j : Nat} (hjm : j < m) (h : 0 ≤ wrg (vr Y j) n (2 ^ n)) : sc c mX8_falls (d + 3) [.ref (c_ad c 105), .int (nI j)] (X) (Y) (some (.int (nI 0))) (X) (Y) := by
  intro Q hQ
  show ss c mX8_falls (d + 3) Q 0 [(0, .ref (c_ad c 105)), (1, .int (nI j))] [] (X) (Y)
  have hj : j < 12 := by omega
  have hwj : ix (nI j) m = true := ix_of hjm (by omega)
  refine ss_aload_n dX8_falls_0 0 rfl ?_
  refine ss_iload_n dX8_falls_1 1 rfl ?_
  refine ss_callV (As := [_]) (i := 105) dX8_falls_2 vlX8_157 clX8_isWorth rfl rfl (by omega) (sh_r105 _ _) rfl (Nat.le_of_ble_eq_true rfl) (Nat.le_of_ble_eq_true rfl) (m_isWorth hm h7) ?_
  refine sy_if_ne 14 dX8_falls_5 (by decide) (fun c5 => ?_) (fun c5 => by first | exact kd_tf (hwj) c5 | exact kd_ft (hwj) c5 | exact absurd (hwj) c5 | exact absurd c5 (hwj))
  refine ss_aload_n dX8_falls_14 0 rfl ?_
  refine ss_iload_n dX8_falls_15 1 rfl ?_
  refine ss_callV (As := [_]) (i := 105) dX8_falls_16 vlX8_208 clX8_wrong rfl rfl (by omega) (sh_r105 _ _) rfl (Nat.le_of_ble_eq_true rfl) (Nat.le_of_ble_eq_true rfl) (m_wrong hj hn h6) ?_
  refine ss_if_ge 26 dX8_falls_19 (by decide) (fun c19 => ?_) (fun c19 => by first | exact kd_tf (h) c19 | exact kd_ft (h) c19 | exact absurd (h) c19 | exact absurd c19 (h))
  refine ss_iconst (v := nI 0) dX8_falls_26 (by decide) ?_
  exact ss_iret dX8_falls_27 rfl rfl (hQ)
set_option maxHeartbeats 1000000 in
set_option maxRecDepth 100000 in
theorem r_why_o {c : cx} {d : Nat} {X : nX} {Y : nY} {m : Nat} (hm : m ≤ 12) (h7 : X 105 1 = nI m) {j : Nat} (hjm : j < m) {i : Int32} (hi : ix i 3 = false) : sc c mX8_why (d + 3) [.ref (c_ad c 105), .int (nI j), .int i] (X) (Y) (some (.int (-1002))) (X) (Y) := by
  intro Q hQ
  show ss c mX8_why (d + 3) Q 0 [(0, .ref (c_ad c 105)), (1, .int (nI j)), (2, .int i)] [] (X) (Y)
  have hj : j < 12 := by omega
  have hwj : ix (nI j) m = true := ix_of hjm (by omega)
  refine ss_aload_n dX8_why_0 0 rfl ?_
  refine ss_iload_n dX8_why_1 1 rfl ?_
  refine ss_callV (As := [_]) (i := 105) dX8_why_2 vlX8_157 clX8_isWorth rfl rfl (by omega) (sh_r105 _ _) rfl (Nat.le_of_ble_eq_true rfl) (Nat.le_of_ble_eq_true rfl) (m_isWorth hm h7) ?_
  refine sy_if_ne 12 dX8_why_5 (by decide) (fun c5 => ?_) (fun c5 => by first | exact kd_tf (hwj) c5 | exact kd_ft (hwj) c5 | exact absurd (hwj) c5 | exact absurd c5 (hwj))
  refine ss_iload_n dX8_why_12 2 rfl ?_
  refine ss_i2l dX8_why_13 ?_
  refine ss_lconst (v := 0) dX8_why_14 (by decide) ?_
  refine ss_ldc2 dX8_why_15 kcX8_103 ?_
  refine ss_callS (As := [_, _, _]) dX8_why_18 vlX8_89 clX8_within rfl rfl (Nat.le_of_ble_eq_true rfl) (Nat.le_of_ble_eq_true rfl) (m_within) ?_
  refine sy_if_ne 28 dX8_why_21 (by decide) (fun c21 => by first | exact kd_tf (by rw [wi_ix (n := 3) rfl]; exact hi) c21 | exact kd_ft (by rw [wi_ix (n := 3) rfl]; exact hi) c21 | exact absurd (by rw [wi_ix (n := 3) rfl]; exact hi) c21 | exact absurd c21 (by rw [wi_ix (n := 3) rfl]; exact hi)) (fun c21 => ?_)
  refine ss_sipush (v := -1002) dX8_why_24 (by decide) ?_
  exact ss_iret dX8_why_27 rfl rfl (hQ)
set_option maxHeartbeats 1000000 in
set_option maxRecDepth 100000 in
theorem r_why_n {c : cx} {d : Nat} {X : nX} {Y : nY} {n : Nat} (hn : n ≤ 10) (h6 : X 105 0 = nI n) {m : Nat} (hm : m ≤ 12) (h7 : X 105 1 = nI m) {j : Nat} (hjm : j < m) {k : Nat} (hk : k < 3) (h : ¬ 0 ≤ wrg (vr Y j) n (2 ^ n)) : sc c mX8_why (d + 3) [.ref (c_ad c 105), .int (nI j), .int (nI k)] (X) (Y) (some (.int (-1))) (X) (Y) := by
  intro Q hQ
  show ss c mX8_why (d + 3) Q 0 [(0, .ref (c_ad c 105)), (1, .int (nI j)), (2, .int (nI k))] [] (X) (Y)
  have hj : j < 12 := by omega
  have hwj : ix (nI j) m = true := ix_of hjm (by omega)
  refine ss_aload_n dX8_why_0 0 rfl ?_
  refine ss_iload_n dX8_why_1 1 rfl ?_
  refine ss_callV (As := [_]) (i := 105) dX8_why_2 vlX8_157 clX8_isWorth rfl rfl (by omega) (sh_r105 _ _) rfl (Nat.le_of_ble_eq_true rfl) (Nat.le_of_ble_eq_true rfl) (m_isWorth hm h7) ?_
  refine sy_if_ne 12 dX8_why_5 (by decide) (fun c5 => ?_) (fun c5 => by first | exact kd_tf (hwj) c5 | exact kd_ft (hwj) c5 | exact absurd (hwj) c5 | exact absurd c5 (hwj))
  refine ss_iload_n dX8_why_12 2 rfl ?_
  refine ss_i2l dX8_why_13 ?_
  refine ss_lconst (v := 0) dX8_why_14 (by decide) ?_
  refine ss_ldc2 dX8_why_15 kcX8_103 ?_
  refine ss_callS (As := [_, _, _]) dX8_why_18 vlX8_89 clX8_within rfl rfl (Nat.le_of_ble_eq_true rfl) (Nat.le_of_ble_eq_true rfl) (m_within) ?_
  refine sy_if_ne 28 dX8_why_21 (by decide) (fun c21 => ?_) (fun c21 => by first | exact kd_tf (by rw [wi_ix (n := 3) rfl]; exact ix_of hk (by decide)) c21 | exact kd_ft (by rw [wi_ix (n := 3) rfl]; exact ix_of hk (by decide)) c21 | exact absurd (by rw [wi_ix (n := 3) rfl]; exact ix_of hk (by decide)) c21 | exact absurd c21 (by rw [wi_ix (n := 3) rfl]; exact ix_of hk (by decide)))
  refine ss_aload_n dX8_why_28 0 rfl ?_
  refine ss_iload_n dX8_why_29 1 rfl ?_
  refine ss_callV (As := [_]) (i := 105) dX8_why_30 vlX8_208 clX8_wrong rfl rfl (by omega) (sh_r105 _ _) rfl (Nat.le_of_ble_eq_true rfl) (Nat.le_of_ble_eq_true rfl) (m_wrong hj hn h6) ?_
  refine ss_istore_n (lv' := [(3, _), (0, _), (1, _), (2, _)]) dX8_why_33 (by decide) rfl ?_
  refine ss_iload_n dX8_why_34 0 rfl ?_
  refine ss_if_ge 42 dX8_why_35 (by decide) (fun c35 => by first | exact kd_tf (h) c35 | exact kd_ft (h) c35 | exact absurd (h) c35 | exact absurd c35 (h)) (fun c35 => ?_)
  refine ss_iconst (v := -1) dX8_why_38 (by decide) ?_
  refine ss_goto 72 dX8_why_39 (by decide) ?_
  exact ss_iret dX8_why_72 rfl rfl (hQ)
set_option maxHeartbeats 1000000 in
set_option maxRecDepth 100000 in
theorem r_why_0 {c : cx} {d : Nat} {X : nX} {Y : nY} {n : Nat} (hn : n ≤ 10) (h6 : X 105 0 = nI n) {m : Nat} (hm : m ≤ 12) (h7 : X 105 1 = nI m) {j : Nat} (hjm : j < m) {K : Nat} (hK : K < 2 ^ 31) (h : wrg (vr Y j) n (2 ^ n) = nI K) : sc c mX8_why (d + 3) [.ref (c_ad c 105), .int (nI j), .int (nI 0)] (X) (Y) (some (.int (nI (K / 100)))) (X) (Y) := by
  intro Q hQ
  show ss c mX8_why (d + 3) Q 0 [(0, .ref (c_ad c 105)), (1, .int (nI j)), (2, .int (nI 0))] [] (X) (Y)
  have hj : j < 12 := by omega
  have hwj : ix (nI j) m = true := ix_of hjm (by omega)
  refine ss_aload_n dX8_why_0 0 rfl ?_
  refine ss_iload_n dX8_why_1 1 rfl ?_
  refine ss_callV (As := [_]) (i := 105) dX8_why_2 vlX8_157 clX8_isWorth rfl rfl (by omega) (sh_r105 _ _) rfl (Nat.le_of_ble_eq_true rfl) (Nat.le_of_ble_eq_true rfl) (m_isWorth hm h7) ?_
  refine sy_if_ne 12 dX8_why_5 (by decide) (fun c5 => ?_) (fun c5 => by first | exact kd_tf (hwj) c5 | exact kd_ft (hwj) c5 | exact absurd (hwj) c5 | exact absurd c5 (hwj))
  refine ss_iload_n dX8_why_12 2 rfl ?_
  refine ss_i2l dX8_why_13 ?_
  refine ss_lconst (v := 0) dX8_why_14 (by decide) ?_
  refine ss_ldc2 dX8_why_15 kcX8_103 ?_
  refine ss_callS (As := [_, _, _]) dX8_why_18 vlX8_89 clX8_within rfl rfl (Nat.le_of_ble_eq_true rfl) (Nat.le_of_ble_eq_true rfl) (m_within) ?_
  refine sy_if_ne 28 dX8_why_21 (by decide) (fun c21 => ?_) (fun c21 => by first | exact kd_tf (by rw [wi_ix (n := 3) rfl]; exact ix_of (by decide) (by decide)) c21 | exact kd_ft (by rw [wi_ix (n := 3) rfl]; exact ix_of (by decide) (by decide)) c21 | exact absurd (by rw [wi_ix (n := 3) rfl]; exact ix_of (by decide) (by decide)) c21 | exact absurd c21 (by rw [wi_ix (n := 3) rfl]; exact ix_of (by decide) (by decide)))
  refine ss_aload_n dX8_why_28 0 rfl ?_
  refine ss_iload_n dX8_why_29 1 rfl ?_
  refine ss_callV (As := [_]) (i := 105) dX8_why_30 vlX8_208 clX8_wrong rfl rfl (by omega) (sh_r105 _ _) rfl (Nat.le_of_ble_eq_true rfl) (Nat.le_of_ble_eq_true rfl) (m_wrong hj hn h6) ?_
  rw [h]
  refine ss_istore_n (lv' := [(3, _), (0, _), (1, _), (2, _)]) dX8_why_33 (by decide) rfl ?_
  refine ss_iload_n dX8_why_34 0 rfl ?_
  refine ss_if_ge 42 dX8_why_35 (by decide) (fun c35 => ?_) (fun c35 => by first | exact kd_tf (nI_pos' hK) c35 | exact kd_ft (nI_pos' hK) c35 | exact absurd (nI_pos' hK) c35 | exact absurd c35 (nI_pos' hK))
  refine ss_iload_n dX8_why_42 3 rfl ?_
  refine sz_if_ne 53 dX8_why_43 (by decide) (by omega) (fun c43 => by omega) (fun c43 => ?_)
  refine ss_iload_n dX8_why_46 0 rfl ?_
  refine ss_bipush (v := nI 100) dX8_why_47 (by decide) ?_
  refine sz_idiv dX8_why_49 (by omega) (by omega) (by omega) ?_
  refine ss_goto 72 dX8_why_50 (by decide) ?_
  exact ss_iret dX8_why_72 rfl rfl (hQ)
set_option maxHeartbeats 1000000 in
set_option maxRecDepth 100000 in
theorem r_why_1 {c : cx} {d : Nat} {X : nX} {Y : nY} {n : Nat} (hn : n ≤ 10) (h6 : X 105 0 = nI n) {m : Nat} (hm : m ≤ 12) (h7 : X 105 1 = nI m) {j : Nat} (hjm : j < m) {K : Nat} (hK : K < 2 ^ 31) (h : wrg (vr Y j) n (2 ^ n) = nI K) : sc c mX8_why (d + 3) [.ref (c_ad c 105), .int (nI j), .int (nI 1)] (X) (Y) (some (.int (nI (K / 10 % 10)))) (X) (Y) := by
  intro Q hQ
  show ss c mX8_why (d + 3) Q 0 [(0, .ref (c_ad c 105)), (1, .int (nI j)), (2, .int (nI 1))] [] (X) (Y)
  have hj : j < 12 := by omega
  have hwj : ix (nI j) m = true := ix_of hjm (by omega)
  refine ss_aload_n dX8_why_0 0 rfl ?_
  refine ss_iload_n dX8_why_1 1 rfl ?_
  refine ss_callV (As := [_]) (i := 105) dX8_why_2 vlX8_157 clX8_isWorth rfl rfl (by omega) (sh_r105 _ _) rfl (Nat.le_of_ble_eq_true rfl) (Nat.le_of_ble_eq_true rfl) (m_isWorth hm h7) ?_
  refine sy_if_ne 12 dX8_why_5 (by decide) (fun c5 => ?_) (fun c5 => by first | exact kd_tf (hwj) c5 | exact kd_ft (hwj) c5 | exact absurd (hwj) c5 | exact absurd c5 (hwj))
  refine ss_iload_n dX8_why_12 2 rfl ?_
  refine ss_i2l dX8_why_13 ?_
  refine ss_lconst (v := 0) dX8_why_14 (by decide) ?_
  refine ss_ldc2 dX8_why_15 kcX8_103 ?_
  refine ss_callS (As := [_, _, _]) dX8_why_18 vlX8_89 clX8_within rfl rfl (Nat.le_of_ble_eq_true rfl) (Nat.le_of_ble_eq_true rfl) (m_within) ?_
  refine sy_if_ne 28 dX8_why_21 (by decide) (fun c21 => ?_) (fun c21 => by first | exact kd_tf (by rw [wi_ix (n := 3) rfl]; exact ix_of (by decide) (by decide)) c21 | exact kd_ft (by rw [wi_ix (n := 3) rfl]; exact ix_of (by decide) (by decide)) c21 | exact absurd (by rw [wi_ix (n := 3) rfl]; exact ix_of (by decide) (by decide)) c21 | exact absurd c21 (by rw [wi_ix (n := 3) rfl]; exact ix_of (by decide) (by decide)))
  refine ss_aload_n dX8_why_28 0 rfl ?_
  refine ss_iload_n dX8_why_29 1 rfl ?_
  refine ss_callV (As := [_]) (i := 105) dX8_why_30 vlX8_208 clX8_wrong rfl rfl (by omega) (sh_r105 _ _) rfl (Nat.le_of_ble_eq_true rfl) (Nat.le_of_ble_eq_true rfl) (m_wrong hj hn h6) ?_
  rw [h]
  refine ss_istore_n (lv' := [(3, _), (0, _), (1, _), (2, _)]) dX8_why_33 (by decide) rfl ?_
  refine ss_iload_n dX8_why_34 0 rfl ?_
  refine ss_if_ge 42 dX8_why_35 (by decide) (fun c35 => ?_) (fun c35 => by first | exact kd_tf (nI_pos' hK) c35 | exact kd_ft (nI_pos' hK) c35 | exact absurd (nI_pos' hK) c35 | exact absurd c35 (nI_pos' hK))
  refine ss_iload_n dX8_why_42 3 rfl ?_
  refine sz_if_ne 53 dX8_why_43 (by decide) (by omega) (fun c43 => ?_) (fun c43 => by omega)
  refine ss_iload_n dX8_why_53 3 rfl ?_
  refine ss_iconst (v := nI 1) dX8_why_54 (by decide) ?_
  refine sz_icmp_ne 68 dX8_why_55 (by decide) (by omega) (by omega) (fun c55 => by omega) (fun c55 => ?_)
  refine ss_iload_n dX8_why_58 0 rfl ?_
  refine ss_bipush (v := nI 10) dX8_why_59 (by decide) ?_
  refine sz_idiv dX8_why_61 (by omega) (by omega) (by omega) ?_
  refine ss_bipush (v := nI 10) dX8_why_62 (by decide) ?_
  refine sz_irem dX8_why_64 (by omega) (by omega) (by omega) ?_
  refine ss_goto 72 dX8_why_65 (by decide) ?_
  exact ss_iret dX8_why_72 rfl rfl (hQ)
set_option maxHeartbeats 1000000 in
set_option maxRecDepth 100000 in
theorem r_why_2 {c : cx} {d : Nat} {X : nX} {Y : nY} {n : Nat} (hn : n ≤ 10) (h6 : X 105 0 = nI n) {m : Nat} (hm : m ≤ 12) (h7 : X 105 1 = nI m) {j : Nat} (hjm : j < m) {K : Nat} (hK : K < 2 ^ 31) (h : wrg (vr Y j) n (2 ^ n) = nI K) : sc c mX8_why (d + 3) [.ref (c_ad c 105), .int (nI j), .int (nI 2)] (X) (Y) (some (.int (nI (K % 10)))) (X) (Y) := by
  intro Q hQ
  show ss c mX8_why (d + 3) Q 0 [(0, .ref (c_ad c 105)), (1, .int (nI j)), (2, .int (nI 2))] [] (X) (Y)
  have hj : j < 12 := by omega
  have hwj : ix (nI j) m = true := ix_of hjm (by omega)
  refine ss_aload_n dX8_why_0 0 rfl ?_
  refine ss_iload_n dX8_why_1 1 rfl ?_
  refine ss_callV (As := [_]) (i := 105) dX8_why_2 vlX8_157 clX8_isWorth rfl rfl (by omega) (sh_r105 _ _) rfl (Nat.le_of_ble_eq_true rfl) (Nat.le_of_ble_eq_true rfl) (m_isWorth hm h7) ?_
  refine sy_if_ne 12 dX8_why_5 (by decide) (fun c5 => ?_) (fun c5 => by first | exact kd_tf (hwj) c5 | exact kd_ft (hwj) c5 | exact absurd (hwj) c5 | exact absurd c5 (hwj))
  refine ss_iload_n dX8_why_12 2 rfl ?_
  refine ss_i2l dX8_why_13 ?_
  refine ss_lconst (v := 0) dX8_why_14 (by decide) ?_
  refine ss_ldc2 dX8_why_15 kcX8_103 ?_
  refine ss_callS (As := [_, _, _]) dX8_why_18 vlX8_89 clX8_within rfl rfl (Nat.le_of_ble_eq_true rfl) (Nat.le_of_ble_eq_true rfl) (m_within) ?_
  refine sy_if_ne 28 dX8_why_21 (by decide) (fun c21 => ?_) (fun c21 => by first | exact kd_tf (by rw [wi_ix (n := 3) rfl]; exact ix_of (by decide) (by decide)) c21 | exact kd_ft (by rw [wi_ix (n := 3) rfl]; exact ix_of (by decide) (by decide)) c21 | exact absurd (by rw [wi_ix (n := 3) rfl]; exact ix_of (by decide) (by decide)) c21 | exact absurd c21 (by rw [wi_ix (n := 3) rfl]; exact ix_of (by decide) (by decide)))
  refine ss_aload_n dX8_why_28 0 rfl ?_
  refine ss_iload_n dX8_why_29 1 rfl ?_
  refine ss_callV (As := [_]) (i := 105) dX8_why_30 vlX8_208 clX8_wrong rfl rfl (by omega) (sh_r105 _ _) rfl (Nat.le_of_ble_eq_true rfl) (Nat.le_of_ble_eq_true rfl) (m_wrong hj hn h6) ?_
  rw [h]
  refine ss_istore_n (lv' := [(3, _), (0, _), (1, _), (2, _)]) dX8_why_33 (by decide) rfl ?_
  refine ss_iload_n dX8_why_34 0 rfl ?_
  refine ss_if_ge 42 dX8_why_35 (by decide) (fun c35 => ?_) (fun c35 => by first | exact kd_tf (nI_pos' hK) c35 | exact kd_ft (nI_pos' hK) c35 | exact absurd (nI_pos' hK) c35 | exact absurd c35 (nI_pos' hK))
  refine ss_iload_n dX8_why_42 3 rfl ?_
  refine sz_if_ne 53 dX8_why_43 (by decide) (by omega) (fun c43 => ?_) (fun c43 => by omega)
  refine ss_iload_n dX8_why_53 3 rfl ?_
  refine ss_iconst (v := nI 1) dX8_why_54 (by decide) ?_
  refine sz_icmp_ne 68 dX8_why_55 (by decide) (by omega) (by omega) (fun c55 => ?_) (fun c55 => by omega)
  refine ss_iload_n dX8_why_68 0 rfl ?_
  refine ss_bipush (v := nI 10) dX8_why_69 (by decide) ?_
  refine sz_irem dX8_why_71 (by omega) (by omega) (by omega) ?_
  exact ss_iret dX8_why_72 rfl rfl (hQ)
set_option maxHeartbeats 1000000 in
set_option maxRecDepth 100000 in
theorem r_least_k {c : cx} {d : Nat} {X : nX} {Y : nY} {n : Nat} (hn : n ≤ 10) (h6 : X 105 0 = nI n) {m : Nat} (hm : m ≤ 12) (h7 : X 105 1 = nI m) {j : Nat} (hjm : j < m) : sc c mX8_least (d + 3) [.ref (c_ad c 105), .int (nI j)] (X) (Y) (some (.long (lmn (vr Y j) (2 ^ n)))) (X) (Y) := by
  intro Q hQ
  show ss c mX8_least (d + 3) Q 0 [(0, .ref (c_ad c 105)), (1, .int (nI j))] [] (X) (Y)
  have hj : j < 12 := by omega
  have hwj : ix (nI j) m = true := ix_of hjm (by omega)
  refine ss_aload_n dX8_least_0 0 rfl ?_
  refine ss_iload_n dX8_least_1 1 rfl ?_
  refine ss_callV (As := [_]) (i := 105) dX8_least_2 vlX8_157 clX8_isWorth rfl rfl (by omega) (sh_r105 _ _) rfl (Nat.le_of_ble_eq_true rfl) (Nat.le_of_ble_eq_true rfl) (m_isWorth hm h7) ?_
  refine sy_if_eq 16 dX8_least_5 (by decide) (fun c5 => by first | exact kd_tf (hwj) c5 | exact kd_ft (hwj) c5 | exact absurd (hwj) c5 | exact absurd c5 (hwj)) (fun c5 => ?_)
  refine ss_aload_n dX8_least_8 0 rfl ?_
  refine ss_iload_n dX8_least_9 1 rfl ?_
  refine ss_callV (As := [_]) (i := 105) dX8_least_10 vlX8_211 clX8_leastOf rfl rfl (by omega) (sh_r105 _ _) rfl (Nat.le_of_ble_eq_true rfl) (Nat.le_of_ble_eq_true rfl) (m_leastOf hj hn h6) ?_
  refine ss_goto 19 dX8_least_13 (by decide) ?_
  exact ss_lret dX8_least_19 rfl (hQ)
set_option maxHeartbeats 1000000 in
set_option maxRecDepth 100000 in
theorem r_in_k {c : cx} {d : Nat} {X : nX} {Y : nY} {n : Nat} (hn : n ≤ 10) (h6 : X 105 0 = nI n) {m : Nat} (hm : m ≤ 12) (h7 : X 105 1 = nI m) {j : Nat} (hjm : j < m) : sc c mX8_in (d + 3) [.ref (c_ad c 105), .int (nI j)] (X) (Y) (some (.int (fIn (vr Y j) (Y 118) n (2 ^ n) (Y 105 15)))) (X) (Y) := by
  intro Q hQ
  show ss c mX8_in (d + 3) Q 0 [(0, .ref (c_ad c 105)), (1, .int (nI j))] [] (X) (Y)
  have hj : j < 12 := by omega
  have hwj : ix (nI j) m = true := ix_of hjm (by omega)
  refine ss_aload_n dX8_in_0 0 rfl ?_
  refine ss_iload_n dX8_in_1 1 rfl ?_
  refine ss_callV (As := [_]) (i := 105) dX8_in_2 vlX8_157 clX8_isWorth rfl rfl (by omega) (sh_r105 _ _) rfl (Nat.le_of_ble_eq_true rfl) (Nat.le_of_ble_eq_true rfl) (m_isWorth hm h7) ?_
  refine sy_if_eq 16 dX8_in_5 (by decide) (fun c5 => by first | exact kd_tf (hwj) c5 | exact kd_ft (hwj) c5 | exact absurd (hwj) c5 | exact absurd c5 (hwj)) (fun c5 => ?_)
  refine ss_aload_n dX8_in_8 0 rfl ?_
  refine ss_iload_n dX8_in_9 1 rfl ?_
  refine ss_callV (As := [_]) (i := 105) dX8_in_10 vlX8_237 clX8_isIn rfl rfl (by omega) (sh_r105 _ _) rfl (Nat.le_of_ble_eq_true rfl) (Nat.le_of_ble_eq_true rfl) (m_isIn hj hn h6) ?_
  refine ss_goto 19 dX8_in_13 (by decide) ?_
  exact ss_iret dX8_in_19 rfl rfl (hQ)
theorem one_st (q : Int32) (l : Nat) : q - nI l + Int32.ofInt (-1) = q - nI (l + 1) := by
  rw [← nI_1, ← Int32.sub_sub, Int32.sub_eq_add_neg (q - nI l) 1]
  rfl
theorem one_0 (q : Int32) (l : Nat) (h : q - nI l = 0) : nI l = q := by
  have h9 := congrArg (· + nI l) h
  simp only [Int32.sub_add_cancel, Int32.zero_add] at h9
  exact h9.symm
theorem one_1 (q : Int32) (l : Nat) (h : ¬ q - nI l = 0) : ¬ nI l = q := by
  intro h9
  exact h (by rw [h9, Int32.sub_self])
theorem lcn_t {P : Nat → Bool} {i : Nat} (h : P i = true) : lcn P (i + 1) = lcn P i + 1 := by
  show (if _ then _ else _) = _
  rw [if_pos h]
theorem lcn_f {P : Nat → Bool} {i : Nat} (h : P i = false) : lcn P (i + 1) = lcn P i := by
  show (if _ then _ else _) = _
  rw [if_neg (by rw [h]; decide)]
theorem lal_t {P : Nat → Bool} {l i : Nat} (h : P i = true) : lal P l (i + 1) = lal P l i &&& i := by
  show (if _ then _ else _) = _
  rw [if_pos h]
theorem lal_f {P : Nat → Bool} {l i : Nat} (h : P i = false) : lal P l (i + 1) = lal P l i := by
  show (if _ then _ else _) = _
  rw [if_neg (by rw [h]; decide)]
theorem lso_t {P : Nat → Bool} {i : Nat} (h : P i = true) : lso P (i + 1) = lso P i ||| i := by
  show (if _ then _ else _) = _
  rw [if_pos h]
theorem lso_f {P : Nat → Bool} {i : Nat} (h : P i = false) : lso P (i + 1) = lso P i := by
  show (if _ then _ else _) = _
  rw [if_neg (by rw [h]; decide)]
set_option maxHeartbeats 1000000 in
set_option maxRecDepth 100000 in
theorem l_one {c : cx} {d : Nat} {X : nX} {Y : nY} {Q : Option Value → nX → nY → Prop} {w : Nat} (hw : w < 12) {n : Nat} (hn : n ≤ 10) (h6 : X 105 0 = nI n) {S : Nat} (hSn : S = 2 ^ n) {q : Int32} (hQ : Q (some (.int (fI (ffind (p_one (vr Y w) S q) S)))) X Y) : ∀ (nn i : Nat), i + nn = S → (ffind (p_one (vr Y w) S q) i = none) → ss c mX8_one (d + 3) Q 24 [(6, .int (nI i)), (5, .int (q - nI (lcn (p_low (vr Y w) S) i))), (3, .long (lmn (vr Y w) S)), (0, .ref (c_ad c 105)), (1, .int (nI w)), (2, .int q)] [] (X) (Y) := by
  have h1n := p2_1 (n := n)
  have h2n := p2_le hn
  intro nn
  induction nn with
  | zero =>
      intro i hin hinv
      simp only [Nat.add_zero] at hin
      subst hin
      refine ss_iload dX8_one_24 0 rfl ?_
      refine ss_aload_n dX8_one_26 3 rfl ?_
      refine ss_callV (As := []) (i := 105) dX8_one_27 vlX8_93 clX8_last rfl rfl (by omega) (sh_r105 _ _) rfl (Nat.le_of_ble_eq_true rfl) (Nat.le_of_ble_eq_true rfl) (m_last hn h6) ?_
      refine sz_icmp_gt 62 dX8_one_30 (by decide) (by omega) (by omega) (fun c30 => ?_) (fun c30 => by omega)
      refine ss_iconst (v := -1) dX8_one_62 (by decide) ?_
      exact ss_iret dX8_one_63 rfl rfl (cvi (by rw [hinv]; rfl) hQ)
  | succ nn ih =>
      intro i hin hinv
      refine ss_iload dX8_one_24 0 rfl ?_
      refine ss_aload_n dX8_one_26 3 rfl ?_
      refine ss_callV (As := []) (i := 105) dX8_one_27 vlX8_93 clX8_last rfl rfl (by omega) (sh_r105 _ _) rfl (Nat.le_of_ble_eq_true rfl) (Nat.le_of_ble_eq_true rfl) (m_last hn h6) ?_
      refine sz_icmp_gt 62 dX8_one_30 (by decide) (by omega) (by omega) (fun c30 => by omega) (fun c30 => ?_)
      refine ss_aload_n dX8_one_33 3 rfl ?_
      refine ss_iload_n dX8_one_34 4 rfl ?_
      refine ss_iload dX8_one_35 0 rfl ?_
      refine ss_callV (As := [_, _]) (i := 105) dX8_one_37 vlX8_205 clX8_v rfl rfl (by omega) (sh_r105 _ _) rfl (Nat.le_of_ble_eq_true rfl) (Nat.le_of_ble_eq_true rfl) (m_v hw (by omega)) ?_
      refine ss_lload_n dX8_one_40 2 rfl ?_
      refine sv_ne 56 dX8_one_41 dX8_one_42 (by decide) (fun c41 => ?_) (fun c41 => ?_)
      · skip
        refine sz_inc (lv' := [(6, _), (5, _), (3, _), (0, _), (1, _), (2, _)]) dX8_one_56 0 rfl (by decide) rfl ?_
        refine ss_goto 24 dX8_one_59 (by decide) ?_
        have e9 : p_low (vr Y w) S i = false := by unfold p_low; exact decide_eq_false c41
        have h7 := ih (i + 1) (by omega) (ff_step hinv (by unfold p_one; rw [e9]; rfl))
        rw [lcn_f e9] at h7
        exact h7
      · skip
        refine ss_iload dX8_one_45 1 rfl ?_
        refine ss_if_ne 53 dX8_one_47 (by decide) (fun c47 => ?_) (fun c47 => ?_)
        · skip
          refine ss_iinc (lv' := [(5, _), (6, _), (3, _), (0, _), (1, _), (2, _)]) dX8_one_53 1 rfl rfl (by decide) rfl ?_
          refine sz_inc (lv' := [(6, _), (5, _), (3, _), (0, _), (1, _), (2, _)]) dX8_one_56 1 rfl (by decide) rfl ?_
          refine ss_goto 24 dX8_one_59 (by decide) ?_
          have e9 : p_low (vr Y w) S i = true := by unfold p_low; exact decide_eq_true c41
          have h7 := ih (i + 1) (by omega) (ff_step hinv (by unfold p_one; rw [e9, decide_eq_false (one_1 _ _ c47)]; rfl))
          rw [lcn_t e9] at h7
          refine ss_eL (by rw [one_st]) h7
        · skip
          refine ss_iload dX8_one_50 0 rfl ?_
          exact ss_iret dX8_one_52 rfl rfl (cvi (by rw [ff_some hinv (show (p_one (vr Y w) S q) i = true by unfold p_one; rw [show p_low (vr Y w) S i = true from decide_eq_true c41, decide_eq_true (one_0 _ _ c47)]; rfl) (by omega)]; rfl) hQ)
set_option maxHeartbeats 1000000 in
set_option maxRecDepth 100000 in
theorem r_one_k {c : cx} {d : Nat} {X : nX} {Y : nY} {n : Nat} (hn : n ≤ 10) (h6 : X 105 0 = nI n) {m : Nat} (hm : m ≤ 12) (h7 : X 105 1 = nI m) {j : Nat} (hjm : j < m) {q : Int32} : sc c mX8_one (d + 3) [.ref (c_ad c 105), .int (nI j), .int q] (X) (Y) (some (.int (fI (ffind (p_one (vr Y j) (2 ^ n) q) (2 ^ n))))) (X) (Y) := by
  intro Q hQ
  show ss c mX8_one (d + 3) Q 0 [(0, .ref (c_ad c 105)), (1, .int (nI j)), (2, .int q)] [] (X) (Y)
  have hj : j < 12 := by omega
  have hwj : ix (nI j) m = true := ix_of hjm (by omega)
  refine ss_aload_n dX8_one_0 0 rfl ?_
  refine ss_iload_n dX8_one_1 1 rfl ?_
  refine ss_callV (As := [_]) (i := 105) dX8_one_2 vlX8_157 clX8_isWorth rfl rfl (by omega) (sh_r105 _ _) rfl (Nat.le_of_ble_eq_true rfl) (Nat.le_of_ble_eq_true rfl) (m_isWorth hm h7) ?_
  refine sy_if_ne 12 dX8_one_5 (by decide) (fun c5 => ?_) (fun c5 => by first | exact kd_tf (hwj) c5 | exact kd_ft (hwj) c5 | exact absurd (hwj) c5 | exact absurd c5 (hwj))
  refine ss_aload_n dX8_one_12 0 rfl ?_
  refine ss_iload_n dX8_one_13 1 rfl ?_
  refine ss_callV (As := [_]) (i := 105) dX8_one_14 vlX8_211 clX8_leastOf rfl rfl (by omega) (sh_r105 _ _) rfl (Nat.le_of_ble_eq_true rfl) (Nat.le_of_ble_eq_true rfl) (m_leastOf hj hn h6) ?_
  refine ss_lstore_n (lv' := [(3, _), (0, _), (1, _), (2, _)]) dX8_one_17 (by decide) rfl ?_
  refine ss_iload_n dX8_one_18 3 rfl ?_
  refine ss_istore (lv' := [(5, _), (3, _), (0, _), (1, _), (2, _)]) dX8_one_19 (by decide) rfl ?_
  refine ss_iconst (v := nI 0) dX8_one_21 (by decide) ?_
  refine ss_istore (lv' := [(6, _), (5, _), (3, _), (0, _), (1, _), (2, _)]) dX8_one_22 (by decide) rfl ?_
  have h9 := l_one (X := X) (Y := Y) (c := c) (d := d) (Q := Q) (q := q) hj hn h6 rfl hQ (2 ^ n) 0 (by omega) rfl
  exact ss_eL (by show [_, (5, Value.int q), _, _, _, _] = [_, (5, Value.int (q - nI 0)), _, _, _, _]; rw [show nI 0 = 0 from rfl, Int32.sub_zero]) h9
set_option maxHeartbeats 1000000 in
set_option maxRecDepth 100000 in
theorem l_all {c : cx} {d : Nat} {X : nX} {Y : nY} {Q : Option Value → nX → nY → Prop} {w : Nat} (hw : w < 12) {n : Nat} (hn : n ≤ 10) (h6 : X 105 0 = nI n) {S : Nat} (hSn : S = 2 ^ n) {k : Nat} (hQ : ∀ k9, k9 = S → ss c mX8_all (d + 3) Q 93 [(8, .int (nI k9)), (7, .int (nI (lso (p_low (vr Y w) S) S))), (6, .int (nI (lal (p_low (vr Y w) S) (S - 1) S))), (5, .int (nI (lcn (p_low (vr Y w) S) S))), (3, .long (lmn (vr Y w) S)), (0, .ref (c_ad c 105)), (1, .int (nI w)), (2, .int (nI k))] [] X Y) : ∀ (nn i : Nat), i + nn = S → ss c mX8_all (d + 3) Q 49 [(8, .int (nI i)), (7, .int (nI (lso (p_low (vr Y w) S) i))), (6, .int (nI (lal (p_low (vr Y w) S) (S - 1) i))), (5, .int (nI (lcn (p_low (vr Y w) S) i))), (3, .long (lmn (vr Y w) S)), (0, .ref (c_ad c 105)), (1, .int (nI w)), (2, .int (nI k))] [] (X) (Y) := by
  have h1n := p2_1 (n := n)
  have h2n := p2_le hn
  intro nn
  induction nn with
  | zero =>
      intro i hin
      simp only [Nat.add_zero] at hin
      subst hin
      refine ss_iload dX8_all_49 0 rfl ?_
      refine ss_aload_n dX8_all_51 5 rfl ?_
      refine ss_callV (As := []) (i := 105) dX8_all_52 vlX8_93 clX8_last rfl rfl (by omega) (sh_r105 _ _) rfl (Nat.le_of_ble_eq_true rfl) (Nat.le_of_ble_eq_true rfl) (m_last hn h6) ?_
      refine sz_icmp_gt 93 dX8_all_55 (by decide) (by omega) (by omega) (fun c55 => ?_) (fun c55 => by omega)
      exact hQ _ rfl
  | succ nn ih =>
      intro i hin
      refine ss_iload dX8_all_49 0 rfl ?_
      refine ss_aload_n dX8_all_51 5 rfl ?_
      refine ss_callV (As := []) (i := 105) dX8_all_52 vlX8_93 clX8_last rfl rfl (by omega) (sh_r105 _ _) rfl (Nat.le_of_ble_eq_true rfl) (Nat.le_of_ble_eq_true rfl) (m_last hn h6) ?_
      refine sz_icmp_gt 93 dX8_all_55 (by decide) (by omega) (by omega) (fun c55 => by omega) (fun c55 => ?_)
      refine ss_aload_n dX8_all_58 5 rfl ?_
      refine ss_iload_n dX8_all_59 6 rfl ?_
      refine ss_iload dX8_all_60 0 rfl ?_
      refine ss_callV (As := [_, _]) (i := 105) dX8_all_62 vlX8_205 clX8_v rfl rfl (by omega) (sh_r105 _ _) rfl (Nat.le_of_ble_eq_true rfl) (Nat.le_of_ble_eq_true rfl) (m_v hw (by omega)) ?_
      refine ss_lload_n dX8_all_65 4 rfl ?_
      refine sv_ne 87 dX8_all_66 dX8_all_67 (by decide) (fun c66 => ?_) (fun c66 => ?_)
      · skip
        refine sz_inc (lv' := [(8, _), (7, _), (6, _), (5, _), (3, _), (0, _), (1, _), (2, _)]) dX8_all_87 0 rfl (by decide) rfl ?_
        refine ss_goto 49 dX8_all_90 (by decide) ?_
        have e9 : p_low (vr Y w) S i = false := by unfold p_low; exact decide_eq_false c66
        have h7 := ih (i + 1) (by omega)
        rw [lcn_f e9, lal_f e9, lso_f e9] at h7
        exact h7
      · skip
        refine sz_inc (lv' := [(5, _), (8, _), (7, _), (6, _), (3, _), (0, _), (1, _), (2, _)]) dX8_all_70 3 rfl (by decide) rfl ?_
        refine ss_iload dX8_all_73 3 rfl ?_
        refine ss_iload dX8_all_75 1 rfl ?_
        refine sz_iand dX8_all_77 ?_
        refine ss_istore (lv' := [(6, _), (5, _), (8, _), (7, _), (3, _), (0, _), (1, _), (2, _)]) dX8_all_78 (by decide) rfl ?_
        refine ss_iload dX8_all_80 3 rfl ?_
        refine ss_iload dX8_all_82 2 rfl ?_
        refine sz_ior dX8_all_84 ?_
        refine ss_istore (lv' := [(7, _), (6, _), (5, _), (8, _), (3, _), (0, _), (1, _), (2, _)]) dX8_all_85 (by decide) rfl ?_
        refine sz_inc (lv' := [(8, _), (7, _), (6, _), (5, _), (3, _), (0, _), (1, _), (2, _)]) dX8_all_87 3 rfl (by decide) rfl ?_
        refine ss_goto 49 dX8_all_90 (by decide) ?_
        have e9 : p_low (vr Y w) S i = true := by unfold p_low; exact decide_eq_true c66
        have h7 := ih (i + 1) (by omega)
        rw [lcn_t e9, lal_t e9, lso_t e9] at h7
        exact h7
set_option maxHeartbeats 1000000 in
set_option maxRecDepth 100000 in
theorem r_all_o {c : cx} {d : Nat} {X : nX} {Y : nY} {m : Nat} (hm : m ≤ 12) (h7 : X 105 1 = nI m) {j : Nat} (hjm : j < m) {i : Int32} (hi : ix i 4 = false) : sc c mX8_all (d + 3) [.ref (c_ad c 105), .int (nI j), .int i] (X) (Y) (some (.int (-1002))) (X) (Y) := by
  intro Q hQ
  show ss c mX8_all (d + 3) Q 0 [(0, .ref (c_ad c 105)), (1, .int (nI j)), (2, .int i)] [] (X) (Y)
  have hj : j < 12 := by omega
  have hwj : ix (nI j) m = true := ix_of hjm (by omega)
  refine ss_aload_n dX8_all_0 0 rfl ?_
  refine ss_iload_n dX8_all_1 1 rfl ?_
  refine ss_callV (As := [_]) (i := 105) dX8_all_2 vlX8_157 clX8_isWorth rfl rfl (by omega) (sh_r105 _ _) rfl (Nat.le_of_ble_eq_true rfl) (Nat.le_of_ble_eq_true rfl) (m_isWorth hm h7) ?_
  refine sy_if_ne 12 dX8_all_5 (by decide) (fun c5 => ?_) (fun c5 => by first | exact kd_tf (hwj) c5 | exact kd_ft (hwj) c5 | exact absurd (hwj) c5 | exact absurd c5 (hwj))
  refine ss_iload_n dX8_all_12 2 rfl ?_
  refine ss_i2l dX8_all_13 ?_
  refine ss_lconst (v := 0) dX8_all_14 (by decide) ?_
  refine ss_ldc2 dX8_all_15 kcX8_97 ?_
  refine ss_callS (As := [_, _, _]) dX8_all_18 vlX8_89 clX8_within rfl rfl (Nat.le_of_ble_eq_true rfl) (Nat.le_of_ble_eq_true rfl) (m_within) ?_
  refine sy_if_ne 28 dX8_all_21 (by decide) (fun c21 => by first | exact kd_tf (by rw [wi_ix (n := 4) rfl]; exact hi) c21 | exact kd_ft (by rw [wi_ix (n := 4) rfl]; exact hi) c21 | exact absurd (by rw [wi_ix (n := 4) rfl]; exact hi) c21 | exact absurd c21 (by rw [wi_ix (n := 4) rfl]; exact hi)) (fun c21 => ?_)
  refine ss_sipush (v := -1002) dX8_all_24 (by decide) ?_
  exact ss_iret dX8_all_27 rfl rfl (hQ)
set_option maxHeartbeats 1000000 in
set_option maxRecDepth 100000 in
theorem r_all_0 {c : cx} {d : Nat} {X : nX} {Y : nY} {n : Nat} (hn : n ≤ 10) (h6 : X 105 0 = nI n) {m : Nat} (hm : m ≤ 12) (h7 : X 105 1 = nI m) {j : Nat} (hjm : j < m) : sc c mX8_all (d + 3) [.ref (c_ad c 105), .int (nI j), .int (nI 0)] (X) (Y) (some (.int (nI (lcn (p_low (vr Y j) (2 ^ n)) (2 ^ n))))) (X) (Y) := by
  intro Q hQ
  show ss c mX8_all (d + 3) Q 0 [(0, .ref (c_ad c 105)), (1, .int (nI j)), (2, .int (nI 0))] [] (X) (Y)
  have hj : j < 12 := by omega
  have hwj : ix (nI j) m = true := ix_of hjm (by omega)
  refine ss_aload_n dX8_all_0 0 rfl ?_
  refine ss_iload_n dX8_all_1 1 rfl ?_
  refine ss_callV (As := [_]) (i := 105) dX8_all_2 vlX8_157 clX8_isWorth rfl rfl (by omega) (sh_r105 _ _) rfl (Nat.le_of_ble_eq_true rfl) (Nat.le_of_ble_eq_true rfl) (m_isWorth hm h7) ?_
  refine sy_if_ne 12 dX8_all_5 (by decide) (fun c5 => ?_) (fun c5 => by first | exact kd_tf (hwj) c5 | exact kd_ft (hwj) c5 | exact absurd (hwj) c5 | exact absurd c5 (hwj))
  refine ss_iload_n dX8_all_12 2 rfl ?_
  refine ss_i2l dX8_all_13 ?_
  refine ss_lconst (v := 0) dX8_all_14 (by decide) ?_
  refine ss_ldc2 dX8_all_15 kcX8_97 ?_
  refine ss_callS (As := [_, _, _]) dX8_all_18 vlX8_89 clX8_within rfl rfl (Nat.le_of_ble_eq_true rfl) (Nat.le_of_ble_eq_true rfl) (m_within) ?_
  refine sy_if_ne 28 dX8_all_21 (by decide) (fun c21 => ?_) (fun c21 => by first | exact kd_tf (by rw [wi_ix (n := 4) rfl]; exact ix_of (by decide) (by decide)) c21 | exact kd_ft (by rw [wi_ix (n := 4) rfl]; exact ix_of (by decide) (by decide)) c21 | exact absurd (by rw [wi_ix (n := 4) rfl]; exact ix_of (by decide) (by decide)) c21 | exact absurd c21 (by rw [wi_ix (n := 4) rfl]; exact ix_of (by decide) (by decide)))
  refine ss_aload_n dX8_all_28 0 rfl ?_
  refine ss_iload_n dX8_all_29 1 rfl ?_
  refine ss_callV (As := [_]) (i := 105) dX8_all_30 vlX8_211 clX8_leastOf rfl rfl (by omega) (sh_r105 _ _) rfl (Nat.le_of_ble_eq_true rfl) (Nat.le_of_ble_eq_true rfl) (m_leastOf hj hn h6) ?_
  refine ss_lstore_n (lv' := [(3, _), (0, _), (1, _), (2, _)]) dX8_all_33 (by decide) rfl ?_
  refine ss_iconst (v := nI 0) dX8_all_34 (by decide) ?_
  refine ss_istore (lv' := [(5, _), (3, _), (0, _), (1, _), (2, _)]) dX8_all_35 (by decide) rfl ?_
  refine ss_aload_n dX8_all_37 2 rfl ?_
  refine ss_callV (As := []) (i := 105) dX8_all_38 vlX8_93 clX8_last rfl rfl (by omega) (sh_r105 _ _) rfl (Nat.le_of_ble_eq_true rfl) (Nat.le_of_ble_eq_true rfl) (m_last hn h6) ?_
  refine ss_istore (lv' := [(6, _), (5, _), (3, _), (0, _), (1, _), (2, _)]) dX8_all_41 (by decide) rfl ?_
  refine ss_iconst (v := nI 0) dX8_all_43 (by decide) ?_
  refine ss_istore (lv' := [(7, _), (6, _), (5, _), (3, _), (0, _), (1, _), (2, _)]) dX8_all_44 (by decide) rfl ?_
  refine ss_iconst (v := nI 0) dX8_all_46 (by decide) ?_
  refine ss_istore (lv' := [(8, _), (7, _), (6, _), (5, _), (3, _), (0, _), (1, _), (2, _)]) dX8_all_47 (by decide) rfl ?_
  refine l_all hj hn h6 rfl (fun k9 hk9 => ?_) (2 ^ n) 0 (by omega)
  refine ss_iload_n dX8_all_93 7 rfl ?_
  refine sz_if_ne 102 dX8_all_94 (by decide) (by omega) (fun c94 => by omega) (fun c94 => ?_)
  refine ss_iload dX8_all_97 3 rfl ?_
  refine ss_goto 136 dX8_all_99 (by decide) ?_
  exact ss_iret dX8_all_136 rfl rfl (hQ)
set_option maxHeartbeats 1000000 in
set_option maxRecDepth 100000 in
theorem r_all_1 {c : cx} {d : Nat} {X : nX} {Y : nY} {n : Nat} (hn : n ≤ 10) (h6 : X 105 0 = nI n) {m : Nat} (hm : m ≤ 12) (h7 : X 105 1 = nI m) {j : Nat} (hjm : j < m) : sc c mX8_all (d + 3) [.ref (c_ad c 105), .int (nI j), .int (nI 1)] (X) (Y) (some (.int (nI (lal (p_low (vr Y j) (2 ^ n)) (2 ^ n - 1) (2 ^ n))))) (X) (Y) := by
  intro Q hQ
  show ss c mX8_all (d + 3) Q 0 [(0, .ref (c_ad c 105)), (1, .int (nI j)), (2, .int (nI 1))] [] (X) (Y)
  have hj : j < 12 := by omega
  have hwj : ix (nI j) m = true := ix_of hjm (by omega)
  refine ss_aload_n dX8_all_0 0 rfl ?_
  refine ss_iload_n dX8_all_1 1 rfl ?_
  refine ss_callV (As := [_]) (i := 105) dX8_all_2 vlX8_157 clX8_isWorth rfl rfl (by omega) (sh_r105 _ _) rfl (Nat.le_of_ble_eq_true rfl) (Nat.le_of_ble_eq_true rfl) (m_isWorth hm h7) ?_
  refine sy_if_ne 12 dX8_all_5 (by decide) (fun c5 => ?_) (fun c5 => by first | exact kd_tf (hwj) c5 | exact kd_ft (hwj) c5 | exact absurd (hwj) c5 | exact absurd c5 (hwj))
  refine ss_iload_n dX8_all_12 2 rfl ?_
  refine ss_i2l dX8_all_13 ?_
  refine ss_lconst (v := 0) dX8_all_14 (by decide) ?_
  refine ss_ldc2 dX8_all_15 kcX8_97 ?_
  refine ss_callS (As := [_, _, _]) dX8_all_18 vlX8_89 clX8_within rfl rfl (Nat.le_of_ble_eq_true rfl) (Nat.le_of_ble_eq_true rfl) (m_within) ?_
  refine sy_if_ne 28 dX8_all_21 (by decide) (fun c21 => ?_) (fun c21 => by first | exact kd_tf (by rw [wi_ix (n := 4) rfl]; exact ix_of (by decide) (by decide)) c21 | exact kd_ft (by rw [wi_ix (n := 4) rfl]; exact ix_of (by decide) (by decide)) c21 | exact absurd (by rw [wi_ix (n := 4) rfl]; exact ix_of (by decide) (by decide)) c21 | exact absurd c21 (by rw [wi_ix (n := 4) rfl]; exact ix_of (by decide) (by decide)))
  refine ss_aload_n dX8_all_28 0 rfl ?_
  refine ss_iload_n dX8_all_29 1 rfl ?_
  refine ss_callV (As := [_]) (i := 105) dX8_all_30 vlX8_211 clX8_leastOf rfl rfl (by omega) (sh_r105 _ _) rfl (Nat.le_of_ble_eq_true rfl) (Nat.le_of_ble_eq_true rfl) (m_leastOf hj hn h6) ?_
  refine ss_lstore_n (lv' := [(3, _), (0, _), (1, _), (2, _)]) dX8_all_33 (by decide) rfl ?_
  refine ss_iconst (v := nI 0) dX8_all_34 (by decide) ?_
  refine ss_istore (lv' := [(5, _), (3, _), (0, _), (1, _), (2, _)]) dX8_all_35 (by decide) rfl ?_
  refine ss_aload_n dX8_all_37 2 rfl ?_
  refine ss_callV (As := []) (i := 105) dX8_all_38 vlX8_93 clX8_last rfl rfl (by omega) (sh_r105 _ _) rfl (Nat.le_of_ble_eq_true rfl) (Nat.le_of_ble_eq_true rfl) (m_last hn h6) ?_
  refine ss_istore (lv' := [(6, _), (5, _), (3, _), (0, _), (1, _), (2, _)]) dX8_all_41 (by decide) rfl ?_
  refine ss_iconst (v := nI 0) dX8_all_43 (by decide) ?_
  refine ss_istore (lv' := [(7, _), (6, _), (5, _), (3, _), (0, _), (1, _), (2, _)]) dX8_all_44 (by decide) rfl ?_
  refine ss_iconst (v := nI 0) dX8_all_46 (by decide) ?_
  refine ss_istore (lv' := [(8, _), (7, _), (6, _), (5, _), (3, _), (0, _), (1, _), (2, _)]) dX8_all_47 (by decide) rfl ?_
  refine l_all hj hn h6 rfl (fun k9 hk9 => ?_) (2 ^ n) 0 (by omega)
  refine ss_iload_n dX8_all_93 7 rfl ?_
  refine sz_if_ne 102 dX8_all_94 (by decide) (by omega) (fun c94 => ?_) (fun c94 => by omega)
  refine ss_iload_n dX8_all_102 7 rfl ?_
  refine ss_iconst (v := nI 1) dX8_all_103 (by decide) ?_
  refine sz_icmp_ne 112 dX8_all_104 (by decide) (by omega) (by omega) (fun c104 => by omega) (fun c104 => ?_)
  refine ss_iload dX8_all_107 2 rfl ?_
  refine ss_goto 136 dX8_all_109 (by decide) ?_
  exact ss_iret dX8_all_136 rfl rfl (hQ)
set_option maxHeartbeats 1000000 in
set_option maxRecDepth 100000 in
theorem r_all_2 {c : cx} {d : Nat} {X : nX} {Y : nY} {n : Nat} (hn : n ≤ 10) (h6 : X 105 0 = nI n) {m : Nat} (hm : m ≤ 12) (h7 : X 105 1 = nI m) {j : Nat} (hjm : j < m) : sc c mX8_all (d + 3) [.ref (c_ad c 105), .int (nI j), .int (nI 2)] (X) (Y) (some (.int (nI (lso (p_low (vr Y j) (2 ^ n)) (2 ^ n))))) (X) (Y) := by
  intro Q hQ
  show ss c mX8_all (d + 3) Q 0 [(0, .ref (c_ad c 105)), (1, .int (nI j)), (2, .int (nI 2))] [] (X) (Y)
  have hj : j < 12 := by omega
  have hwj : ix (nI j) m = true := ix_of hjm (by omega)
  refine ss_aload_n dX8_all_0 0 rfl ?_
  refine ss_iload_n dX8_all_1 1 rfl ?_
  refine ss_callV (As := [_]) (i := 105) dX8_all_2 vlX8_157 clX8_isWorth rfl rfl (by omega) (sh_r105 _ _) rfl (Nat.le_of_ble_eq_true rfl) (Nat.le_of_ble_eq_true rfl) (m_isWorth hm h7) ?_
  refine sy_if_ne 12 dX8_all_5 (by decide) (fun c5 => ?_) (fun c5 => by first | exact kd_tf (hwj) c5 | exact kd_ft (hwj) c5 | exact absurd (hwj) c5 | exact absurd c5 (hwj))
  refine ss_iload_n dX8_all_12 2 rfl ?_
  refine ss_i2l dX8_all_13 ?_
  refine ss_lconst (v := 0) dX8_all_14 (by decide) ?_
  refine ss_ldc2 dX8_all_15 kcX8_97 ?_
  refine ss_callS (As := [_, _, _]) dX8_all_18 vlX8_89 clX8_within rfl rfl (Nat.le_of_ble_eq_true rfl) (Nat.le_of_ble_eq_true rfl) (m_within) ?_
  refine sy_if_ne 28 dX8_all_21 (by decide) (fun c21 => ?_) (fun c21 => by first | exact kd_tf (by rw [wi_ix (n := 4) rfl]; exact ix_of (by decide) (by decide)) c21 | exact kd_ft (by rw [wi_ix (n := 4) rfl]; exact ix_of (by decide) (by decide)) c21 | exact absurd (by rw [wi_ix (n := 4) rfl]; exact ix_of (by decide) (by decide)) c21 | exact absurd c21 (by rw [wi_ix (n := 4) rfl]; exact ix_of (by decide) (by decide)))
  refine ss_aload_n dX8_all_28 0 rfl ?_
  refine ss_iload_n dX8_all_29 1 rfl ?_
  refine ss_callV (As := [_]) (i := 105) dX8_all_30 vlX8_211 clX8_leastOf rfl rfl (by omega) (sh_r105 _ _) rfl (Nat.le_of_ble_eq_true rfl) (Nat.le_of_ble_eq_true rfl) (m_leastOf hj hn h6) ?_
  refine ss_lstore_n (lv' := [(3, _), (0, _), (1, _), (2, _)]) dX8_all_33 (by decide) rfl ?_
  refine ss_iconst (v := nI 0) dX8_all_34 (by decide) ?_
  refine ss_istore (lv' := [(5, _), (3, _), (0, _), (1, _), (2, _)]) dX8_all_35 (by decide) rfl ?_
  refine ss_aload_n dX8_all_37 2 rfl ?_
  refine ss_callV (As := []) (i := 105) dX8_all_38 vlX8_93 clX8_last rfl rfl (by omega) (sh_r105 _ _) rfl (Nat.le_of_ble_eq_true rfl) (Nat.le_of_ble_eq_true rfl) (m_last hn h6) ?_
  refine ss_istore (lv' := [(6, _), (5, _), (3, _), (0, _), (1, _), (2, _)]) dX8_all_41 (by decide) rfl ?_
  refine ss_iconst (v := nI 0) dX8_all_43 (by decide) ?_
  refine ss_istore (lv' := [(7, _), (6, _), (5, _), (3, _), (0, _), (1, _), (2, _)]) dX8_all_44 (by decide) rfl ?_
  refine ss_iconst (v := nI 0) dX8_all_46 (by decide) ?_
  refine ss_istore (lv' := [(8, _), (7, _), (6, _), (5, _), (3, _), (0, _), (1, _), (2, _)]) dX8_all_47 (by decide) rfl ?_
  refine l_all hj hn h6 rfl (fun k9 hk9 => ?_) (2 ^ n) 0 (by omega)
  refine ss_iload_n dX8_all_93 7 rfl ?_
  refine sz_if_ne 102 dX8_all_94 (by decide) (by omega) (fun c94 => ?_) (fun c94 => by omega)
  refine ss_iload_n dX8_all_102 7 rfl ?_
  refine ss_iconst (v := nI 1) dX8_all_103 (by decide) ?_
  refine sz_icmp_ne 112 dX8_all_104 (by decide) (by omega) (by omega) (fun c104 => ?_) (fun c104 => by omega)
  refine ss_iload_n dX8_all_112 7 rfl ?_
  refine ss_iconst (v := nI 2) dX8_all_113 (by decide) ?_
  refine sz_icmp_ne 122 dX8_all_114 (by decide) (by omega) (by omega) (fun c114 => by omega) (fun c114 => ?_)
  refine ss_iload dX8_all_117 1 rfl ?_
  refine ss_goto 136 dX8_all_119 (by decide) ?_
  exact ss_iret dX8_all_136 rfl rfl (hQ)
set_option maxHeartbeats 1000000 in
set_option maxRecDepth 100000 in
theorem r_all_3 {c : cx} {d : Nat} {X : nX} {Y : nY} {n : Nat} (hn : n ≤ 10) (h6 : X 105 0 = nI n) {m : Nat} (hm : m ≤ 12) (h7 : X 105 1 = nI m) {j : Nat} (hjm : j < m) : sc c mX8_all (d + 3) [.ref (c_ad c 105), .int (nI j), .int (nI 3)] (X) (Y) (some (.int (bI (!(lany (q_cls (vr Y j) (lmn (vr Y j) (2 ^ n))) (2 ^ n)))))) (X) (Y) := by
  intro Q hQ
  show ss c mX8_all (d + 3) Q 0 [(0, .ref (c_ad c 105)), (1, .int (nI j)), (2, .int (nI 3))] [] (X) (Y)
  have hj : j < 12 := by omega
  have hwj : ix (nI j) m = true := ix_of hjm (by omega)
  refine ss_aload_n dX8_all_0 0 rfl ?_
  refine ss_iload_n dX8_all_1 1 rfl ?_
  refine ss_callV (As := [_]) (i := 105) dX8_all_2 vlX8_157 clX8_isWorth rfl rfl (by omega) (sh_r105 _ _) rfl (Nat.le_of_ble_eq_true rfl) (Nat.le_of_ble_eq_true rfl) (m_isWorth hm h7) ?_
  refine sy_if_ne 12 dX8_all_5 (by decide) (fun c5 => ?_) (fun c5 => by first | exact kd_tf (hwj) c5 | exact kd_ft (hwj) c5 | exact absurd (hwj) c5 | exact absurd c5 (hwj))
  refine ss_iload_n dX8_all_12 2 rfl ?_
  refine ss_i2l dX8_all_13 ?_
  refine ss_lconst (v := 0) dX8_all_14 (by decide) ?_
  refine ss_ldc2 dX8_all_15 kcX8_97 ?_
  refine ss_callS (As := [_, _, _]) dX8_all_18 vlX8_89 clX8_within rfl rfl (Nat.le_of_ble_eq_true rfl) (Nat.le_of_ble_eq_true rfl) (m_within) ?_
  refine sy_if_ne 28 dX8_all_21 (by decide) (fun c21 => ?_) (fun c21 => by first | exact kd_tf (by rw [wi_ix (n := 4) rfl]; exact ix_of (by decide) (by decide)) c21 | exact kd_ft (by rw [wi_ix (n := 4) rfl]; exact ix_of (by decide) (by decide)) c21 | exact absurd (by rw [wi_ix (n := 4) rfl]; exact ix_of (by decide) (by decide)) c21 | exact absurd c21 (by rw [wi_ix (n := 4) rfl]; exact ix_of (by decide) (by decide)))
  refine ss_aload_n dX8_all_28 0 rfl ?_
  refine ss_iload_n dX8_all_29 1 rfl ?_
  refine ss_callV (As := [_]) (i := 105) dX8_all_30 vlX8_211 clX8_leastOf rfl rfl (by omega) (sh_r105 _ _) rfl (Nat.le_of_ble_eq_true rfl) (Nat.le_of_ble_eq_true rfl) (m_leastOf hj hn h6) ?_
  refine ss_lstore_n (lv' := [(3, _), (0, _), (1, _), (2, _)]) dX8_all_33 (by decide) rfl ?_
  refine ss_iconst (v := nI 0) dX8_all_34 (by decide) ?_
  refine ss_istore (lv' := [(5, _), (3, _), (0, _), (1, _), (2, _)]) dX8_all_35 (by decide) rfl ?_
  refine ss_aload_n dX8_all_37 2 rfl ?_
  refine ss_callV (As := []) (i := 105) dX8_all_38 vlX8_93 clX8_last rfl rfl (by omega) (sh_r105 _ _) rfl (Nat.le_of_ble_eq_true rfl) (Nat.le_of_ble_eq_true rfl) (m_last hn h6) ?_
  refine ss_istore (lv' := [(6, _), (5, _), (3, _), (0, _), (1, _), (2, _)]) dX8_all_41 (by decide) rfl ?_
  refine ss_iconst (v := nI 0) dX8_all_43 (by decide) ?_
  refine ss_istore (lv' := [(7, _), (6, _), (5, _), (3, _), (0, _), (1, _), (2, _)]) dX8_all_44 (by decide) rfl ?_
  refine ss_iconst (v := nI 0) dX8_all_46 (by decide) ?_
  refine ss_istore (lv' := [(8, _), (7, _), (6, _), (5, _), (3, _), (0, _), (1, _), (2, _)]) dX8_all_47 (by decide) rfl ?_
  refine l_all hj hn h6 rfl (fun k9 hk9 => ?_) (2 ^ n) 0 (by omega)
  refine ss_iload_n dX8_all_93 7 rfl ?_
  refine sz_if_ne 102 dX8_all_94 (by decide) (by omega) (fun c94 => ?_) (fun c94 => by omega)
  refine ss_iload_n dX8_all_102 7 rfl ?_
  refine ss_iconst (v := nI 1) dX8_all_103 (by decide) ?_
  refine sz_icmp_ne 112 dX8_all_104 (by decide) (by omega) (by omega) (fun c104 => ?_) (fun c104 => by omega)
  refine ss_iload_n dX8_all_112 7 rfl ?_
  refine ss_iconst (v := nI 2) dX8_all_113 (by decide) ?_
  refine sz_icmp_ne 122 dX8_all_114 (by decide) (by omega) (by omega) (fun c114 => ?_) (fun c114 => by omega)
  refine ss_aload_n dX8_all_122 5 rfl ?_
  refine ss_iload_n dX8_all_123 6 rfl ?_
  refine ss_lload_n dX8_all_124 4 rfl ?_
  refine ss_callV (As := [_, _]) (i := 105) dX8_all_125 vlX8_215 clX8_isClosed rfl rfl (by omega) (sh_r105 _ _) rfl (Nat.le_of_ble_eq_true rfl) (Nat.le_of_ble_eq_true rfl) (m_isClosed hj hn h6) ?_
  refine sy_if_eq 135 dX8_all_128 (by decide) (fun c128 => ?_) (fun c128 => ?_)
  · skip
    refine ss_iconst (v := nI 0) dX8_all_135 (by decide) ?_
    exact ss_iret dX8_all_136 rfl rfl (cvi (by rw [c128]; rfl) hQ)
  · skip
    refine ss_iconst (v := nI 1) dX8_all_131 (by decide) ?_
    refine ss_goto 136 dX8_all_132 (by decide) ?_
    exact ss_iret dX8_all_136 rfl rfl (cvi (by rw [c128]; rfl) hQ)
set_option maxHeartbeats 1000000 in
set_option maxRecDepth 100000 in
theorem r_level_o {c : cx} {d : Nat} {X : nX} {Y : nY} {n : Nat} (hn : n ≤ 10) (h6 : X 105 0 = nI n) {m : Nat} (hm : m ≤ 12) (h7 : X 105 1 = nI m) {j : Nat} (hjm : j < m) {i : Int32} (hi : ix i (n + 1) = false) : sc c mX8_level (d + 3) [.ref (c_ad c 105), .int (nI j), .int i] (X) (Y) (some (.long (-1002))) (X) (Y) := by
  intro Q hQ
  show ss c mX8_level (d + 3) Q 0 [(0, .ref (c_ad c 105)), (1, .int (nI j)), (2, .int i)] [] (X) (Y)
  have hj : j < 12 := by omega
  have hwj : ix (nI j) m = true := ix_of hjm (by omega)
  refine ss_aload_n dX8_level_0 0 rfl ?_
  refine ss_iload_n dX8_level_1 1 rfl ?_
  refine ss_callV (As := [_]) (i := 105) dX8_level_2 vlX8_157 clX8_isWorth rfl rfl (by omega) (sh_r105 _ _) rfl (Nat.le_of_ble_eq_true rfl) (Nat.le_of_ble_eq_true rfl) (m_isWorth hm h7) ?_
  refine sy_if_ne 14 dX8_level_5 (by decide) (fun c5 => ?_) (fun c5 => by first | exact kd_tf (hwj) c5 | exact kd_ft (hwj) c5 | exact absurd (hwj) c5 | exact absurd c5 (hwj))
  refine ss_iload_n dX8_level_14 2 rfl ?_
  refine ss_i2l dX8_level_15 ?_
  refine ss_lconst (v := 0) dX8_level_16 (by decide) ?_
  refine ss_aload_n dX8_level_17 0 rfl ?_
  refine ss_get (i := 105) dX8_level_18 flX8_80 (by omega) (sh_r105 _ _) rfl ?_
  rw [h6]
  refine ss_i2l dX8_level_21 ?_
  refine ss_callS (As := [_, _, _]) dX8_level_22 vlX8_89 clX8_within rfl rfl (Nat.le_of_ble_eq_true rfl) (Nat.le_of_ble_eq_true rfl) (m_within) ?_
  refine sy_if_eq 37 dX8_level_25 (by decide) (fun c25 => ?_) (fun c25 => by first | exact kd_tf (by rw [wi_ix (n := n + 1) (by rw [Int32.toInt_toInt64, nI_toInt (by omega)]; omega)]; exact hi) c25 | exact kd_ft (by rw [wi_ix (n := n + 1) (by rw [Int32.toInt_toInt64, nI_toInt (by omega)]; omega)]; exact hi) c25 | exact absurd (by rw [wi_ix (n := n + 1) (by rw [Int32.toInt_toInt64, nI_toInt (by omega)]; omega)]; exact hi) c25 | exact absurd c25 (by rw [wi_ix (n := n + 1) (by rw [Int32.toInt_toInt64, nI_toInt (by omega)]; omega)]; exact hi))
  refine ss_ldc2 dX8_level_37 kcX8_110 ?_
  exact ss_lret dX8_level_40 rfl (hQ)
set_option maxHeartbeats 1000000 in
set_option maxRecDepth 100000 in
theorem r_level_k {c : cx} {d : Nat} {X : nX} {Y : nY} {n : Nat} (hn : n ≤ 10) (h6 : X 105 0 = nI n) {m : Nat} (hm : m ≤ 12) (h7 : X 105 1 = nI m) {j : Nat} (hjm : j < m) {k : Nat} (hk : k ≤ n) : sc c mX8_level (d + 3) [.ref (c_ad c 105), .int (nI j), .int (nI k)] (X) (Y) (some (.long (lvo (vr Y j) k (2 ^ n)).2)) (X) (Y) := by
  intro Q hQ
  show ss c mX8_level (d + 3) Q 0 [(0, .ref (c_ad c 105)), (1, .int (nI j)), (2, .int (nI k))] [] (X) (Y)
  have hj : j < 12 := by omega
  have hwj : ix (nI j) m = true := ix_of hjm (by omega)
  refine ss_aload_n dX8_level_0 0 rfl ?_
  refine ss_iload_n dX8_level_1 1 rfl ?_
  refine ss_callV (As := [_]) (i := 105) dX8_level_2 vlX8_157 clX8_isWorth rfl rfl (by omega) (sh_r105 _ _) rfl (Nat.le_of_ble_eq_true rfl) (Nat.le_of_ble_eq_true rfl) (m_isWorth hm h7) ?_
  refine sy_if_ne 14 dX8_level_5 (by decide) (fun c5 => ?_) (fun c5 => by first | exact kd_tf (hwj) c5 | exact kd_ft (hwj) c5 | exact absurd (hwj) c5 | exact absurd c5 (hwj))
  refine ss_iload_n dX8_level_14 2 rfl ?_
  refine ss_i2l dX8_level_15 ?_
  refine ss_lconst (v := 0) dX8_level_16 (by decide) ?_
  refine ss_aload_n dX8_level_17 0 rfl ?_
  refine ss_get (i := 105) dX8_level_18 flX8_80 (by omega) (sh_r105 _ _) rfl ?_
  rw [h6]
  refine ss_i2l dX8_level_21 ?_
  refine ss_callS (As := [_, _, _]) dX8_level_22 vlX8_89 clX8_within rfl rfl (Nat.le_of_ble_eq_true rfl) (Nat.le_of_ble_eq_true rfl) (m_within) ?_
  refine sy_if_eq 37 dX8_level_25 (by decide) (fun c25 => by first | exact kd_tf (by rw [wi_ix (n := n + 1) (by rw [Int32.toInt_toInt64, nI_toInt (by omega)]; omega)]; exact ix_of (by omega) (by omega)) c25 | exact kd_ft (by rw [wi_ix (n := n + 1) (by rw [Int32.toInt_toInt64, nI_toInt (by omega)]; omega)]; exact ix_of (by omega) (by omega)) c25 | exact absurd (by rw [wi_ix (n := n + 1) (by rw [Int32.toInt_toInt64, nI_toInt (by omega)]; omega)]; exact ix_of (by omega) (by omega)) c25 | exact absurd c25 (by rw [wi_ix (n := n + 1) (by rw [Int32.toInt_toInt64, nI_toInt (by omega)]; omega)]; exact ix_of (by omega) (by omega))) (fun c25 => ?_)
  refine ss_aload_n dX8_level_28 0 rfl ?_
  refine ss_iload_n dX8_level_29 1 rfl ?_
  refine ss_iload_n dX8_level_30 2 rfl ?_
  refine ss_callV (As := [_, _]) (i := 105) dX8_level_31 vlX8_219 clX8_levelOf rfl rfl (by omega) (sh_r105 _ _) rfl (Nat.le_of_ble_eq_true rfl) (Nat.le_of_ble_eq_true rfl) (m_levelOf hj hn h6 (by omega)) ?_
  refine ss_goto 40 dX8_level_34 (by decide) ?_
  exact ss_lret dX8_level_40 rfl (hQ)
set_option maxHeartbeats 1000000 in
set_option maxRecDepth 100000 in
theorem r_bends_k {c : cx} {d : Nat} {X : nX} {Y : nY} {n : Nat} (hn : n ≤ 10) (h6 : X 105 0 = nI n) {m : Nat} (hm : m ≤ 12) (h7 : X 105 1 = nI m) {j : Nat} (hjm : j < m) : sc c mX8_bends (d + 3) [.ref (c_ad c 105), .int (nI j)] (X) (Y) (some (.int (nI (bcn (rlv (Y 124) (vr Y j) n) n)))) (xcn X (tno (rlv (Y 124) (vr Y j) n) n) (bcn (rlv (Y 124) (vr Y j) n) n)) (srw Y 124 (rlv (Y 124) (vr Y j) n)) := by
  intro Q hQ
  show ss c mX8_bends (d + 3) Q 0 [(0, .ref (c_ad c 105)), (1, .int (nI j))] [] (X) (Y)
  have hj : j < 12 := by omega
  have hwj : ix (nI j) m = true := ix_of hjm (by omega)
  refine ss_aload_n dX8_bends_0 0 rfl ?_
  refine ss_iload_n dX8_bends_1 1 rfl ?_
  refine ss_callV (As := [_]) (i := 105) dX8_bends_2 vlX8_157 clX8_isWorth rfl rfl (by omega) (sh_r105 _ _) rfl (Nat.le_of_ble_eq_true rfl) (Nat.le_of_ble_eq_true rfl) (m_isWorth hm h7) ?_
  refine sy_if_eq 16 dX8_bends_5 (by decide) (fun c5 => by first | exact kd_tf (hwj) c5 | exact kd_ft (hwj) c5 | exact absurd (hwj) c5 | exact absurd c5 (hwj)) (fun c5 => ?_)
  refine ss_aload_n dX8_bends_8 0 rfl ?_
  refine ss_iload_n dX8_bends_9 1 rfl ?_
  refine ss_callV (As := [_]) (i := 105) dX8_bends_10 vlX8_222 clX8_findBends rfl rfl (by omega) (sh_r105 _ _) rfl (Nat.le_of_ble_eq_true rfl) (Nat.le_of_ble_eq_true rfl) (m_findBends hj hn h6) ?_
  refine ss_goto 19 dX8_bends_13 (by decide) ?_
  exact ss_iret dX8_bends_19 rfl rfl (hQ)
set_option maxHeartbeats 1000000 in
set_option maxRecDepth 100000 in
theorem r_bend_u2 {c : cx} {d : Nat} {X : nX} {Y : nY} {n : Nat} (hn : n ≤ 10) (h6 : X 105 0 = nI n) {m : Nat} (hm : m ≤ 12) (h7 : X 105 1 = nI m) {j : Nat} (hjm : j < m) {i q : Int32} (hi : ix i (bcn (rlv (Y 124) (vr Y j) n) n) = false) : sc c mX8_bend (d + 4) [.ref (c_ad c 105), .int (nI j), .int i, .int q] (X) (Y) (some (.long (-1001))) (xcn X (tno (rlv (Y 124) (vr Y j) n) n) (bcn (rlv (Y 124) (vr Y j) n) n)) (srw Y 124 (rlv (Y 124) (vr Y j) n)) := by
  intro Q hQ
  show ss c mX8_bend (d + 4) Q 0 [(0, .ref (c_ad c 105)), (1, .int (nI j)), (2, .int i), (3, .int q)] [] (X) (Y)
  have hj : j < 12 := by omega
  have hwj : ix (nI j) m = true := ix_of hjm (by omega)
  refine ss_aload_n dX8_bend_0 0 rfl ?_
  refine ss_iload_n dX8_bend_1 1 rfl ?_
  refine ss_callV (As := [_]) (i := 105) dX8_bend_2 vlX8_157 clX8_isWorth rfl rfl (by omega) (sh_r105 _ _) rfl (Nat.le_of_ble_eq_true rfl) (Nat.le_of_ble_eq_true rfl) (m_isWorth hm h7) ?_
  refine sy_if_eq 25 dX8_bend_5 (by decide) (fun c5 => by first | exact kd_tf (hwj) c5 | exact kd_ft (hwj) c5 | exact absurd (hwj) c5 | exact absurd c5 (hwj)) (fun c5 => ?_)
  refine ss_iload_n dX8_bend_8 2 rfl ?_
  refine ss_i2l dX8_bend_9 ?_
  refine ss_lconst (v := 0) dX8_bend_10 (by decide) ?_
  refine ss_aload_n dX8_bend_11 0 rfl ?_
  refine ss_iload_n dX8_bend_12 1 rfl ?_
  refine ss_callV (As := [_]) (i := 105) dX8_bend_13 vlX8_222 clX8_findBends rfl rfl (by omega) (sh_r105 _ _) rfl (Nat.le_of_ble_eq_true rfl) (Nat.le_of_ble_eq_true rfl) (m_findBends hj hn h6) ?_
  refine ss_iconst (v := nI 1) dX8_bend_16 (by decide) ?_
  refine ss_isub dX8_bend_17 ?_
  refine ss_i2l dX8_bend_18 ?_
  refine ss_callS (As := [_, _, _]) dX8_bend_19 vlX8_89 clX8_within rfl rfl (Nat.le_of_ble_eq_true rfl) (Nat.le_of_ble_eq_true rfl) (m_within) ?_
  refine sy_if_ne 29 dX8_bend_22 (by decide) (fun c22 => by first | exact kd_tf (by rw [wi_ix (nI_s1l (by have := bcn_le (rlv (Y 124) (vr Y j) n) n; omega))]; exact hi) c22 | exact kd_ft (by rw [wi_ix (nI_s1l (by have := bcn_le (rlv (Y 124) (vr Y j) n) n; omega))]; exact hi) c22 | exact absurd (by rw [wi_ix (nI_s1l (by have := bcn_le (rlv (Y 124) (vr Y j) n) n; omega))]; exact hi) c22 | exact absurd c22 (by rw [wi_ix (nI_s1l (by have := bcn_le (rlv (Y 124) (vr Y j) n) n; omega))]; exact hi)) (fun c22 => ?_)
  refine ss_ldc2 dX8_bend_25 kcX8_108 ?_
  exact ss_lret dX8_bend_28 rfl (hQ)
set_option maxHeartbeats 1000000 in
set_option maxRecDepth 100000 in
theorem r_bend_o {c : cx} {d : Nat} {X : nX} {Y : nY} {n : Nat} (hn : n ≤ 10) (h6 : X 105 0 = nI n) {m : Nat} (hm : m ≤ 12) (h7 : X 105 1 = nI m) {j : Nat} (hjm : j < m) {i : Nat} (hi : i < bcn (rlv (Y 124) (vr Y j) n) n) {q : Int32} (hq : ix q 4 = false) : sc c mX8_bend (d + 4) [.ref (c_ad c 105), .int (nI j), .int (nI i), .int q] (X) (Y) (some (.long (-1002))) (xcn X (tno (rlv (Y 124) (vr Y j) n) n) (bcn (rlv (Y 124) (vr Y j) n) n)) (srw Y 124 (rlv (Y 124) (vr Y j) n)) := by
  intro Q hQ
  show ss c mX8_bend (d + 4) Q 0 [(0, .ref (c_ad c 105)), (1, .int (nI j)), (2, .int (nI i)), (3, .int q)] [] (X) (Y)
  have hj : j < 12 := by omega
  have hwj : ix (nI j) m = true := ix_of hjm (by omega)
  refine ss_aload_n dX8_bend_0 0 rfl ?_
  refine ss_iload_n dX8_bend_1 1 rfl ?_
  refine ss_callV (As := [_]) (i := 105) dX8_bend_2 vlX8_157 clX8_isWorth rfl rfl (by omega) (sh_r105 _ _) rfl (Nat.le_of_ble_eq_true rfl) (Nat.le_of_ble_eq_true rfl) (m_isWorth hm h7) ?_
  refine sy_if_eq 25 dX8_bend_5 (by decide) (fun c5 => by first | exact kd_tf (hwj) c5 | exact kd_ft (hwj) c5 | exact absurd (hwj) c5 | exact absurd c5 (hwj)) (fun c5 => ?_)
  refine ss_iload_n dX8_bend_8 2 rfl ?_
  refine ss_i2l dX8_bend_9 ?_
  refine ss_lconst (v := 0) dX8_bend_10 (by decide) ?_
  refine ss_aload_n dX8_bend_11 0 rfl ?_
  refine ss_iload_n dX8_bend_12 1 rfl ?_
  refine ss_callV (As := [_]) (i := 105) dX8_bend_13 vlX8_222 clX8_findBends rfl rfl (by omega) (sh_r105 _ _) rfl (Nat.le_of_ble_eq_true rfl) (Nat.le_of_ble_eq_true rfl) (m_findBends hj hn h6) ?_
  refine ss_iconst (v := nI 1) dX8_bend_16 (by decide) ?_
  refine ss_isub dX8_bend_17 ?_
  refine ss_i2l dX8_bend_18 ?_
  refine ss_callS (As := [_, _, _]) dX8_bend_19 vlX8_89 clX8_within rfl rfl (Nat.le_of_ble_eq_true rfl) (Nat.le_of_ble_eq_true rfl) (m_within) ?_
  refine sy_if_ne 29 dX8_bend_22 (by decide) (fun c22 => ?_) (fun c22 => by first | exact kd_tf (by rw [wi_ix (nI_s1l (by have := bcn_le (rlv (Y 124) (vr Y j) n) n; omega))]; exact ix_of hi (by have := bcn_le (rlv (Y 124) (vr Y j) n) n; omega)) c22 | exact kd_ft (by rw [wi_ix (nI_s1l (by have := bcn_le (rlv (Y 124) (vr Y j) n) n; omega))]; exact ix_of hi (by have := bcn_le (rlv (Y 124) (vr Y j) n) n; omega)) c22 | exact absurd (by rw [wi_ix (nI_s1l (by have := bcn_le (rlv (Y 124) (vr Y j) n) n; omega))]; exact ix_of hi (by have := bcn_le (rlv (Y 124) (vr Y j) n) n; omega)) c22 | exact absurd c22 (by rw [wi_ix (nI_s1l (by have := bcn_le (rlv (Y 124) (vr Y j) n) n; omega))]; exact ix_of hi (by have := bcn_le (rlv (Y 124) (vr Y j) n) n; omega)))
  refine ss_iload_n dX8_bend_29 3 rfl ?_
  refine ss_i2l dX8_bend_30 ?_
  refine ss_lconst (v := 0) dX8_bend_31 (by decide) ?_
  refine ss_ldc2 dX8_bend_32 kcX8_97 ?_
  refine ss_callS (As := [_, _, _]) dX8_bend_35 vlX8_89 clX8_within rfl rfl (Nat.le_of_ble_eq_true rfl) (Nat.le_of_ble_eq_true rfl) (m_within) ?_
  refine sy_if_ne 45 dX8_bend_38 (by decide) (fun c38 => by first | exact kd_tf (by rw [wi_ix (n := 4) rfl]; exact hq) c38 | exact kd_ft (by rw [wi_ix (n := 4) rfl]; exact hq) c38 | exact absurd (by rw [wi_ix (n := 4) rfl]; exact hq) c38 | exact absurd c38 (by rw [wi_ix (n := 4) rfl]; exact hq)) (fun c38 => ?_)
  refine ss_ldc2 dX8_bend_41 kcX8_110 ?_
  exact ss_lret dX8_bend_44 rfl (hQ)
set_option maxHeartbeats 1000000 in
set_option maxRecDepth 100000 in
theorem r_bend_0 {c : cx} {d : Nat} {X : nX} {Y : nY} {n : Nat} (hn : n ≤ 10) (h6 : X 105 0 = nI n) {m : Nat} (hm : m ≤ 12) (h7 : X 105 1 = nI m) {j : Nat} (hjm : j < m) {i : Nat} (hi : i < bcn (rlv (Y 124) (vr Y j) n) n) (hg : ¬ cmn ((rlv (Y 124) (vr Y j) n) (tno (rlv (Y 124) (vr Y j) n) n (i + 1)) - (rlv (Y 124) (vr Y j) n) (tno (rlv (Y 124) (vr Y j) n) n i)) (lN ((tno (rlv (Y 124) (vr Y j) n) n (i + 1)) - (tno (rlv (Y 124) (vr Y j) n) n i))) = 0) : sc c mX8_bend (d + 4) [.ref (c_ad c 105), .int (nI j), .int (nI i), .int (nI 0)] (X) (Y) (some (.long (((rlv (Y 124) (vr Y j) n) (tno (rlv (Y 124) (vr Y j) n) n (i + 1)) - (rlv (Y 124) (vr Y j) n) (tno (rlv (Y 124) (vr Y j) n) n i)) / cmn ((rlv (Y 124) (vr Y j) n) (tno (rlv (Y 124) (vr Y j) n) n (i + 1)) - (rlv (Y 124) (vr Y j) n) (tno (rlv (Y 124) (vr Y j) n) n i)) (lN ((tno (rlv (Y 124) (vr Y j) n) n (i + 1)) - (tno (rlv (Y 124) (vr Y j) n) n i)))))) (xcn X (tno (rlv (Y 124) (vr Y j) n) n) (bcn (rlv (Y 124) (vr Y j) n) n)) (srw Y 124 (rlv (Y 124) (vr Y j) n)) := by
  intro Q hQ
  show ss c mX8_bend (d + 4) Q 0 [(0, .ref (c_ad c 105)), (1, .int (nI j)), (2, .int (nI i)), (3, .int (nI 0))] [] (X) (Y)
  have hj : j < 12 := by omega
  have hwj : ix (nI j) m = true := ix_of hjm (by omega)
  have hbl := bcn_le (rlv (Y 124) (vr Y j) n) n
  have htl := tno_lt hi
  have htm := tno_mono (R := (rlv (Y 124) (vr Y j) n)) (n := n) (i := i)
  have hte := tno_le (rlv (Y 124) (vr Y j) n) htl
  refine ss_aload_n dX8_bend_0 0 rfl ?_
  refine ss_iload_n dX8_bend_1 1 rfl ?_
  refine ss_callV (As := [_]) (i := 105) dX8_bend_2 vlX8_157 clX8_isWorth rfl rfl (by omega) (sh_r105 _ _) rfl (Nat.le_of_ble_eq_true rfl) (Nat.le_of_ble_eq_true rfl) (m_isWorth hm h7) ?_
  refine sy_if_eq 25 dX8_bend_5 (by decide) (fun c5 => by first | exact kd_tf (hwj) c5 | exact kd_ft (hwj) c5 | exact absurd (hwj) c5 | exact absurd c5 (hwj)) (fun c5 => ?_)
  refine ss_iload_n dX8_bend_8 2 rfl ?_
  refine ss_i2l dX8_bend_9 ?_
  refine ss_lconst (v := 0) dX8_bend_10 (by decide) ?_
  refine ss_aload_n dX8_bend_11 0 rfl ?_
  refine ss_iload_n dX8_bend_12 1 rfl ?_
  refine ss_callV (As := [_]) (i := 105) dX8_bend_13 vlX8_222 clX8_findBends rfl rfl (by omega) (sh_r105 _ _) rfl (Nat.le_of_ble_eq_true rfl) (Nat.le_of_ble_eq_true rfl) (m_findBends hj hn h6) ?_
  refine ss_iconst (v := nI 1) dX8_bend_16 (by decide) ?_
  refine ss_isub dX8_bend_17 ?_
  refine ss_i2l dX8_bend_18 ?_
  refine ss_callS (As := [_, _, _]) dX8_bend_19 vlX8_89 clX8_within rfl rfl (Nat.le_of_ble_eq_true rfl) (Nat.le_of_ble_eq_true rfl) (m_within) ?_
  refine sy_if_ne 29 dX8_bend_22 (by decide) (fun c22 => ?_) (fun c22 => by first | exact kd_tf (by rw [wi_ix (nI_s1l (by have := bcn_le (rlv (Y 124) (vr Y j) n) n; omega))]; exact ix_of hi (by have := bcn_le (rlv (Y 124) (vr Y j) n) n; omega)) c22 | exact kd_ft (by rw [wi_ix (nI_s1l (by have := bcn_le (rlv (Y 124) (vr Y j) n) n; omega))]; exact ix_of hi (by have := bcn_le (rlv (Y 124) (vr Y j) n) n; omega)) c22 | exact absurd (by rw [wi_ix (nI_s1l (by have := bcn_le (rlv (Y 124) (vr Y j) n) n; omega))]; exact ix_of hi (by have := bcn_le (rlv (Y 124) (vr Y j) n) n; omega)) c22 | exact absurd c22 (by rw [wi_ix (nI_s1l (by have := bcn_le (rlv (Y 124) (vr Y j) n) n; omega))]; exact ix_of hi (by have := bcn_le (rlv (Y 124) (vr Y j) n) n; omega)))
  refine ss_iload_n dX8_bend_29 3 rfl ?_
  refine ss_i2l dX8_bend_30 ?_
  refine ss_lconst (v := 0) dX8_bend_31 (by decide) ?_
  refine ss_ldc2 dX8_bend_32 kcX8_97 ?_
  refine ss_callS (As := [_, _, _]) dX8_bend_35 vlX8_89 clX8_within rfl rfl (Nat.le_of_ble_eq_true rfl) (Nat.le_of_ble_eq_true rfl) (m_within) ?_
  refine sy_if_ne 45 dX8_bend_38 (by decide) (fun c38 => ?_) (fun c38 => by first | exact kd_tf (by rw [wi_ix (n := 4) rfl]; exact ix_of (by decide) (by decide)) c38 | exact kd_ft (by rw [wi_ix (n := 4) rfl]; exact ix_of (by decide) (by decide)) c38 | exact absurd (by rw [wi_ix (n := 4) rfl]; exact ix_of (by decide) (by decide)) c38 | exact absurd c38 (by rw [wi_ix (n := 4) rfl]; exact ix_of (by decide) (by decide)))
  refine ss_aload_n dX8_bend_45 0 rfl ?_
  refine ss_get (i := 105) dX8_bend_46 flX8_70 (by omega) (sh_r105 _ _) rfl ?_
  refine ss_aload_n dX8_bend_49 0 rfl ?_
  refine ss_get (i := 105) dX8_bend_50 flX8_67 (by omega) (sh_r105 _ _) rfl ?_
  refine ss_iload_n dX8_bend_53 2 rfl ?_
  refine ss_iconst (v := nI 1) dX8_bend_54 (by decide) ?_
  refine sz_iadd dX8_bend_55 ?_
  refine ss_iald (i := 123) dX8_bend_56 (by omega) (sh_r123) (by omega) (by decide) ?_
  rw [xcn_t (by omega)]
  refine ss_lald (i := 124) dX8_bend_57 (by omega) (sh_r124) (by omega) (by decide) ?_
  rw [srw_at]
  refine ss_aload_n dX8_bend_58 0 rfl ?_
  refine ss_get (i := 105) dX8_bend_59 flX8_70 (by omega) (sh_r105 _ _) rfl ?_
  refine ss_aload_n dX8_bend_62 0 rfl ?_
  refine ss_get (i := 105) dX8_bend_63 flX8_67 (by omega) (sh_r105 _ _) rfl ?_
  refine ss_iload_n dX8_bend_66 2 rfl ?_
  refine ss_iald (i := 123) dX8_bend_67 (by omega) (sh_r123) (by omega) (by decide) ?_
  rw [xcn_t (by omega)]
  refine ss_lald (i := 124) dX8_bend_68 (by omega) (sh_r124) (by omega) (by decide) ?_
  rw [srw_at]
  refine ss_lsub dX8_bend_69 ?_
  refine ss_lstore (lv' := [(4, _), (0, _), (1, _), (2, _), (3, _)]) dX8_bend_70 (by decide) rfl ?_
  refine ss_aload_n dX8_bend_72 1 rfl ?_
  refine ss_get (i := 105) dX8_bend_73 flX8_67 (by omega) (sh_r105 _ _) rfl ?_
  refine ss_iload_n dX8_bend_76 3 rfl ?_
  refine ss_iconst (v := nI 1) dX8_bend_77 (by decide) ?_
  refine sz_iadd dX8_bend_78 ?_
  refine ss_iald (i := 123) dX8_bend_79 (by omega) (sh_r123) (by omega) (by decide) ?_
  rw [xcn_t (by omega)]
  refine ss_aload_n dX8_bend_80 1 rfl ?_
  refine ss_get (i := 105) dX8_bend_81 flX8_67 (by omega) (sh_r105 _ _) rfl ?_
  refine ss_iload_n dX8_bend_84 3 rfl ?_
  refine ss_iald (i := 123) dX8_bend_85 (by omega) (sh_r123) (by omega) (by decide) ?_
  rw [xcn_t (by omega)]
  refine sz_isub dX8_bend_86 (by omega) ?_
  refine sz_i2l dX8_bend_87 (by omega) ?_
  refine ss_lstore (lv' := [(6, _), (4, _), (0, _), (1, _), (2, _), (3, _)]) dX8_bend_88 (by decide) rfl ?_
  refine ss_lload dX8_bend_90 1 rfl ?_
  refine ss_lload dX8_bend_92 0 rfl ?_
  refine ss_callS (As := [_, _]) dX8_bend_94 vlX8_120 clX8_common rfl rfl (Nat.le_of_ble_eq_true rfl) (Nat.le_of_ble_eq_true rfl) (m_common) ?_
  refine ss_lstore (lv' := [(8, _), (6, _), (4, _), (0, _), (1, _), (2, _), (3, _)]) dX8_bend_97 (by decide) rfl ?_
  refine ss_iload_n dX8_bend_99 6 rfl ?_
  refine sz_if_ne 111 dX8_bend_100 (by decide) (by omega) (fun c100 => by omega) (fun c100 => ?_)
  refine ss_lload dX8_bend_103 2 rfl ?_
  refine ss_lload dX8_bend_105 0 rfl ?_
  refine ss_ldiv dX8_bend_107 hg ?_
  refine ss_goto 148 dX8_bend_108 (by decide) ?_
  exact ss_lret dX8_bend_148 rfl (hQ)
set_option maxHeartbeats 1000000 in
set_option maxRecDepth 100000 in
theorem r_bend_1 {c : cx} {d : Nat} {X : nX} {Y : nY} {n : Nat} (hn : n ≤ 10) (h6 : X 105 0 = nI n) {m : Nat} (hm : m ≤ 12) (h7 : X 105 1 = nI m) {j : Nat} (hjm : j < m) {i : Nat} (hi : i < bcn (rlv (Y 124) (vr Y j) n) n) (hg : ¬ cmn ((rlv (Y 124) (vr Y j) n) (tno (rlv (Y 124) (vr Y j) n) n (i + 1)) - (rlv (Y 124) (vr Y j) n) (tno (rlv (Y 124) (vr Y j) n) n i)) (lN ((tno (rlv (Y 124) (vr Y j) n) n (i + 1)) - (tno (rlv (Y 124) (vr Y j) n) n i))) = 0) : sc c mX8_bend (d + 4) [.ref (c_ad c 105), .int (nI j), .int (nI i), .int (nI 1)] (X) (Y) (some (.long ((lN ((tno (rlv (Y 124) (vr Y j) n) n (i + 1)) - (tno (rlv (Y 124) (vr Y j) n) n i))) / cmn ((rlv (Y 124) (vr Y j) n) (tno (rlv (Y 124) (vr Y j) n) n (i + 1)) - (rlv (Y 124) (vr Y j) n) (tno (rlv (Y 124) (vr Y j) n) n i)) (lN ((tno (rlv (Y 124) (vr Y j) n) n (i + 1)) - (tno (rlv (Y 124) (vr Y j) n) n i)))))) (xcn X (tno (rlv (Y 124) (vr Y j) n) n) (bcn (rlv (Y 124) (vr Y j) n) n)) (srw Y 124 (rlv (Y 124) (vr Y j) n)) := by
  intro Q hQ
  show ss c mX8_bend (d + 4) Q 0 [(0, .ref (c_ad c 105)), (1, .int (nI j)), (2, .int (nI i)), (3, .int (nI 1))] [] (X) (Y)
  have hj : j < 12 := by omega
  have hwj : ix (nI j) m = true := ix_of hjm (by omega)
  have hbl := bcn_le (rlv (Y 124) (vr Y j) n) n
  have htl := tno_lt hi
  have htm := tno_mono (R := (rlv (Y 124) (vr Y j) n)) (n := n) (i := i)
  have hte := tno_le (rlv (Y 124) (vr Y j) n) htl
  refine ss_aload_n dX8_bend_0 0 rfl ?_
  refine ss_iload_n dX8_bend_1 1 rfl ?_
  refine ss_callV (As := [_]) (i := 105) dX8_bend_2 vlX8_157 clX8_isWorth rfl rfl (by omega) (sh_r105 _ _) rfl (Nat.le_of_ble_eq_true rfl) (Nat.le_of_ble_eq_true rfl) (m_isWorth hm h7) ?_
  refine sy_if_eq 25 dX8_bend_5 (by decide) (fun c5 => by first | exact kd_tf (hwj) c5 | exact kd_ft (hwj) c5 | exact absurd (hwj) c5 | exact absurd c5 (hwj)) (fun c5 => ?_)
  refine ss_iload_n dX8_bend_8 2 rfl ?_
  refine ss_i2l dX8_bend_9 ?_
  refine ss_lconst (v := 0) dX8_bend_10 (by decide) ?_
  refine ss_aload_n dX8_bend_11 0 rfl ?_
  refine ss_iload_n dX8_bend_12 1 rfl ?_
  refine ss_callV (As := [_]) (i := 105) dX8_bend_13 vlX8_222 clX8_findBends rfl rfl (by omega) (sh_r105 _ _) rfl (Nat.le_of_ble_eq_true rfl) (Nat.le_of_ble_eq_true rfl) (m_findBends hj hn h6) ?_
  refine ss_iconst (v := nI 1) dX8_bend_16 (by decide) ?_
  refine ss_isub dX8_bend_17 ?_
  refine ss_i2l dX8_bend_18 ?_
  refine ss_callS (As := [_, _, _]) dX8_bend_19 vlX8_89 clX8_within rfl rfl (Nat.le_of_ble_eq_true rfl) (Nat.le_of_ble_eq_true rfl) (m_within) ?_
  refine sy_if_ne 29 dX8_bend_22 (by decide) (fun c22 => ?_) (fun c22 => by first | exact kd_tf (by rw [wi_ix (nI_s1l (by have := bcn_le (rlv (Y 124) (vr Y j) n) n; omega))]; exact ix_of hi (by have := bcn_le (rlv (Y 124) (vr Y j) n) n; omega)) c22 | exact kd_ft (by rw [wi_ix (nI_s1l (by have := bcn_le (rlv (Y 124) (vr Y j) n) n; omega))]; exact ix_of hi (by have := bcn_le (rlv (Y 124) (vr Y j) n) n; omega)) c22 | exact absurd (by rw [wi_ix (nI_s1l (by have := bcn_le (rlv (Y 124) (vr Y j) n) n; omega))]; exact ix_of hi (by have := bcn_le (rlv (Y 124) (vr Y j) n) n; omega)) c22 | exact absurd c22 (by rw [wi_ix (nI_s1l (by have := bcn_le (rlv (Y 124) (vr Y j) n) n; omega))]; exact ix_of hi (by have := bcn_le (rlv (Y 124) (vr Y j) n) n; omega)))
  refine ss_iload_n dX8_bend_29 3 rfl ?_
  refine ss_i2l dX8_bend_30 ?_
  refine ss_lconst (v := 0) dX8_bend_31 (by decide) ?_
  refine ss_ldc2 dX8_bend_32 kcX8_97 ?_
  refine ss_callS (As := [_, _, _]) dX8_bend_35 vlX8_89 clX8_within rfl rfl (Nat.le_of_ble_eq_true rfl) (Nat.le_of_ble_eq_true rfl) (m_within) ?_
  refine sy_if_ne 45 dX8_bend_38 (by decide) (fun c38 => ?_) (fun c38 => by first | exact kd_tf (by rw [wi_ix (n := 4) rfl]; exact ix_of (by decide) (by decide)) c38 | exact kd_ft (by rw [wi_ix (n := 4) rfl]; exact ix_of (by decide) (by decide)) c38 | exact absurd (by rw [wi_ix (n := 4) rfl]; exact ix_of (by decide) (by decide)) c38 | exact absurd c38 (by rw [wi_ix (n := 4) rfl]; exact ix_of (by decide) (by decide)))
  refine ss_aload_n dX8_bend_45 0 rfl ?_
  refine ss_get (i := 105) dX8_bend_46 flX8_70 (by omega) (sh_r105 _ _) rfl ?_
  refine ss_aload_n dX8_bend_49 0 rfl ?_
  refine ss_get (i := 105) dX8_bend_50 flX8_67 (by omega) (sh_r105 _ _) rfl ?_
  refine ss_iload_n dX8_bend_53 2 rfl ?_
  refine ss_iconst (v := nI 1) dX8_bend_54 (by decide) ?_
  refine sz_iadd dX8_bend_55 ?_
  refine ss_iald (i := 123) dX8_bend_56 (by omega) (sh_r123) (by omega) (by decide) ?_
  rw [xcn_t (by omega)]
  refine ss_lald (i := 124) dX8_bend_57 (by omega) (sh_r124) (by omega) (by decide) ?_
  rw [srw_at]
  refine ss_aload_n dX8_bend_58 0 rfl ?_
  refine ss_get (i := 105) dX8_bend_59 flX8_70 (by omega) (sh_r105 _ _) rfl ?_
  refine ss_aload_n dX8_bend_62 0 rfl ?_
  refine ss_get (i := 105) dX8_bend_63 flX8_67 (by omega) (sh_r105 _ _) rfl ?_
  refine ss_iload_n dX8_bend_66 2 rfl ?_
  refine ss_iald (i := 123) dX8_bend_67 (by omega) (sh_r123) (by omega) (by decide) ?_
  rw [xcn_t (by omega)]
  refine ss_lald (i := 124) dX8_bend_68 (by omega) (sh_r124) (by omega) (by decide) ?_
  rw [srw_at]
  refine ss_lsub dX8_bend_69 ?_
  refine ss_lstore (lv' := [(4, _), (0, _), (1, _), (2, _), (3, _)]) dX8_bend_70 (by decide) rfl ?_
  refine ss_aload_n dX8_bend_72 1 rfl ?_
  refine ss_get (i := 105) dX8_bend_73 flX8_67 (by omega) (sh_r105 _ _) rfl ?_
  refine ss_iload_n dX8_bend_76 3 rfl ?_
  refine ss_iconst (v := nI 1) dX8_bend_77 (by decide) ?_
  refine sz_iadd dX8_bend_78 ?_
  refine ss_iald (i := 123) dX8_bend_79 (by omega) (sh_r123) (by omega) (by decide) ?_
  rw [xcn_t (by omega)]
  refine ss_aload_n dX8_bend_80 1 rfl ?_
  refine ss_get (i := 105) dX8_bend_81 flX8_67 (by omega) (sh_r105 _ _) rfl ?_
  refine ss_iload_n dX8_bend_84 3 rfl ?_
  refine ss_iald (i := 123) dX8_bend_85 (by omega) (sh_r123) (by omega) (by decide) ?_
  rw [xcn_t (by omega)]
  refine sz_isub dX8_bend_86 (by omega) ?_
  refine sz_i2l dX8_bend_87 (by omega) ?_
  refine ss_lstore (lv' := [(6, _), (4, _), (0, _), (1, _), (2, _), (3, _)]) dX8_bend_88 (by decide) rfl ?_
  refine ss_lload dX8_bend_90 1 rfl ?_
  refine ss_lload dX8_bend_92 0 rfl ?_
  refine ss_callS (As := [_, _]) dX8_bend_94 vlX8_120 clX8_common rfl rfl (Nat.le_of_ble_eq_true rfl) (Nat.le_of_ble_eq_true rfl) (m_common) ?_
  refine ss_lstore (lv' := [(8, _), (6, _), (4, _), (0, _), (1, _), (2, _), (3, _)]) dX8_bend_97 (by decide) rfl ?_
  refine ss_iload_n dX8_bend_99 6 rfl ?_
  refine sz_if_ne 111 dX8_bend_100 (by decide) (by omega) (fun c100 => ?_) (fun c100 => by omega)
  refine ss_iload_n dX8_bend_111 6 rfl ?_
  refine ss_iconst (v := nI 1) dX8_bend_112 (by decide) ?_
  refine sz_icmp_ne 124 dX8_bend_113 (by decide) (by omega) (by omega) (fun c113 => by omega) (fun c113 => ?_)
  refine ss_lload dX8_bend_116 1 rfl ?_
  refine ss_lload dX8_bend_118 0 rfl ?_
  refine ss_ldiv dX8_bend_120 hg ?_
  refine ss_goto 148 dX8_bend_121 (by decide) ?_
  exact ss_lret dX8_bend_148 rfl (hQ)
set_option maxHeartbeats 1000000 in
set_option maxRecDepth 100000 in
theorem r_bend_2 {c : cx} {d : Nat} {X : nX} {Y : nY} {n : Nat} (hn : n ≤ 10) (h6 : X 105 0 = nI n) {m : Nat} (hm : m ≤ 12) (h7 : X 105 1 = nI m) {j : Nat} (hjm : j < m) {i : Nat} (hi : i < bcn (rlv (Y 124) (vr Y j) n) n) : sc c mX8_bend (d + 4) [.ref (c_ad c 105), .int (nI j), .int (nI i), .int (nI 2)] (X) (Y) (some (.long (lN (tno (rlv (Y 124) (vr Y j) n) n i)))) (xcn X (tno (rlv (Y 124) (vr Y j) n) n) (bcn (rlv (Y 124) (vr Y j) n) n)) (srw Y 124 (rlv (Y 124) (vr Y j) n)) := by
  intro Q hQ
  show ss c mX8_bend (d + 4) Q 0 [(0, .ref (c_ad c 105)), (1, .int (nI j)), (2, .int (nI i)), (3, .int (nI 2))] [] (X) (Y)
  have hj : j < 12 := by omega
  have hwj : ix (nI j) m = true := ix_of hjm (by omega)
  have hbl := bcn_le (rlv (Y 124) (vr Y j) n) n
  have htl := tno_lt hi
  have htm := tno_mono (R := (rlv (Y 124) (vr Y j) n)) (n := n) (i := i)
  have hte := tno_le (rlv (Y 124) (vr Y j) n) htl
  refine ss_aload_n dX8_bend_0 0 rfl ?_
  refine ss_iload_n dX8_bend_1 1 rfl ?_
  refine ss_callV (As := [_]) (i := 105) dX8_bend_2 vlX8_157 clX8_isWorth rfl rfl (by omega) (sh_r105 _ _) rfl (Nat.le_of_ble_eq_true rfl) (Nat.le_of_ble_eq_true rfl) (m_isWorth hm h7) ?_
  refine sy_if_eq 25 dX8_bend_5 (by decide) (fun c5 => by first | exact kd_tf (hwj) c5 | exact kd_ft (hwj) c5 | exact absurd (hwj) c5 | exact absurd c5 (hwj)) (fun c5 => ?_)
  refine ss_iload_n dX8_bend_8 2 rfl ?_
  refine ss_i2l dX8_bend_9 ?_
  refine ss_lconst (v := 0) dX8_bend_10 (by decide) ?_
  refine ss_aload_n dX8_bend_11 0 rfl ?_
  refine ss_iload_n dX8_bend_12 1 rfl ?_
  refine ss_callV (As := [_]) (i := 105) dX8_bend_13 vlX8_222 clX8_findBends rfl rfl (by omega) (sh_r105 _ _) rfl (Nat.le_of_ble_eq_true rfl) (Nat.le_of_ble_eq_true rfl) (m_findBends hj hn h6) ?_
  refine ss_iconst (v := nI 1) dX8_bend_16 (by decide) ?_
  refine ss_isub dX8_bend_17 ?_
  refine ss_i2l dX8_bend_18 ?_
  refine ss_callS (As := [_, _, _]) dX8_bend_19 vlX8_89 clX8_within rfl rfl (Nat.le_of_ble_eq_true rfl) (Nat.le_of_ble_eq_true rfl) (m_within) ?_
  refine sy_if_ne 29 dX8_bend_22 (by decide) (fun c22 => ?_) (fun c22 => by first | exact kd_tf (by rw [wi_ix (nI_s1l (by have := bcn_le (rlv (Y 124) (vr Y j) n) n; omega))]; exact ix_of hi (by have := bcn_le (rlv (Y 124) (vr Y j) n) n; omega)) c22 | exact kd_ft (by rw [wi_ix (nI_s1l (by have := bcn_le (rlv (Y 124) (vr Y j) n) n; omega))]; exact ix_of hi (by have := bcn_le (rlv (Y 124) (vr Y j) n) n; omega)) c22 | exact absurd (by rw [wi_ix (nI_s1l (by have := bcn_le (rlv (Y 124) (vr Y j) n) n; omega))]; exact ix_of hi (by have := bcn_le (rlv (Y 124) (vr Y j) n) n; omega)) c22 | exact absurd c22 (by rw [wi_ix (nI_s1l (by have := bcn_le (rlv (Y 124) (vr Y j) n) n; omega))]; exact ix_of hi (by have := bcn_le (rlv (Y 124) (vr Y j) n) n; omega)))
  refine ss_iload_n dX8_bend_29 3 rfl ?_
  refine ss_i2l dX8_bend_30 ?_
  refine ss_lconst (v := 0) dX8_bend_31 (by decide) ?_
  refine ss_ldc2 dX8_bend_32 kcX8_97 ?_
  refine ss_callS (As := [_, _, _]) dX8_bend_35 vlX8_89 clX8_within rfl rfl (Nat.le_of_ble_eq_true rfl) (Nat.le_of_ble_eq_true rfl) (m_within) ?_
  refine sy_if_ne 45 dX8_bend_38 (by decide) (fun c38 => ?_) (fun c38 => by first | exact kd_tf (by rw [wi_ix (n := 4) rfl]; exact ix_of (by decide) (by decide)) c38 | exact kd_ft (by rw [wi_ix (n := 4) rfl]; exact ix_of (by decide) (by decide)) c38 | exact absurd (by rw [wi_ix (n := 4) rfl]; exact ix_of (by decide) (by decide)) c38 | exact absurd c38 (by rw [wi_ix (n := 4) rfl]; exact ix_of (by decide) (by decide)))
  refine ss_aload_n dX8_bend_45 0 rfl ?_
  refine ss_get (i := 105) dX8_bend_46 flX8_70 (by omega) (sh_r105 _ _) rfl ?_
  refine ss_aload_n dX8_bend_49 0 rfl ?_
  refine ss_get (i := 105) dX8_bend_50 flX8_67 (by omega) (sh_r105 _ _) rfl ?_
  refine ss_iload_n dX8_bend_53 2 rfl ?_
  refine ss_iconst (v := nI 1) dX8_bend_54 (by decide) ?_
  refine sz_iadd dX8_bend_55 ?_
  refine ss_iald (i := 123) dX8_bend_56 (by omega) (sh_r123) (by omega) (by decide) ?_
  rw [xcn_t (by omega)]
  refine ss_lald (i := 124) dX8_bend_57 (by omega) (sh_r124) (by omega) (by decide) ?_
  rw [srw_at]
  refine ss_aload_n dX8_bend_58 0 rfl ?_
  refine ss_get (i := 105) dX8_bend_59 flX8_70 (by omega) (sh_r105 _ _) rfl ?_
  refine ss_aload_n dX8_bend_62 0 rfl ?_
  refine ss_get (i := 105) dX8_bend_63 flX8_67 (by omega) (sh_r105 _ _) rfl ?_
  refine ss_iload_n dX8_bend_66 2 rfl ?_
  refine ss_iald (i := 123) dX8_bend_67 (by omega) (sh_r123) (by omega) (by decide) ?_
  rw [xcn_t (by omega)]
  refine ss_lald (i := 124) dX8_bend_68 (by omega) (sh_r124) (by omega) (by decide) ?_
  rw [srw_at]
  refine ss_lsub dX8_bend_69 ?_
  refine ss_lstore (lv' := [(4, _), (0, _), (1, _), (2, _), (3, _)]) dX8_bend_70 (by decide) rfl ?_
  refine ss_aload_n dX8_bend_72 1 rfl ?_
  refine ss_get (i := 105) dX8_bend_73 flX8_67 (by omega) (sh_r105 _ _) rfl ?_
  refine ss_iload_n dX8_bend_76 3 rfl ?_
  refine ss_iconst (v := nI 1) dX8_bend_77 (by decide) ?_
  refine sz_iadd dX8_bend_78 ?_
  refine ss_iald (i := 123) dX8_bend_79 (by omega) (sh_r123) (by omega) (by decide) ?_
  rw [xcn_t (by omega)]
  refine ss_aload_n dX8_bend_80 1 rfl ?_
  refine ss_get (i := 105) dX8_bend_81 flX8_67 (by omega) (sh_r105 _ _) rfl ?_
  refine ss_iload_n dX8_bend_84 3 rfl ?_
  refine ss_iald (i := 123) dX8_bend_85 (by omega) (sh_r123) (by omega) (by decide) ?_
  rw [xcn_t (by omega)]
  refine sz_isub dX8_bend_86 (by omega) ?_
  refine sz_i2l dX8_bend_87 (by omega) ?_
  refine ss_lstore (lv' := [(6, _), (4, _), (0, _), (1, _), (2, _), (3, _)]) dX8_bend_88 (by decide) rfl ?_
  refine ss_lload dX8_bend_90 1 rfl ?_
  refine ss_lload dX8_bend_92 0 rfl ?_
  refine ss_callS (As := [_, _]) dX8_bend_94 vlX8_120 clX8_common rfl rfl (Nat.le_of_ble_eq_true rfl) (Nat.le_of_ble_eq_true rfl) (m_common) ?_
  refine ss_lstore (lv' := [(8, _), (6, _), (4, _), (0, _), (1, _), (2, _), (3, _)]) dX8_bend_97 (by decide) rfl ?_
  refine ss_iload_n dX8_bend_99 6 rfl ?_
  refine sz_if_ne 111 dX8_bend_100 (by decide) (by omega) (fun c100 => ?_) (fun c100 => by omega)
  refine ss_iload_n dX8_bend_111 6 rfl ?_
  refine ss_iconst (v := nI 1) dX8_bend_112 (by decide) ?_
  refine sz_icmp_ne 124 dX8_bend_113 (by decide) (by omega) (by omega) (fun c113 => ?_) (fun c113 => by omega)
  refine ss_iload_n dX8_bend_124 6 rfl ?_
  refine ss_iconst (v := nI 2) dX8_bend_125 (by decide) ?_
  refine sz_icmp_ne 139 dX8_bend_126 (by decide) (by omega) (by omega) (fun c126 => by omega) (fun c126 => ?_)
  refine ss_aload_n dX8_bend_129 3 rfl ?_
  refine ss_get (i := 105) dX8_bend_130 flX8_67 (by omega) (sh_r105 _ _) rfl ?_
  refine ss_iload_n dX8_bend_133 5 rfl ?_
  refine ss_iald (i := 123) dX8_bend_134 (by omega) (sh_r123) (by omega) (by decide) ?_
  rw [xcn_t (by omega)]
  refine sz_i2l dX8_bend_135 (by omega) ?_
  refine ss_goto 148 dX8_bend_136 (by decide) ?_
  exact ss_lret dX8_bend_148 rfl (hQ)
set_option maxHeartbeats 1000000 in
set_option maxRecDepth 100000 in
theorem r_bend_3 {c : cx} {d : Nat} {X : nX} {Y : nY} {n : Nat} (hn : n ≤ 10) (h6 : X 105 0 = nI n) {m : Nat} (hm : m ≤ 12) (h7 : X 105 1 = nI m) {j : Nat} (hjm : j < m) {i : Nat} (hi : i < bcn (rlv (Y 124) (vr Y j) n) n) : sc c mX8_bend (d + 4) [.ref (c_ad c 105), .int (nI j), .int (nI i), .int (nI 3)] (X) (Y) (some (.long (lN (tno (rlv (Y 124) (vr Y j) n) n (i + 1))))) (xcn X (tno (rlv (Y 124) (vr Y j) n) n) (bcn (rlv (Y 124) (vr Y j) n) n)) (srw Y 124 (rlv (Y 124) (vr Y j) n)) := by
  intro Q hQ
  show ss c mX8_bend (d + 4) Q 0 [(0, .ref (c_ad c 105)), (1, .int (nI j)), (2, .int (nI i)), (3, .int (nI 3))] [] (X) (Y)
  have hj : j < 12 := by omega
  have hwj : ix (nI j) m = true := ix_of hjm (by omega)
  have hbl := bcn_le (rlv (Y 124) (vr Y j) n) n
  have htl := tno_lt hi
  have htm := tno_mono (R := (rlv (Y 124) (vr Y j) n)) (n := n) (i := i)
  have hte := tno_le (rlv (Y 124) (vr Y j) n) htl
  refine ss_aload_n dX8_bend_0 0 rfl ?_
  refine ss_iload_n dX8_bend_1 1 rfl ?_
  refine ss_callV (As := [_]) (i := 105) dX8_bend_2 vlX8_157 clX8_isWorth rfl rfl (by omega) (sh_r105 _ _) rfl (Nat.le_of_ble_eq_true rfl) (Nat.le_of_ble_eq_true rfl) (m_isWorth hm h7) ?_
  refine sy_if_eq 25 dX8_bend_5 (by decide) (fun c5 => by first | exact kd_tf (hwj) c5 | exact kd_ft (hwj) c5 | exact absurd (hwj) c5 | exact absurd c5 (hwj)) (fun c5 => ?_)
  refine ss_iload_n dX8_bend_8 2 rfl ?_
  refine ss_i2l dX8_bend_9 ?_
  refine ss_lconst (v := 0) dX8_bend_10 (by decide) ?_
  refine ss_aload_n dX8_bend_11 0 rfl ?_
  refine ss_iload_n dX8_bend_12 1 rfl ?_
  refine ss_callV (As := [_]) (i := 105) dX8_bend_13 vlX8_222 clX8_findBends rfl rfl (by omega) (sh_r105 _ _) rfl (Nat.le_of_ble_eq_true rfl) (Nat.le_of_ble_eq_true rfl) (m_findBends hj hn h6) ?_
  refine ss_iconst (v := nI 1) dX8_bend_16 (by decide) ?_
  refine ss_isub dX8_bend_17 ?_
  refine ss_i2l dX8_bend_18 ?_
  refine ss_callS (As := [_, _, _]) dX8_bend_19 vlX8_89 clX8_within rfl rfl (Nat.le_of_ble_eq_true rfl) (Nat.le_of_ble_eq_true rfl) (m_within) ?_
  refine sy_if_ne 29 dX8_bend_22 (by decide) (fun c22 => ?_) (fun c22 => by first | exact kd_tf (by rw [wi_ix (nI_s1l (by have := bcn_le (rlv (Y 124) (vr Y j) n) n; omega))]; exact ix_of hi (by have := bcn_le (rlv (Y 124) (vr Y j) n) n; omega)) c22 | exact kd_ft (by rw [wi_ix (nI_s1l (by have := bcn_le (rlv (Y 124) (vr Y j) n) n; omega))]; exact ix_of hi (by have := bcn_le (rlv (Y 124) (vr Y j) n) n; omega)) c22 | exact absurd (by rw [wi_ix (nI_s1l (by have := bcn_le (rlv (Y 124) (vr Y j) n) n; omega))]; exact ix_of hi (by have := bcn_le (rlv (Y 124) (vr Y j) n) n; omega)) c22 | exact absurd c22 (by rw [wi_ix (nI_s1l (by have := bcn_le (rlv (Y 124) (vr Y j) n) n; omega))]; exact ix_of hi (by have := bcn_le (rlv (Y 124) (vr Y j) n) n; omega)))
  refine ss_iload_n dX8_bend_29 3 rfl ?_
  refine ss_i2l dX8_bend_30 ?_
  refine ss_lconst (v := 0) dX8_bend_31 (by decide) ?_
  refine ss_ldc2 dX8_bend_32 kcX8_97 ?_
  refine ss_callS (As := [_, _, _]) dX8_bend_35 vlX8_89 clX8_within rfl rfl (Nat.le_of_ble_eq_true rfl) (Nat.le_of_ble_eq_true rfl) (m_within) ?_
  refine sy_if_ne 45 dX8_bend_38 (by decide) (fun c38 => ?_) (fun c38 => by first | exact kd_tf (by rw [wi_ix (n := 4) rfl]; exact ix_of (by decide) (by decide)) c38 | exact kd_ft (by rw [wi_ix (n := 4) rfl]; exact ix_of (by decide) (by decide)) c38 | exact absurd (by rw [wi_ix (n := 4) rfl]; exact ix_of (by decide) (by decide)) c38 | exact absurd c38 (by rw [wi_ix (n := 4) rfl]; exact ix_of (by decide) (by decide)))
  refine ss_aload_n dX8_bend_45 0 rfl ?_
  refine ss_get (i := 105) dX8_bend_46 flX8_70 (by omega) (sh_r105 _ _) rfl ?_
  refine ss_aload_n dX8_bend_49 0 rfl ?_
  refine ss_get (i := 105) dX8_bend_50 flX8_67 (by omega) (sh_r105 _ _) rfl ?_
  refine ss_iload_n dX8_bend_53 2 rfl ?_
  refine ss_iconst (v := nI 1) dX8_bend_54 (by decide) ?_
  refine sz_iadd dX8_bend_55 ?_
  refine ss_iald (i := 123) dX8_bend_56 (by omega) (sh_r123) (by omega) (by decide) ?_
  rw [xcn_t (by omega)]
  refine ss_lald (i := 124) dX8_bend_57 (by omega) (sh_r124) (by omega) (by decide) ?_
  rw [srw_at]
  refine ss_aload_n dX8_bend_58 0 rfl ?_
  refine ss_get (i := 105) dX8_bend_59 flX8_70 (by omega) (sh_r105 _ _) rfl ?_
  refine ss_aload_n dX8_bend_62 0 rfl ?_
  refine ss_get (i := 105) dX8_bend_63 flX8_67 (by omega) (sh_r105 _ _) rfl ?_
  refine ss_iload_n dX8_bend_66 2 rfl ?_
  refine ss_iald (i := 123) dX8_bend_67 (by omega) (sh_r123) (by omega) (by decide) ?_
  rw [xcn_t (by omega)]
  refine ss_lald (i := 124) dX8_bend_68 (by omega) (sh_r124) (by omega) (by decide) ?_
  rw [srw_at]
  refine ss_lsub dX8_bend_69 ?_
  refine ss_lstore (lv' := [(4, _), (0, _), (1, _), (2, _), (3, _)]) dX8_bend_70 (by decide) rfl ?_
  refine ss_aload_n dX8_bend_72 1 rfl ?_
  refine ss_get (i := 105) dX8_bend_73 flX8_67 (by omega) (sh_r105 _ _) rfl ?_
  refine ss_iload_n dX8_bend_76 3 rfl ?_
  refine ss_iconst (v := nI 1) dX8_bend_77 (by decide) ?_
  refine sz_iadd dX8_bend_78 ?_
  refine ss_iald (i := 123) dX8_bend_79 (by omega) (sh_r123) (by omega) (by decide) ?_
  rw [xcn_t (by omega)]
  refine ss_aload_n dX8_bend_80 1 rfl ?_
  refine ss_get (i := 105) dX8_bend_81 flX8_67 (by omega) (sh_r105 _ _) rfl ?_
  refine ss_iload_n dX8_bend_84 3 rfl ?_
  refine ss_iald (i := 123) dX8_bend_85 (by omega) (sh_r123) (by omega) (by decide) ?_
  rw [xcn_t (by omega)]
  refine sz_isub dX8_bend_86 (by omega) ?_
  refine sz_i2l dX8_bend_87 (by omega) ?_
  refine ss_lstore (lv' := [(6, _), (4, _), (0, _), (1, _), (2, _), (3, _)]) dX8_bend_88 (by decide) rfl ?_
  refine ss_lload dX8_bend_90 1 rfl ?_
  refine ss_lload dX8_bend_92 0 rfl ?_
  refine ss_callS (As := [_, _]) dX8_bend_94 vlX8_120 clX8_common rfl rfl (Nat.le_of_ble_eq_true rfl) (Nat.le_of_ble_eq_true rfl) (m_common) ?_
  refine ss_lstore (lv' := [(8, _), (6, _), (4, _), (0, _), (1, _), (2, _), (3, _)]) dX8_bend_97 (by decide) rfl ?_
  refine ss_iload_n dX8_bend_99 6 rfl ?_
  refine sz_if_ne 111 dX8_bend_100 (by decide) (by omega) (fun c100 => ?_) (fun c100 => by omega)
  refine ss_iload_n dX8_bend_111 6 rfl ?_
  refine ss_iconst (v := nI 1) dX8_bend_112 (by decide) ?_
  refine sz_icmp_ne 124 dX8_bend_113 (by decide) (by omega) (by omega) (fun c113 => ?_) (fun c113 => by omega)
  refine ss_iload_n dX8_bend_124 6 rfl ?_
  refine ss_iconst (v := nI 2) dX8_bend_125 (by decide) ?_
  refine sz_icmp_ne 139 dX8_bend_126 (by decide) (by omega) (by omega) (fun c126 => ?_) (fun c126 => by omega)
  refine ss_aload_n dX8_bend_139 3 rfl ?_
  refine ss_get (i := 105) dX8_bend_140 flX8_67 (by omega) (sh_r105 _ _) rfl ?_
  refine ss_iload_n dX8_bend_143 5 rfl ?_
  refine ss_iconst (v := nI 1) dX8_bend_144 (by decide) ?_
  refine sz_iadd dX8_bend_145 ?_
  refine ss_iald (i := 123) dX8_bend_146 (by omega) (sh_r123) (by omega) (by decide) ?_
  rw [xcn_t (by omega)]
  refine sz_i2l dX8_bend_147 (by omega) ?_
  exact ss_lret dX8_bend_148 rfl (hQ)
set_option maxHeartbeats 1000000 in
set_option maxRecDepth 100000 in
theorem r_order_u {c : cx} {d : Nat} {X : nX} {Y : nY} {n : Nat} (hn : n ≤ 10) (h6 : X 105 0 = nI n) {t i : Int32} (hu : ix t n = false) : sc c mX8_order (d + 2) [.ref (c_ad c 105), .int t, .int i] (X) (Y) (some (.int (-1001))) (X) (Y) := by
  intro Q hQ
  show ss c mX8_order (d + 2) Q 0 [(0, .ref (c_ad c 105)), (1, .int t), (2, .int i)] [] (X) (Y)
  refine ss_aload_n dX8_order_0 0 rfl ?_
  refine ss_iload_n dX8_order_1 1 rfl ?_
  refine ss_callV (As := [_]) (i := 105) dX8_order_2 vlX8_180 clX8_isThing rfl rfl (by omega) (sh_r105 _ _) rfl (Nat.le_of_ble_eq_true rfl) (Nat.le_of_ble_eq_true rfl) (m_isThing hn h6) ?_
  refine sy_if_ne 12 dX8_order_5 (by decide) (fun c5 => by first | exact kd_tf (hu) c5 | exact kd_ft (hu) c5 | exact absurd (hu) c5 | exact absurd c5 (hu)) (fun c5 => ?_)
  refine ss_sipush (v := -1001) dX8_order_8 (by decide) ?_
  exact ss_iret dX8_order_11 rfl rfl (hQ)
set_option maxHeartbeats 1000000 in
set_option maxRecDepth 100000 in
theorem r_order_o {c : cx} {d : Nat} {X : nX} {Y : nY} {n : Nat} (hn : n ≤ 10) (h6 : X 105 0 = nI n) {t i : Int32} (ht : ix t n = true) (hi : ix i n = false) : sc c mX8_order (d + 2) [.ref (c_ad c 105), .int t, .int i] (X) (Y) (some (.int (-1002))) (X) (Y) := by
  intro Q hQ
  show ss c mX8_order (d + 2) Q 0 [(0, .ref (c_ad c 105)), (1, .int t), (2, .int i)] [] (X) (Y)
  refine ss_aload_n dX8_order_0 0 rfl ?_
  refine ss_iload_n dX8_order_1 1 rfl ?_
  refine ss_callV (As := [_]) (i := 105) dX8_order_2 vlX8_180 clX8_isThing rfl rfl (by omega) (sh_r105 _ _) rfl (Nat.le_of_ble_eq_true rfl) (Nat.le_of_ble_eq_true rfl) (m_isThing hn h6) ?_
  refine sy_if_ne 12 dX8_order_5 (by decide) (fun c5 => ?_) (fun c5 => by first | exact kd_tf (ht) c5 | exact kd_ft (ht) c5 | exact absurd (ht) c5 | exact absurd c5 (ht))
  refine ss_iload_n dX8_order_12 2 rfl ?_
  refine ss_i2l dX8_order_13 ?_
  refine ss_lconst (v := 0) dX8_order_14 (by decide) ?_
  refine ss_aload_n dX8_order_15 0 rfl ?_
  refine ss_get (i := 105) dX8_order_16 flX8_80 (by omega) (sh_r105 _ _) rfl ?_
  rw [h6]
  refine ss_iconst (v := nI 1) dX8_order_19 (by decide) ?_
  refine ss_isub dX8_order_20 ?_
  refine ss_i2l dX8_order_21 ?_
  refine ss_callS (As := [_, _, _]) dX8_order_22 vlX8_89 clX8_within rfl rfl (Nat.le_of_ble_eq_true rfl) (Nat.le_of_ble_eq_true rfl) (m_within) ?_
  refine sy_if_ne 32 dX8_order_25 (by decide) (fun c25 => by first | exact kd_tf (by rw [wi_ix (nI_s1l (by omega))]; exact hi) c25 | exact kd_ft (by rw [wi_ix (nI_s1l (by omega))]; exact hi) c25 | exact absurd (by rw [wi_ix (nI_s1l (by omega))]; exact hi) c25 | exact absurd c25 (by rw [wi_ix (nI_s1l (by omega))]; exact hi)) (fun c25 => ?_)
  refine ss_sipush (v := -1002) dX8_order_28 (by decide) ?_
  exact ss_iret dX8_order_31 rfl rfl (hQ)
set_option maxHeartbeats 1000000 in
set_option maxRecDepth 100000 in
theorem r_order_k {c : cx} {d : Nat} {X : nX} {Y : nY} {n : Nat} (hn : n ≤ 10) (h6 : X 105 0 = nI n) {t : Nat} (ht : t < n) {q b : Nat} (hq : q < n) (hb0 : b < 10) (hfb : X 117 b = nI t) (hlt : ∀ j, j < b → ¬ X 117 j = nI t) : sc c mX8_order (d + 2) [.ref (c_ad c 105), .int (nI t), .int (nI q)] (X) (Y) (some (.int (nI b))) (ymv X b q (nI t)) (Y) := by
  intro Q hQ
  show ss c mX8_order (d + 2) Q 0 [(0, .ref (c_ad c 105)), (1, .int (nI t)), (2, .int (nI q))] [] (X) (Y)
  have ht9 : ix (nI t) n = true := ix_of ht (by omega)
  refine ss_aload_n dX8_order_0 0 rfl ?_
  refine ss_iload_n dX8_order_1 1 rfl ?_
  refine ss_callV (As := [_]) (i := 105) dX8_order_2 vlX8_180 clX8_isThing rfl rfl (by omega) (sh_r105 _ _) rfl (Nat.le_of_ble_eq_true rfl) (Nat.le_of_ble_eq_true rfl) (m_isThing hn h6) ?_
  refine sy_if_ne 12 dX8_order_5 (by decide) (fun c5 => ?_) (fun c5 => by first | exact kd_tf (ht9) c5 | exact kd_ft (ht9) c5 | exact absurd (ht9) c5 | exact absurd c5 (ht9))
  refine ss_iload_n dX8_order_12 2 rfl ?_
  refine ss_i2l dX8_order_13 ?_
  refine ss_lconst (v := 0) dX8_order_14 (by decide) ?_
  refine ss_aload_n dX8_order_15 0 rfl ?_
  refine ss_get (i := 105) dX8_order_16 flX8_80 (by omega) (sh_r105 _ _) rfl ?_
  rw [h6]
  refine ss_iconst (v := nI 1) dX8_order_19 (by decide) ?_
  refine ss_isub dX8_order_20 ?_
  refine ss_i2l dX8_order_21 ?_
  refine ss_callS (As := [_, _, _]) dX8_order_22 vlX8_89 clX8_within rfl rfl (Nat.le_of_ble_eq_true rfl) (Nat.le_of_ble_eq_true rfl) (m_within) ?_
  refine sy_if_ne 32 dX8_order_25 (by decide) (fun c25 => ?_) (fun c25 => by first | exact kd_tf (by rw [wi_ix (nI_s1l (by omega))]; exact ix_of hq (by omega)) c25 | exact kd_ft (by rw [wi_ix (nI_s1l (by omega))]; exact ix_of hq (by omega)) c25 | exact absurd (by rw [wi_ix (nI_s1l (by omega))]; exact ix_of hq (by omega)) c25 | exact absurd c25 (by rw [wi_ix (nI_s1l (by omega))]; exact ix_of hq (by omega)))
  refine ss_iconst (v := nI 0) dX8_order_32 (by decide) ?_
  refine ss_istore_n (lv' := [(3, _), (0, _), (1, _), (2, _)]) dX8_order_33 (by decide) rfl ?_
  refine l_order0 hb0 hfb hlt ?_ b 0 (by omega)
  refine ss_iload_n dX8_order_50 0 rfl ?_
  refine ss_istore (lv' := [(4, _), (3, _), (0, _), (1, _), (2, _)]) dX8_order_51 (by decide) rfl ?_
  exact l_order hb0 (by omega) hQ
set_option maxHeartbeats 1000000 in
set_option maxRecDepth 100000 in
theorem r_shareOf_b {c : cx} {d : Nat} {X : nX} {Y : nY}  : sc c mX8_shareOf (d + 2) [.ref (c_ad c 105), .int (-1)] (X) (Y) (some (.long (Y 105 15))) (X) (Y) := by
  intro Q hQ
  show ss c mX8_shareOf (d + 2) Q 0 [(0, .ref (c_ad c 105)), (1, .int (-1))] [] (X) (Y)
  refine ss_iload_n dX8_shareOf_0 1 rfl ?_
  refine ss_iconst (v := -1) dX8_shareOf_1 (by decide) ?_
  refine ss_icmp_ne 12 dX8_shareOf_2 (by decide) (fun c2 => by first | exact kd_tf (rfl) c2 | exact kd_ft (rfl) c2 | exact absurd (rfl) c2 | exact absurd c2 (rfl)) (fun c2 => ?_)
  refine ss_aload_n dX8_shareOf_5 0 rfl ?_
  refine ss_get (i := 105) dX8_shareOf_6 flX8_51 (by omega) (sh_r105 _ _) rfl ?_
  refine ss_goto 32 dX8_shareOf_9 (by decide) ?_
  exact ss_lret dX8_shareOf_32 rfl (hQ)
set_option maxHeartbeats 1000000 in
set_option maxRecDepth 100000 in
theorem r_shareOf_u {c : cx} {d : Nat} {X : nX} {Y : nY} {n : Nat} (hn : n ≤ 10) (h6 : X 105 0 = nI n) {t : Int32} (h1 : ¬ t = -1) (ht : ix t n = false) : sc c mX8_shareOf (d + 2) [.ref (c_ad c 105), .int t] (X) (Y) (some (.long (-1001))) (X) (Y) := by
  intro Q hQ
  show ss c mX8_shareOf (d + 2) Q 0 [(0, .ref (c_ad c 105)), (1, .int t)] [] (X) (Y)
  refine ss_iload_n dX8_shareOf_0 1 rfl ?_
  refine ss_iconst (v := -1) dX8_shareOf_1 (by decide) ?_
  refine ss_icmp_ne 12 dX8_shareOf_2 (by decide) (fun c2 => ?_) (fun c2 => by first | exact kd_tf (h1) c2 | exact kd_ft (h1) c2 | exact absurd (h1) c2 | exact absurd c2 (h1))
  refine ss_aload_n dX8_shareOf_12 0 rfl ?_
  refine ss_iload_n dX8_shareOf_13 1 rfl ?_
  refine ss_callV (As := [_]) (i := 105) dX8_shareOf_14 vlX8_180 clX8_isThing rfl rfl (by omega) (sh_r105 _ _) rfl (Nat.le_of_ble_eq_true rfl) (Nat.le_of_ble_eq_true rfl) (m_isThing hn h6) ?_
  refine sy_if_eq 29 dX8_shareOf_17 (by decide) (fun c17 => ?_) (fun c17 => by first | exact kd_tf (ht) c17 | exact kd_ft (ht) c17 | exact absurd (ht) c17 | exact absurd c17 (ht))
  refine ss_ldc2 dX8_shareOf_29 kcX8_108 ?_
  exact ss_lret dX8_shareOf_32 rfl (hQ)
set_option maxHeartbeats 1000000 in
set_option maxRecDepth 100000 in
theorem r_shareOf_k {c : cx} {d : Nat} {X : nX} {Y : nY} {n : Nat} (hn : n ≤ 10) (h6 : X 105 0 = nI n) {t : Nat} (ht : t < n) : sc c mX8_shareOf (d + 2) [.ref (c_ad c 105), .int (nI t)] (X) (Y) (some (.long (Y 118 t))) (X) (Y) := by
  intro Q hQ
  show ss c mX8_shareOf (d + 2) Q 0 [(0, .ref (c_ad c 105)), (1, .int (nI t))] [] (X) (Y)
  have ht9 : ix (nI t) n = true := ix_of ht (by omega)
  refine ss_iload_n dX8_shareOf_0 1 rfl ?_
  refine ss_iconst (v := -1) dX8_shareOf_1 (by decide) ?_
  refine ss_icmp_ne 12 dX8_shareOf_2 (by decide) (fun c2 => ?_) (fun c2 => by first | exact kd_tf (by intro h9; have h8 := congrArg Int32.toInt h9; rw [nI_toInt (by omega)] at h8; have h0 : (-1 : Int32).toInt = -1 := rfl; omega) c2 | exact kd_ft (by intro h9; have h8 := congrArg Int32.toInt h9; rw [nI_toInt (by omega)] at h8; have h0 : (-1 : Int32).toInt = -1 := rfl; omega) c2 | exact absurd (by intro h9; have h8 := congrArg Int32.toInt h9; rw [nI_toInt (by omega)] at h8; have h0 : (-1 : Int32).toInt = -1 := rfl; omega) c2 | exact absurd c2 (by intro h9; have h8 := congrArg Int32.toInt h9; rw [nI_toInt (by omega)] at h8; have h0 : (-1 : Int32).toInt = -1 := rfl; omega))
  refine ss_aload_n dX8_shareOf_12 0 rfl ?_
  refine ss_iload_n dX8_shareOf_13 1 rfl ?_
  refine ss_callV (As := [_]) (i := 105) dX8_shareOf_14 vlX8_180 clX8_isThing rfl rfl (by omega) (sh_r105 _ _) rfl (Nat.le_of_ble_eq_true rfl) (Nat.le_of_ble_eq_true rfl) (m_isThing hn h6) ?_
  refine sy_if_eq 29 dX8_shareOf_17 (by decide) (fun c17 => by first | exact kd_tf (ht9) c17 | exact kd_ft (ht9) c17 | exact absurd (ht9) c17 | exact absurd c17 (ht9)) (fun c17 => ?_)
  refine ss_aload_n dX8_shareOf_20 0 rfl ?_
  refine ss_get (i := 105) dX8_shareOf_21 flX8_48 (by omega) (sh_r105 _ _) rfl ?_
  refine ss_iload_n dX8_shareOf_24 1 rfl ?_
  refine ss_lald (i := 118) dX8_shareOf_25 (by omega) (sh_r118) (by omega) (by decide) ?_
  refine ss_goto 32 dX8_shareOf_26 (by decide) ?_
  exact ss_lret dX8_shareOf_32 rfl (hQ)
set_option maxHeartbeats 1000000 in
set_option maxRecDepth 100000 in
theorem r_share_u {c : cx} {d : Nat} {X : nX} {Y : nY} {n : Nat} (hn : n ≤ 10) (h6 : X 105 0 = nI n) {t : Int32} {v : Int64} (ht : ix t n = false) : sc c mX8_share (d + 2) [.ref (c_ad c 105), .int t, .long v] (X) (Y) (some (.long (-1001))) (X) (Y) := by
  intro Q hQ
  show ss c mX8_share (d + 2) Q 0 [(0, .ref (c_ad c 105)), (1, .int t), (2, .long v)] [] (X) (Y)
  refine ss_aload_n dX8_share_0 0 rfl ?_
  refine ss_iload_n dX8_share_1 1 rfl ?_
  refine ss_callV (As := [_]) (i := 105) dX8_share_2 vlX8_180 clX8_isThing rfl rfl (by omega) (sh_r105 _ _) rfl (Nat.le_of_ble_eq_true rfl) (Nat.le_of_ble_eq_true rfl) (m_isThing hn h6) ?_
  refine sy_if_ne 12 dX8_share_5 (by decide) (fun c5 => by first | exact kd_tf (ht) c5 | exact kd_ft (ht) c5 | exact absurd (ht) c5 | exact absurd c5 (ht)) (fun c5 => ?_)
  refine ss_ldc2 dX8_share_8 kcX8_108 ?_
  exact ss_lret dX8_share_11 rfl (hQ)
set_option maxHeartbeats 1000000 in
set_option maxRecDepth 100000 in
theorem r_share_o {c : cx} {d : Nat} {X : nX} {Y : nY} {n : Nat} (hn : n ≤ 10) (h6 : X 105 0 = nI n) {t : Int32} {v : Int64} (ht : ix t n = true) (hv : wi v (-1000000000000) 1000000000000 = false) : sc c mX8_share (d + 2) [.ref (c_ad c 105), .int t, .long v] (X) (Y) (some (.long (-1002))) (X) (Y) := by
  intro Q hQ
  show ss c mX8_share (d + 2) Q 0 [(0, .ref (c_ad c 105)), (1, .int t), (2, .long v)] [] (X) (Y)
  refine ss_aload_n dX8_share_0 0 rfl ?_
  refine ss_iload_n dX8_share_1 1 rfl ?_
  refine ss_callV (As := [_]) (i := 105) dX8_share_2 vlX8_180 clX8_isThing rfl rfl (by omega) (sh_r105 _ _) rfl (Nat.le_of_ble_eq_true rfl) (Nat.le_of_ble_eq_true rfl) (m_isThing hn h6) ?_
  refine sy_if_ne 12 dX8_share_5 (by decide) (fun c5 => ?_) (fun c5 => by first | exact kd_tf (ht) c5 | exact kd_ft (ht) c5 | exact absurd (ht) c5 | exact absurd c5 (ht))
  refine ss_lload_n dX8_share_12 2 rfl ?_
  refine ss_ldc2 dX8_share_13 kcX8_232 ?_
  refine ss_ldc2 dX8_share_16 kcX8_150 ?_
  refine ss_callS (As := [_, _, _]) dX8_share_19 vlX8_89 clX8_within rfl rfl (Nat.le_of_ble_eq_true rfl) (Nat.le_of_ble_eq_true rfl) (m_within) ?_
  refine sy_if_ne 29 dX8_share_22 (by decide) (fun c22 => by first | exact kd_tf (hv) c22 | exact kd_ft (hv) c22 | exact absurd (hv) c22 | exact absurd c22 (hv)) (fun c22 => ?_)
  refine ss_ldc2 dX8_share_25 kcX8_110 ?_
  exact ss_lret dX8_share_28 rfl (hQ)
set_option maxHeartbeats 1000000 in
set_option maxRecDepth 100000 in
theorem r_share_k {c : cx} {d : Nat} {X : nX} {Y : nY} {n : Nat} (hn : n ≤ 10) (h6 : X 105 0 = nI n) {t : Nat} (ht : t < n) {v : Int64} (hv : wi v (-1000000000000) 1000000000000 = true) : sc c mX8_share (d + 2) [.ref (c_ad c 105), .int (nI t), .long v] (X) (Y) (some (.long (Y 118 t))) (X) (upl Y 118 t v) := by
  intro Q hQ
  show ss c mX8_share (d + 2) Q 0 [(0, .ref (c_ad c 105)), (1, .int (nI t)), (2, .long v)] [] (X) (Y)
  have ht9 : ix (nI t) n = true := ix_of ht (by omega)
  refine ss_aload_n dX8_share_0 0 rfl ?_
  refine ss_iload_n dX8_share_1 1 rfl ?_
  refine ss_callV (As := [_]) (i := 105) dX8_share_2 vlX8_180 clX8_isThing rfl rfl (by omega) (sh_r105 _ _) rfl (Nat.le_of_ble_eq_true rfl) (Nat.le_of_ble_eq_true rfl) (m_isThing hn h6) ?_
  refine sy_if_ne 12 dX8_share_5 (by decide) (fun c5 => ?_) (fun c5 => by first | exact kd_tf (ht9) c5 | exact kd_ft (ht9) c5 | exact absurd (ht9) c5 | exact absurd c5 (ht9))
  refine ss_lload_n dX8_share_12 2 rfl ?_
  refine ss_ldc2 dX8_share_13 kcX8_232 ?_
  refine ss_ldc2 dX8_share_16 kcX8_150 ?_
  refine ss_callS (As := [_, _, _]) dX8_share_19 vlX8_89 clX8_within rfl rfl (Nat.le_of_ble_eq_true rfl) (Nat.le_of_ble_eq_true rfl) (m_within) ?_
  refine sy_if_ne 29 dX8_share_22 (by decide) (fun c22 => ?_) (fun c22 => by first | exact kd_tf (hv) c22 | exact kd_ft (hv) c22 | exact absurd (hv) c22 | exact absurd c22 (hv))
  refine ss_aload_n dX8_share_29 0 rfl ?_
  refine ss_get (i := 105) dX8_share_30 flX8_48 (by omega) (sh_r105 _ _) rfl ?_
  refine ss_iload_n dX8_share_33 1 rfl ?_
  refine ss_lald (i := 118) dX8_share_34 (by omega) (sh_r118) (by omega) (by decide) ?_
  refine ss_lstore (lv' := [(4, _), (0, _), (1, _), (2, _)]) dX8_share_35 (by decide) rfl ?_
  refine ss_aload_n dX8_share_37 1 rfl ?_
  refine ss_get (i := 105) dX8_share_38 flX8_48 (by omega) (sh_r105 _ _) rfl ?_
  refine ss_iload_n dX8_share_41 2 rfl ?_
  refine ss_lload_n dX8_share_42 3 rfl ?_
  refine ss_last (i := 118) dX8_share_43 (by omega) (sh_r118) (by omega) (by decide) ?_
  refine ss_lload dX8_share_44 0 rfl ?_
  exact ss_lret dX8_share_46 rfl (hQ)
