set_option maxHeartbeats 4000000 in
set_option maxRecDepth 100000 in
theorem c_kind_u {c : cx} {d : Nat} {X : nX} {Y : nY} {m : Nat} (hm : m ≤ 12) (h7 : X 0 7 = nI m) {w : Int32} (hw : ix w m = false)  : sc c mX7_kind (d + 2) [.ref (c_ad c 0), .int w] (X) (Y) (some (.int (-1001))) (X) (Y) := by
  intro Q hQ
  show ss c mX7_kind (d + 2) Q 0 [(0, .ref (c_ad c 0)), (1, .int w)] [] (X) (Y)
  refine ss_aload_n dX7_kind_0 0 rfl ?_
  refine ss_iload_n dX7_kind_1 1 rfl ?_
  refine ss_callV (As := [_]) (i := 0) dX7_kind_2 vlX7_113 clX7_isWorth rfl rfl (by omega) (sh_r0 _ _) rfl (Nat.le_of_ble_eq_true rfl) (Nat.le_of_ble_eq_true rfl) (q_isWorth hm h7) ?_
  refine sy_if_ne 12 dX7_kind_5 (by decide) (fun c5 => by first | exact kd_tf (hw) c5 | exact kd_ft (hw) c5 | exact absurd (hw) c5 | exact absurd c5 (hw)) (fun c5 => ?_)
  refine ss_sipush (v := -1001) dX7_kind_8 (by decide) ?_
  exact ss_iret dX7_kind_11 rfl rfl (hQ)
set_option maxHeartbeats 4000000 in
set_option maxRecDepth 100000 in
theorem c_falls_u {c : cx} {d : Nat} {X : nX} {Y : nY} {m : Nat} (hm : m ≤ 12) (h7 : X 0 7 = nI m) {w : Int32} (hw : ix w m = false)  : sc c mX7_falls (d + 3) [.ref (c_ad c 0), .int w] (X) (Y) (some (.int (-1001))) (X) (Y) := by
  intro Q hQ
  show ss c mX7_falls (d + 3) Q 0 [(0, .ref (c_ad c 0)), (1, .int w)] [] (X) (Y)
  refine ss_aload_n dX7_falls_0 0 rfl ?_
  refine ss_iload_n dX7_falls_1 1 rfl ?_
  refine ss_callV (As := [_]) (i := 0) dX7_falls_2 vlX7_113 clX7_isWorth rfl rfl (by omega) (sh_r0 _ _) rfl (Nat.le_of_ble_eq_true rfl) (Nat.le_of_ble_eq_true rfl) (q_isWorth hm h7) ?_
  refine sy_if_ne 12 dX7_falls_5 (by decide) (fun c5 => by first | exact kd_tf (hw) c5 | exact kd_ft (hw) c5 | exact absurd (hw) c5 | exact absurd c5 (hw)) (fun c5 => ?_)
  refine ss_sipush (v := -1001) dX7_falls_8 (by decide) ?_
  exact ss_iret dX7_falls_11 rfl rfl (hQ)
set_option maxHeartbeats 4000000 in
set_option maxRecDepth 100000 in
theorem c_least_u {c : cx} {d : Nat} {X : nX} {Y : nY} {m : Nat} (hm : m ≤ 12) (h7 : X 0 7 = nI m) {w : Int32} (hw : ix w m = false)  : sc c mX7_least (d + 2) [.ref (c_ad c 0), .int w] (X) (Y) (some (.long (-1001))) (X) (Y) := by
  intro Q hQ
  show ss c mX7_least (d + 2) Q 0 [(0, .ref (c_ad c 0)), (1, .int w)] [] (X) (Y)
  refine ss_aload_n dX7_least_0 0 rfl ?_
  refine ss_iload_n dX7_least_1 1 rfl ?_
  refine ss_callV (As := [_]) (i := 0) dX7_least_2 vlX7_113 clX7_isWorth rfl rfl (by omega) (sh_r0 _ _) rfl (Nat.le_of_ble_eq_true rfl) (Nat.le_of_ble_eq_true rfl) (q_isWorth hm h7) ?_
  refine sy_if_ne 12 dX7_least_5 (by decide) (fun c5 => by first | exact kd_tf (hw) c5 | exact kd_ft (hw) c5 | exact absurd (hw) c5 | exact absurd c5 (hw)) (fun c5 => ?_)
  refine ss_ldc2 dX7_least_8 kcX7_90 ?_
  exact ss_lret dX7_least_11 rfl (hQ)
set_option maxHeartbeats 4000000 in
set_option maxRecDepth 100000 in
theorem c_one_u {c : cx} {d : Nat} {X : nX} {Y : nY} {m : Nat} (hm : m ≤ 12) (h7 : X 0 7 = nI m) {w : Int32} (hw : ix w m = false) {i : Int32} : sc c mX7_one (d + 3) [.ref (c_ad c 0), .int w, .int i] (X) (Y) (some (.int (-1001))) (X) (Y) := by
  intro Q hQ
  show ss c mX7_one (d + 3) Q 0 [(0, .ref (c_ad c 0)), (1, .int w), (2, .int i)] [] (X) (Y)
  refine ss_aload_n dX7_one_0 0 rfl ?_
  refine ss_iload_n dX7_one_1 1 rfl ?_
  refine ss_callV (As := [_]) (i := 0) dX7_one_2 vlX7_113 clX7_isWorth rfl rfl (by omega) (sh_r0 _ _) rfl (Nat.le_of_ble_eq_true rfl) (Nat.le_of_ble_eq_true rfl) (q_isWorth hm h7) ?_
  refine sy_if_ne 12 dX7_one_5 (by decide) (fun c5 => by first | exact kd_tf (hw) c5 | exact kd_ft (hw) c5 | exact absurd (hw) c5 | exact absurd c5 (hw)) (fun c5 => ?_)
  refine ss_sipush (v := -1001) dX7_one_8 (by decide) ?_
  exact ss_iret dX7_one_11 rfl rfl (hQ)
set_option maxHeartbeats 4000000 in
set_option maxRecDepth 100000 in
theorem c_bends_u {c : cx} {d : Nat} {X : nX} {Y : nY} {m : Nat} (hm : m ≤ 12) (h7 : X 0 7 = nI m) {w : Int32} (hw : ix w m = false)  : sc c mX7_bends (d + 2) [.ref (c_ad c 0), .int w] (X) (Y) (some (.int (-1001))) (X) (Y) := by
  intro Q hQ
  show ss c mX7_bends (d + 2) Q 0 [(0, .ref (c_ad c 0)), (1, .int w)] [] (X) (Y)
  refine ss_aload_n dX7_bends_0 0 rfl ?_
  refine ss_iload_n dX7_bends_1 1 rfl ?_
  refine ss_callV (As := [_]) (i := 0) dX7_bends_2 vlX7_113 clX7_isWorth rfl rfl (by omega) (sh_r0 _ _) rfl (Nat.le_of_ble_eq_true rfl) (Nat.le_of_ble_eq_true rfl) (q_isWorth hm h7) ?_
  refine sy_if_ne 12 dX7_bends_5 (by decide) (fun c5 => by first | exact kd_tf (hw) c5 | exact kd_ft (hw) c5 | exact absurd (hw) c5 | exact absurd c5 (hw)) (fun c5 => ?_)
  refine ss_sipush (v := -1001) dX7_bends_8 (by decide) ?_
  exact ss_iret dX7_bends_11 rfl rfl (hQ)
set_option maxHeartbeats 4000000 in
set_option maxRecDepth 100000 in
theorem c_corner_u {c : cx} {d : Nat} {X : nX} {Y : nY} {m : Nat} (hm : m ≤ 12) (h7 : X 0 7 = nI m) {w : Int32} (hw : ix w m = false)  : sc c mX7_corner (d + 2) [.ref (c_ad c 0), .int w] (X) (Y) (some (.int (-1001))) (X) (Y) := by
  intro Q hQ
  show ss c mX7_corner (d + 2) Q 0 [(0, .ref (c_ad c 0)), (1, .int w)] [] (X) (Y)
  refine ss_aload_n dX7_corner_0 0 rfl ?_
  refine ss_iload_n dX7_corner_1 1 rfl ?_
  refine ss_callV (As := [_]) (i := 0) dX7_corner_2 vlX7_113 clX7_isWorth rfl rfl (by omega) (sh_r0 _ _) rfl (Nat.le_of_ble_eq_true rfl) (Nat.le_of_ble_eq_true rfl) (q_isWorth hm h7) ?_
  refine sy_if_ne 12 dX7_corner_5 (by decide) (fun c5 => by first | exact kd_tf (hw) c5 | exact kd_ft (hw) c5 | exact absurd (hw) c5 | exact absurd c5 (hw)) (fun c5 => ?_)
  refine ss_sipush (v := -1001) dX7_corner_8 (by decide) ?_
  exact ss_iret dX7_corner_11 rfl rfl (hQ)
set_option maxHeartbeats 4000000 in
set_option maxRecDepth 100000 in
theorem c_in_u {c : cx} {d : Nat} {X : nX} {Y : nY} {m : Nat} (hm : m ≤ 12) (h7 : X 0 7 = nI m) {w : Int32} (hw : ix w m = false)  : sc c mX7_in (d + 3) [.ref (c_ad c 0), .int w] (X) (Y) (some (.int (-1001))) (X) (Y) := by
  intro Q hQ
  show ss c mX7_in (d + 3) Q 0 [(0, .ref (c_ad c 0)), (1, .int w)] [] (X) (Y)
  refine ss_aload_n dX7_in_0 0 rfl ?_
  refine ss_iload_n dX7_in_1 1 rfl ?_
  refine ss_callV (As := [_]) (i := 0) dX7_in_2 vlX7_113 clX7_isWorth rfl rfl (by omega) (sh_r0 _ _) rfl (Nat.le_of_ble_eq_true rfl) (Nat.le_of_ble_eq_true rfl) (q_isWorth hm h7) ?_
  refine sy_if_ne 12 dX7_in_5 (by decide) (fun c5 => by first | exact kd_tf (hw) c5 | exact kd_ft (hw) c5 | exact absurd (hw) c5 | exact absurd c5 (hw)) (fun c5 => ?_)
  refine ss_sipush (v := -1001) dX7_in_8 (by decide) ?_
  exact ss_iret dX7_in_11 rfl rfl (hQ)
set_option maxHeartbeats 4000000 in
set_option maxRecDepth 100000 in
theorem c_proves_u {c : cx} {d : Nat} {X : nX} {Y : nY} {m : Nat} (hm : m ≤ 12) (h7 : X 0 7 = nI m) {w : Int32} (hw : ix w m = false)  : sc c mX7_proves (d + 4) [.ref (c_ad c 0), .int w] (X) (Y) (some (.int (-1001))) (X) (Y) := by
  intro Q hQ
  show ss c mX7_proves (d + 4) Q 0 [(0, .ref (c_ad c 0)), (1, .int w)] [] (X) (Y)
  refine ss_aload_n dX7_proves_0 0 rfl ?_
  refine ss_iload_n dX7_proves_1 1 rfl ?_
  refine ss_callV (As := [_]) (i := 0) dX7_proves_2 vlX7_113 clX7_isWorth rfl rfl (by omega) (sh_r0 _ _) rfl (Nat.le_of_ble_eq_true rfl) (Nat.le_of_ble_eq_true rfl) (q_isWorth hm h7) ?_
  refine sy_if_ne 12 dX7_proves_5 (by decide) (fun c5 => by first | exact kd_tf (hw) c5 | exact kd_ft (hw) c5 | exact absurd (hw) c5 | exact absurd c5 (hw)) (fun c5 => ?_)
  refine ss_sipush (v := -1001) dX7_proves_8 (by decide) ?_
  exact ss_iret dX7_proves_11 rfl rfl (hQ)
set_option maxHeartbeats 4000000 in
set_option maxRecDepth 100000 in
theorem c_greed_u {c : cx} {d : Nat} {X : nX} {Y : nY} {m : Nat} (hm : m ≤ 12) (h7 : X 0 7 = nI m) {w : Int32} (hw : ix w m = false) {i : Int32} : sc c mX7_greed (d + 3) [.ref (c_ad c 0), .int w, .int i] (X) (Y) (some (.int (-1001))) (X) (Y) := by
  intro Q hQ
  show ss c mX7_greed (d + 3) Q 0 [(0, .ref (c_ad c 0)), (1, .int w), (2, .int i)] [] (X) (Y)
  refine ss_aload_n dX7_greed_0 0 rfl ?_
  refine ss_iload_n dX7_greed_1 1 rfl ?_
  refine ss_callV (As := [_]) (i := 0) dX7_greed_2 vlX7_113 clX7_isWorth rfl rfl (by omega) (sh_r0 _ _) rfl (Nat.le_of_ble_eq_true rfl) (Nat.le_of_ble_eq_true rfl) (q_isWorth hm h7) ?_
  refine sy_if_ne 12 dX7_greed_5 (by decide) (fun c5 => by first | exact kd_tf (hw) c5 | exact kd_ft (hw) c5 | exact absurd (hw) c5 | exact absurd c5 (hw)) (fun c5 => ?_)
  refine ss_sipush (v := -1001) dX7_greed_8 (by decide) ?_
  exact ss_iret dX7_greed_11 rfl rfl (hQ)
set_option maxHeartbeats 4000000 in
set_option maxRecDepth 100000 in
theorem c_best_u {c : cx} {d : Nat} {X : nX} {Y : nY} {m : Nat} (hm : m ≤ 12) (h7 : X 0 7 = nI m) {w : Int32} (hw : ix w m = false) {i : Int32} : sc c mX7_best (d + 2) [.ref (c_ad c 0), .int w, .int i] (X) (Y) (some (.long (-1001))) (X) (Y) := by
  intro Q hQ
  show ss c mX7_best (d + 2) Q 0 [(0, .ref (c_ad c 0)), (1, .int w), (2, .int i)] [] (X) (Y)
  refine ss_aload_n dX7_best_0 0 rfl ?_
  refine ss_iload_n dX7_best_1 1 rfl ?_
  refine ss_callV (As := [_]) (i := 0) dX7_best_2 vlX7_113 clX7_isWorth rfl rfl (by omega) (sh_r0 _ _) rfl (Nat.le_of_ble_eq_true rfl) (Nat.le_of_ble_eq_true rfl) (q_isWorth hm h7) ?_
  refine sy_if_ne 12 dX7_best_5 (by decide) (fun c5 => by first | exact kd_tf (hw) c5 | exact kd_ft (hw) c5 | exact absurd (hw) c5 | exact absurd c5 (hw)) (fun c5 => ?_)
  refine ss_ldc2 dX7_best_8 kcX7_90 ?_
  exact ss_lret dX7_best_11 rfl (hQ)
set_option maxHeartbeats 4000000 in
set_option maxRecDepth 100000 in
theorem c_why_u {c : cx} {d : Nat} {X : nX} {Y : nY} {m : Nat} (hm : m ≤ 12) (h7 : X 0 7 = nI m) {w : Int32} (hw : ix w m = false) {i : Int32} : sc c mX7_why (d + 3) [.ref (c_ad c 0), .int w, .int i] (X) (Y) (some (.int (-1001))) (X) (Y) := by
  intro Q hQ
  show ss c mX7_why (d + 3) Q 0 [(0, .ref (c_ad c 0)), (1, .int w), (2, .int i)] [] (X) (Y)
  refine ss_aload_n dX7_why_0 0 rfl ?_
  refine ss_iload_n dX7_why_1 1 rfl ?_
  refine ss_callV (As := [_]) (i := 0) dX7_why_2 vlX7_113 clX7_isWorth rfl rfl (by omega) (sh_r0 _ _) rfl (Nat.le_of_ble_eq_true rfl) (Nat.le_of_ble_eq_true rfl) (q_isWorth hm h7) ?_
  refine sy_if_ne 12 dX7_why_5 (by decide) (fun c5 => by first | exact kd_tf (hw) c5 | exact kd_ft (hw) c5 | exact absurd (hw) c5 | exact absurd c5 (hw)) (fun c5 => ?_)
  refine ss_sipush (v := -1001) dX7_why_8 (by decide) ?_
  exact ss_iret dX7_why_11 rfl rfl (hQ)
set_option maxHeartbeats 4000000 in
set_option maxRecDepth 100000 in
theorem c_all_u {c : cx} {d : Nat} {X : nX} {Y : nY} {m : Nat} (hm : m ≤ 12) (h7 : X 0 7 = nI m) {w : Int32} (hw : ix w m = false) {i : Int32} : sc c mX7_all (d + 3) [.ref (c_ad c 0), .int w, .int i] (X) (Y) (some (.int (-1001))) (X) (Y) := by
  intro Q hQ
  show ss c mX7_all (d + 3) Q 0 [(0, .ref (c_ad c 0)), (1, .int w), (2, .int i)] [] (X) (Y)
  refine ss_aload_n dX7_all_0 0 rfl ?_
  refine ss_iload_n dX7_all_1 1 rfl ?_
  refine ss_callV (As := [_]) (i := 0) dX7_all_2 vlX7_113 clX7_isWorth rfl rfl (by omega) (sh_r0 _ _) rfl (Nat.le_of_ble_eq_true rfl) (Nat.le_of_ble_eq_true rfl) (q_isWorth hm h7) ?_
  refine sy_if_ne 12 dX7_all_5 (by decide) (fun c5 => by first | exact kd_tf (hw) c5 | exact kd_ft (hw) c5 | exact absurd (hw) c5 | exact absurd c5 (hw)) (fun c5 => ?_)
  refine ss_sipush (v := -1001) dX7_all_8 (by decide) ?_
  exact ss_iret dX7_all_11 rfl rfl (hQ)
set_option maxHeartbeats 4000000 in
set_option maxRecDepth 100000 in
theorem c_level_u {c : cx} {d : Nat} {X : nX} {Y : nY} {m : Nat} (hm : m ≤ 12) (h7 : X 0 7 = nI m) {w : Int32} (hw : ix w m = false) {i : Int32} : sc c mX7_level (d + 2) [.ref (c_ad c 0), .int w, .int i] (X) (Y) (some (.long (-1001))) (X) (Y) := by
  intro Q hQ
  show ss c mX7_level (d + 2) Q 0 [(0, .ref (c_ad c 0)), (1, .int w), (2, .int i)] [] (X) (Y)
  refine ss_aload_n dX7_level_0 0 rfl ?_
  refine ss_iload_n dX7_level_1 1 rfl ?_
  refine ss_callV (As := [_]) (i := 0) dX7_level_2 vlX7_113 clX7_isWorth rfl rfl (by omega) (sh_r0 _ _) rfl (Nat.le_of_ble_eq_true rfl) (Nat.le_of_ble_eq_true rfl) (q_isWorth hm h7) ?_
  refine sy_if_ne 12 dX7_level_5 (by decide) (fun c5 => by first | exact kd_tf (hw) c5 | exact kd_ft (hw) c5 | exact absurd (hw) c5 | exact absurd c5 (hw)) (fun c5 => ?_)
  refine ss_ldc2 dX7_level_8 kcX7_90 ?_
  exact ss_lret dX7_level_11 rfl (hQ)
set_option maxHeartbeats 4000000 in
set_option maxRecDepth 100000 in
theorem c_bend_u {c : cx} {d : Nat} {X : nX} {Y : nY} {m : Nat} (hm : m ≤ 12) (h7 : X 0 7 = nI m) {w : Int32} (hw : ix w m = false) {i : Int32} {q : Int32} : sc c mX7_bend (d + 3) [.ref (c_ad c 0), .int w, .int i, .int q] (X) (Y) (some (.long (-1001))) (X) (Y) := by
  intro Q hQ
  show ss c mX7_bend (d + 3) Q 0 [(0, .ref (c_ad c 0)), (1, .int w), (2, .int i), (3, .int q)] [] (X) (Y)
  refine ss_aload_n dX7_bend_0 0 rfl ?_
  refine ss_iload_n dX7_bend_1 1 rfl ?_
  refine ss_callV (As := [_]) (i := 0) dX7_bend_2 vlX7_113 clX7_isWorth rfl rfl (by omega) (sh_r0 _ _) rfl (Nat.le_of_ble_eq_true rfl) (Nat.le_of_ble_eq_true rfl) (q_isWorth hm h7) ?_
  refine sy_if_ne 12 dX7_bend_5 (by decide) (fun c5 => by first | exact kd_tf (hw) c5 | exact kd_ft (hw) c5 | exact absurd (hw) c5 | exact absurd c5 (hw)) (fun c5 => ?_)
  refine ss_ldc2 dX7_bend_8 kcX7_90 ?_
  exact ss_lret dX7_bend_11 rfl (hQ)
set_option maxHeartbeats 4000000 in
set_option maxRecDepth 100000 in
theorem c_mix_u {c : cx} {d : Nat} {X : nX} {Y : nY} {m : Nat} (hm : m ≤ 12) (h7 : X 0 7 = nI m) {w : Int32} (hw : ix w m = false) {i : Int32} {q : Int32} : sc c mX7_mix (d + 3) [.ref (c_ad c 0), .int w, .int i, .int q] (X) (Y) (some (.int (-1001))) (X) (Y) := by
  intro Q hQ
  show ss c mX7_mix (d + 3) Q 0 [(0, .ref (c_ad c 0)), (1, .int w), (2, .int i), (3, .int q)] [] (X) (Y)
  refine ss_aload_n dX7_mix_0 0 rfl ?_
  refine ss_iload_n dX7_mix_1 1 rfl ?_
  refine ss_callV (As := [_]) (i := 0) dX7_mix_2 vlX7_113 clX7_isWorth rfl rfl (by omega) (sh_r0 _ _) rfl (Nat.le_of_ble_eq_true rfl) (Nat.le_of_ble_eq_true rfl) (q_isWorth hm h7) ?_
  refine sy_if_ne 12 dX7_mix_5 (by decide) (fun c5 => by first | exact kd_tf (hw) c5 | exact kd_ft (hw) c5 | exact absurd (hw) c5 | exact absurd c5 (hw)) (fun c5 => ?_)
  refine ss_sipush (v := -1001) dX7_mix_8 (by decide) ?_
  exact ss_iret dX7_mix_11 rfl rfl (hQ)
set_option maxHeartbeats 4000000 in
set_option maxRecDepth 100000 in
theorem c_rise_u {c : cx} {d : Nat} {X : nX} {Y : nY} {m : Nat} (hm : m ≤ 12) (h7 : X 0 7 = nI m) {w : Int32} (hw : ix w m = false) {i : Int32} : sc c mX7_rise (d + 2) [.ref (c_ad c 0), .int w, .int i] (X) (Y) (some (.int (-1001))) (X) (Y) := by
  intro Q hQ
  show ss c mX7_rise (d + 2) Q 0 [(0, .ref (c_ad c 0)), (1, .int w), (2, .int i)] [] (X) (Y)
  refine ss_aload_n dX7_rise_0 0 rfl ?_
  refine ss_iload_n dX7_rise_1 1 rfl ?_
  refine ss_callV (As := [_]) (i := 0) dX7_rise_2 vlX7_113 clX7_isWorth rfl rfl (by omega) (sh_r0 _ _) rfl (Nat.le_of_ble_eq_true rfl) (Nat.le_of_ble_eq_true rfl) (q_isWorth hm h7) ?_
  refine sy_if_ne 12 dX7_rise_5 (by decide) (fun c5 => by first | exact kd_tf (hw) c5 | exact kd_ft (hw) c5 | exact absurd (hw) c5 | exact absurd c5 (hw)) (fun c5 => ?_)
  refine ss_sipush (v := -1001) dX7_rise_8 (by decide) ?_
  exact ss_iret dX7_rise_11 rfl rfl (hQ)
set_option maxHeartbeats 4000000 in
set_option maxRecDepth 100000 in
theorem c_kind_k {c : cx} {d : Nat} {X : nX} {Y : nY} {m : Nat} (hm : m ≤ 12) (h7 : X 0 7 = nI m) {j : Nat} (hjm : j < m) : sc c mX7_kind (d + 2) [.ref (c_ad c 0), .int (nI j)] (X) (Y) (some (.int (X (2 + 7 * j) 5))) (X) (Y) := by
  intro Q hQ
  show ss c mX7_kind (d + 2) Q 0 [(0, .ref (c_ad c 0)), (1, .int (nI j))] [] (X) (Y)
  have hj : j < 12 := by omega
  have hwj : ix (nI j) m = true := ix_of hjm (by omega)
  refine ss_aload_n dX7_kind_0 0 rfl ?_
  refine ss_iload_n dX7_kind_1 1 rfl ?_
  refine ss_callV (As := [_]) (i := 0) dX7_kind_2 vlX7_113 clX7_isWorth rfl rfl (by omega) (sh_r0 _ _) rfl (Nat.le_of_ble_eq_true rfl) (Nat.le_of_ble_eq_true rfl) (q_isWorth hm h7) ?_
  refine sy_if_ne 12 dX7_kind_5 (by decide) (fun c5 => ?_) (fun c5 => by first | exact kd_tf (hwj) c5 | exact kd_ft (hwj) c5 | exact absurd (hwj) c5 | exact absurd c5 (hwj))
  refine ss_aload_n dX7_kind_12 0 rfl ?_
  refine ss_get (i := 0) dX7_kind_13 flX7_11 (by omega) (sh_r0 _ _) rfl ?_
  refine ss_iload_n dX7_kind_16 1 rfl ?_
  refine ss_worth (w := j) dX7_kind_17 hj ?_
  refine ss_get (i := 2 + 7 * j) dX7_kind_18 flX7_132 (by omega) (sh_w0 hj _ _) rfl ?_
  exact ss_iret dX7_kind_21 rfl rfl (hQ)
set_option maxHeartbeats 4000000 in
set_option maxRecDepth 100000 in
theorem c_falls_k {c : cx} {d : Nat} {X : nX} {Y : nY} {n : Nat} (hn : n ≤ 10) (h6 : X 0 6 = nI n) {m : Nat} (hm : m ≤ 12) (h7 : X 0 7 = nI m) {j : Nat} (hjm : j < m) (hse : X (2 + 7 * j) 7 = nI (2 ^ n)) (hth : X (2 + 7 * j) 6 = nI n) : sc c mX7_falls (d + 3) [.ref (c_ad c 0), .int (nI j)] (X) (Y) (some (.int (bI (!(ffind (p_brk (Y (3 + 7 * j)) n) (2 ^ n)).isSome)))) (x_brk X (Y (3 + 7 * j)) n (2 ^ n)) (Y) := by
  intro Q hQ
  show ss c mX7_falls (d + 3) Q 0 [(0, .ref (c_ad c 0)), (1, .int (nI j))] [] (X) (Y)
  have hj : j < 12 := by omega
  have hwj : ix (nI j) m = true := ix_of hjm (by omega)
  refine ss_aload_n dX7_falls_0 0 rfl ?_
  refine ss_iload_n dX7_falls_1 1 rfl ?_
  refine ss_callV (As := [_]) (i := 0) dX7_falls_2 vlX7_113 clX7_isWorth rfl rfl (by omega) (sh_r0 _ _) rfl (Nat.le_of_ble_eq_true rfl) (Nat.le_of_ble_eq_true rfl) (q_isWorth hm h7) ?_
  refine sy_if_ne 12 dX7_falls_5 (by decide) (fun c5 => ?_) (fun c5 => by first | exact kd_tf (hwj) c5 | exact kd_ft (hwj) c5 | exact absurd (hwj) c5 | exact absurd c5 (hwj))
  refine ss_aload_n dX7_falls_12 0 rfl ?_
  refine ss_get (i := 0) dX7_falls_13 flX7_26 (by omega) (sh_r0 _ _) rfl ?_
  refine ss_aload_n dX7_falls_16 0 rfl ?_
  refine ss_get (i := 0) dX7_falls_17 flX7_11 (by omega) (sh_r0 _ _) rfl ?_
  refine ss_iload_n dX7_falls_20 1 rfl ?_
  refine ss_worth (w := j) dX7_falls_21 hj ?_
  refine ss_callV (As := [_]) (i := 95) dX7_falls_22 vlX7_221 clX0_findBreak rfl rfl (by omega) (sh_r95 _ _) rfl (Nat.le_of_ble_eq_true rfl) (Nat.le_of_ble_eq_true rfl) (q_findBreak hj (p2_le hn) hse hn hth) ?_
  refine sy_if_eq 32 dX7_falls_25 (by decide) (fun c25 => ?_) (fun c25 => ?_)
  · skip
    refine ss_iconst (v := nI 1) dX7_falls_32 (by decide) ?_
    exact ss_iret dX7_falls_33 rfl rfl (cvi (by rw [c25]; rfl) hQ)
  · skip
    refine ss_iconst (v := nI 0) dX7_falls_28 (by decide) ?_
    refine ss_goto 33 dX7_falls_29 (by decide) ?_
    exact ss_iret dX7_falls_33 rfl rfl (cvi (by rw [c25]; rfl) hQ)
set_option maxHeartbeats 4000000 in
set_option maxRecDepth 100000 in
theorem c_least_k {c : cx} {d : Nat} {X : nX} {Y : nY} {n : Nat} (hn : n ≤ 10) (h6 : X 0 6 = nI n) {m : Nat} (hm : m ≤ 12) (h7 : X 0 7 = nI m) {j : Nat} (hjm : j < m) (hse : X (2 + 7 * j) 7 = nI (2 ^ n)) : sc c mX7_least (d + 2) [.ref (c_ad c 0), .int (nI j)] (X) (Y) (some (.long (lmn (Y (3 + 7 * j)) (2 ^ n)))) (X) (Y) := by
  intro Q hQ
  show ss c mX7_least (d + 2) Q 0 [(0, .ref (c_ad c 0)), (1, .int (nI j))] [] (X) (Y)
  have hj : j < 12 := by omega
  have hwj : ix (nI j) m = true := ix_of hjm (by omega)
  refine ss_aload_n dX7_least_0 0 rfl ?_
  refine ss_iload_n dX7_least_1 1 rfl ?_
  refine ss_callV (As := [_]) (i := 0) dX7_least_2 vlX7_113 clX7_isWorth rfl rfl (by omega) (sh_r0 _ _) rfl (Nat.le_of_ble_eq_true rfl) (Nat.le_of_ble_eq_true rfl) (q_isWorth hm h7) ?_
  refine sy_if_ne 12 dX7_least_5 (by decide) (fun c5 => ?_) (fun c5 => by first | exact kd_tf (hwj) c5 | exact kd_ft (hwj) c5 | exact absurd (hwj) c5 | exact absurd c5 (hwj))
  refine ss_aload_n dX7_least_12 0 rfl ?_
  refine ss_get (i := 0) dX7_least_13 flX7_11 (by omega) (sh_r0 _ _) rfl ?_
  refine ss_iload_n dX7_least_16 1 rfl ?_
  refine ss_worth (w := j) dX7_least_17 hj ?_
  refine ss_callV (As := []) (i := 2 + 7 * j) dX7_least_18 vlX7_236 clX6_leastValue rfl rfl (by omega) (sh_w0 hj _ _) rfl (Nat.le_of_ble_eq_true rfl) (Nat.le_of_ble_eq_true rfl) (q_leastValue hj (p2_le hn) hse) ?_
  exact ss_lret dX7_least_21 rfl (hQ)
set_option maxHeartbeats 4000000 in
set_option maxRecDepth 100000 in
theorem c_one_k {c : cx} {d : Nat} {X : nX} {Y : nY} {n : Nat} (hn : n ≤ 10) (h6 : X 0 6 = nI n) {m : Nat} (hm : m ≤ 12) (h7 : X 0 7 = nI m) {j : Nat} (hjm : j < m) (hse : X (2 + 7 * j) 7 = nI (2 ^ n)) {i : Int32} : sc c mX7_one (d + 3) [.ref (c_ad c 0), .int (nI j), .int i] (X) (Y) (some (.int (fI (ffind (p_one (Y (3 + 7 * j)) (2 ^ n) i) (2 ^ n))))) (X) (Y) := by
  intro Q hQ
  show ss c mX7_one (d + 3) Q 0 [(0, .ref (c_ad c 0)), (1, .int (nI j)), (2, .int i)] [] (X) (Y)
  have hj : j < 12 := by omega
  have hwj : ix (nI j) m = true := ix_of hjm (by omega)
  refine ss_aload_n dX7_one_0 0 rfl ?_
  refine ss_iload_n dX7_one_1 1 rfl ?_
  refine ss_callV (As := [_]) (i := 0) dX7_one_2 vlX7_113 clX7_isWorth rfl rfl (by omega) (sh_r0 _ _) rfl (Nat.le_of_ble_eq_true rfl) (Nat.le_of_ble_eq_true rfl) (q_isWorth hm h7) ?_
  refine sy_if_ne 12 dX7_one_5 (by decide) (fun c5 => ?_) (fun c5 => by first | exact kd_tf (hwj) c5 | exact kd_ft (hwj) c5 | exact absurd (hwj) c5 | exact absurd c5 (hwj))
  refine ss_aload_n dX7_one_12 0 rfl ?_
  refine ss_get (i := 0) dX7_one_13 flX7_11 (by omega) (sh_r0 _ _) rfl ?_
  refine ss_iload_n dX7_one_16 1 rfl ?_
  refine ss_worth (w := j) dX7_one_17 hj ?_
  refine ss_iload_n dX7_one_18 2 rfl ?_
  refine ss_callV (As := [_]) (i := 2 + 7 * j) dX7_one_19 vlX7_258 clX6_leastSet rfl rfl (by omega) (sh_w0 hj _ _) rfl (Nat.le_of_ble_eq_true rfl) (Nat.le_of_ble_eq_true rfl) (q_leastSet hj (p2_le hn) hse) ?_
  exact ss_iret dX7_one_22 rfl rfl (hQ)
set_option maxHeartbeats 4000000 in
set_option maxRecDepth 100000 in
theorem c_in_k {c : cx} {d : Nat} {X : nX} {Y : nY} {n : Nat} (hn : n ≤ 10) (h6 : X 0 6 = nI n) {m : Nat} (hm : m ≤ 12) (h7 : X 0 7 = nI m) {j : Nat} (hjm : j < m) (hse : X (2 + 7 * j) 7 = nI (2 ^ n)) (hs3 : X 101 3 = nI n) : sc c mX7_in (d + 3) [.ref (c_ad c 0), .int (nI j)] (X) (Y) (some (.int (fIn (Y (3 + 7 * j)) (Y 103) n (2 ^ n) (X 101 4).toInt64))) (X) (Y) := by
  intro Q hQ
  show ss c mX7_in (d + 3) Q 0 [(0, .ref (c_ad c 0)), (1, .int (nI j))] [] (X) (Y)
  have hj : j < 12 := by omega
  have hwj : ix (nI j) m = true := ix_of hjm (by omega)
  refine ss_aload_n dX7_in_0 0 rfl ?_
  refine ss_iload_n dX7_in_1 1 rfl ?_
  refine ss_callV (As := [_]) (i := 0) dX7_in_2 vlX7_113 clX7_isWorth rfl rfl (by omega) (sh_r0 _ _) rfl (Nat.le_of_ble_eq_true rfl) (Nat.le_of_ble_eq_true rfl) (q_isWorth hm h7) ?_
  refine sy_if_ne 12 dX7_in_5 (by decide) (fun c5 => ?_) (fun c5 => by first | exact kd_tf (hwj) c5 | exact kd_ft (hwj) c5 | exact absurd (hwj) c5 | exact absurd c5 (hwj))
  refine ss_aload_n dX7_in_12 0 rfl ?_
  refine ss_get (i := 0) dX7_in_13 flX7_47 (by omega) (sh_r0 _ _) rfl ?_
  refine ss_aload_n dX7_in_16 0 rfl ?_
  refine ss_get (i := 0) dX7_in_17 flX7_11 (by omega) (sh_r0 _ _) rfl ?_
  refine ss_iload_n dX7_in_20 1 rfl ?_
  refine ss_worth (w := j) dX7_in_21 hj ?_
  refine ss_callV (As := [_]) (i := 101) dX7_in_22 vlX7_303 clX4_faultIn rfl rfl (by omega) (sh_r101 _ _) rfl (Nat.le_of_ble_eq_true rfl) (Nat.le_of_ble_eq_true rfl) (q_faultIn hj (p2_le hn) hse p2_1 hn hs3) ?_
  exact ss_iret dX7_in_25 rfl rfl (hQ)
set_option maxHeartbeats 4000000 in
set_option maxRecDepth 100000 in
theorem c_proves_k {c : cx} {d : Nat} {X : nX} {Y : nY} {n : Nat} (hn : n ≤ 10) (h6 : X 0 6 = nI n) {m : Nat} (hm : m ≤ 12) (h7 : X 0 7 = nI m) {j : Nat} (hjm : j < m) (hse : X (2 + 7 * j) 7 = nI (2 ^ n)) (hs3 : X 101 3 = nI n) : sc c mX7_proves (d + 4) [.ref (c_ad c 0), .int (nI j)] (X) (Y) (some (.int (bI (decide (fIn (Y (3 + 7 * j)) (Y 103) n (2 ^ n) (X 101 4).toInt64 = -1) && decide (lbl (Y 103) n = lmn (Y (3 + 7 * j)) (2 ^ n) * (X 101 4).toInt64))))) (X) (Y) := by
  intro Q hQ
  show ss c mX7_proves (d + 4) Q 0 [(0, .ref (c_ad c 0)), (1, .int (nI j))] [] (X) (Y)
  have hj : j < 12 := by omega
  have hwj : ix (nI j) m = true := ix_of hjm (by omega)
  refine ss_aload_n dX7_proves_0 0 rfl ?_
  refine ss_iload_n dX7_proves_1 1 rfl ?_
  refine ss_callV (As := [_]) (i := 0) dX7_proves_2 vlX7_113 clX7_isWorth rfl rfl (by omega) (sh_r0 _ _) rfl (Nat.le_of_ble_eq_true rfl) (Nat.le_of_ble_eq_true rfl) (q_isWorth hm h7) ?_
  refine sy_if_ne 12 dX7_proves_5 (by decide) (fun c5 => ?_) (fun c5 => by first | exact kd_tf (hwj) c5 | exact kd_ft (hwj) c5 | exact absurd (hwj) c5 | exact absurd c5 (hwj))
  refine ss_aload_n dX7_proves_12 0 rfl ?_
  refine ss_get (i := 0) dX7_proves_13 flX7_47 (by omega) (sh_r0 _ _) rfl ?_
  refine ss_aload_n dX7_proves_16 0 rfl ?_
  refine ss_get (i := 0) dX7_proves_17 flX7_11 (by omega) (sh_r0 _ _) rfl ?_
  refine ss_iload_n dX7_proves_20 1 rfl ?_
  refine ss_worth (w := j) dX7_proves_21 hj ?_
  refine ss_callV (As := [_]) (i := 101) dX7_proves_22 vlX7_307 clX4_isProof rfl rfl (by omega) (sh_r101 _ _) rfl (Nat.le_of_ble_eq_true rfl) (Nat.le_of_ble_eq_true rfl) (q_isProof hj (p2_le hn) hse p2_1 hn hs3) ?_
  refine sy_if_eq 32 dX7_proves_25 (by decide) (fun c25 => ?_) (fun c25 => ?_)
  · skip
    refine ss_iconst (v := nI 0) dX7_proves_32 (by decide) ?_
    exact ss_iret dX7_proves_33 rfl rfl (cvi (by rw [c25]; rfl) hQ)
  · skip
    refine ss_iconst (v := nI 1) dX7_proves_28 (by decide) ?_
    refine ss_goto 33 dX7_proves_29 (by decide) ?_
    exact ss_iret dX7_proves_33 rfl rfl (cvi (by rw [c25]; rfl) hQ)
set_option maxHeartbeats 4000000 in
set_option maxRecDepth 100000 in
theorem c_greed_k {c : cx} {d : Nat} {X : nX} {Y : nY} {n : Nat} (hn : n ≤ 10) (h6 : X 0 6 = nI n) {m : Nat} (hm : m ≤ 12) (h7 : X 0 7 = nI m) {j : Nat} (hjm : j < m) (hth : X (2 + 7 * j) 6 = nI n) {k : Nat} (hk : k ≤ 10) : sc c mX7_greed (d + 4) [.ref (c_ad c 0), .int (nI j), .int (nI k)] (X) (Y) (some (.int (nI (gset (Y (3 + 7 * j)) n k)))) (X) (Y) := by
  intro Q hQ
  show ss c mX7_greed (d + 4) Q 0 [(0, .ref (c_ad c 0)), (1, .int (nI j)), (2, .int (nI k))] [] (X) (Y)
  have hj : j < 12 := by omega
  have hwj : ix (nI j) m = true := ix_of hjm (by omega)
  have hk9 : wi (nI k).toInt64 0 10 = true := by rw [wi_ix (n := 11) rfl]; exact ix_of (by omega) (by decide)
  refine ss_aload_n dX7_greed_0 0 rfl ?_
  refine ss_iload_n dX7_greed_1 1 rfl ?_
  refine ss_callV (As := [_]) (i := 0) dX7_greed_2 vlX7_113 clX7_isWorth rfl rfl (by omega) (sh_r0 _ _) rfl (Nat.le_of_ble_eq_true rfl) (Nat.le_of_ble_eq_true rfl) (q_isWorth hm h7) ?_
  refine sy_if_ne 12 dX7_greed_5 (by decide) (fun c5 => ?_) (fun c5 => by first | exact kd_tf (hwj) c5 | exact kd_ft (hwj) c5 | exact absurd (hwj) c5 | exact absurd c5 (hwj))
  refine ss_iload_n dX7_greed_12 2 rfl ?_
  refine ss_i2l dX7_greed_13 ?_
  refine ss_lconst (v := 0) dX7_greed_14 (by decide) ?_
  refine ss_ldc2 dX7_greed_15 kcX7_51 ?_
  refine ss_callS (As := [_, _, _]) dX7_greed_18 vlX7_53 clX7_isWithin rfl rfl (Nat.le_of_ble_eq_true rfl) (Nat.le_of_ble_eq_true rfl) (q_isWithin) ?_
  refine sy_if_ne 28 dX7_greed_21 (by decide) (fun c21 => ?_) (fun c21 => by first | exact kd_tf (hk9) c21 | exact kd_ft (hk9) c21 | exact absurd (hk9) c21 | exact absurd c21 (hk9))
  refine ss_aload_n dX7_greed_28 0 rfl ?_
  refine ss_get (i := 0) dX7_greed_29 flX7_11 (by omega) (sh_r0 _ _) rfl ?_
  refine ss_iload_n dX7_greed_32 1 rfl ?_
  refine ss_worth (w := j) dX7_greed_33 hj ?_
  refine ss_iload_n dX7_greed_34 2 rfl ?_
  refine ss_callV (As := [_]) (i := 2 + 7 * j) dX7_greed_35 vlX7_310 clX6_greedySet rfl rfl (by omega) (sh_w0 hj _ _) rfl (Nat.le_of_ble_eq_true rfl) (Nat.le_of_ble_eq_true rfl) (q_greedySet hj hn hth hk) ?_
  exact ss_iret dX7_greed_38 rfl rfl (hQ)
set_option maxHeartbeats 4000000 in
set_option maxRecDepth 100000 in
theorem c_best_k {c : cx} {d : Nat} {X : nX} {Y : nY} {n : Nat} (hn : n ≤ 10) (h6 : X 0 6 = nI n) {m : Nat} (hm : m ≤ 12) (h7 : X 0 7 = nI m) {j : Nat} (hjm : j < m) (hse : X (2 + 7 * j) 7 = nI (2 ^ n)) {k : Nat} (hk : k ≤ 10) : sc c mX7_best (d + 3) [.ref (c_ad c 0), .int (nI j), .int (nI k)] (X) (Y) (some (.long (lmx (fun s => decide (cnt s 10 ≤ k)) (Y (3 + 7 * j)) (2 ^ n)))) (X) (Y) := by
  intro Q hQ
  show ss c mX7_best (d + 3) Q 0 [(0, .ref (c_ad c 0)), (1, .int (nI j)), (2, .int (nI k))] [] (X) (Y)
  have hj : j < 12 := by omega
  have hwj : ix (nI j) m = true := ix_of hjm (by omega)
  have hk9 : wi (nI k).toInt64 0 10 = true := by rw [wi_ix (n := 11) rfl]; exact ix_of (by omega) (by decide)
  refine ss_aload_n dX7_best_0 0 rfl ?_
  refine ss_iload_n dX7_best_1 1 rfl ?_
  refine ss_callV (As := [_]) (i := 0) dX7_best_2 vlX7_113 clX7_isWorth rfl rfl (by omega) (sh_r0 _ _) rfl (Nat.le_of_ble_eq_true rfl) (Nat.le_of_ble_eq_true rfl) (q_isWorth hm h7) ?_
  refine sy_if_ne 12 dX7_best_5 (by decide) (fun c5 => ?_) (fun c5 => by first | exact kd_tf (hwj) c5 | exact kd_ft (hwj) c5 | exact absurd (hwj) c5 | exact absurd c5 (hwj))
  refine ss_iload_n dX7_best_12 2 rfl ?_
  refine ss_i2l dX7_best_13 ?_
  refine ss_lconst (v := 0) dX7_best_14 (by decide) ?_
  refine ss_ldc2 dX7_best_15 kcX7_51 ?_
  refine ss_callS (As := [_, _, _]) dX7_best_18 vlX7_53 clX7_isWithin rfl rfl (Nat.le_of_ble_eq_true rfl) (Nat.le_of_ble_eq_true rfl) (q_isWithin) ?_
  refine sy_if_ne 28 dX7_best_21 (by decide) (fun c21 => ?_) (fun c21 => by first | exact kd_tf (hk9) c21 | exact kd_ft (hk9) c21 | exact absurd (hk9) c21 | exact absurd c21 (hk9))
  refine ss_aload_n dX7_best_28 0 rfl ?_
  refine ss_get (i := 0) dX7_best_29 flX7_11 (by omega) (sh_r0 _ _) rfl ?_
  refine ss_iload_n dX7_best_32 1 rfl ?_
  refine ss_worth (w := j) dX7_best_33 hj ?_
  refine ss_iload_n dX7_best_34 2 rfl ?_
  refine ss_callV (As := [_]) (i := 2 + 7 * j) dX7_best_35 vlX7_313 clX6_greatestValue rfl rfl (by omega) (sh_w0 hj _ _) rfl (Nat.le_of_ble_eq_true rfl) (Nat.le_of_ble_eq_true rfl) (q_greatestValue hj (p2_le hn) hse (by omega)) ?_
  exact ss_lret dX7_best_38 rfl (hQ)
set_option maxHeartbeats 4000000 in
set_option maxRecDepth 100000 in
theorem c_greed_o {c : cx} {d : Nat} {X : nX} {Y : nY} {m : Nat} (hm : m ≤ 12) (h7 : X 0 7 = nI m) {j : Nat} (hjm : j < m) {i : Int32} (hi : ix i 11 = false) : sc c mX7_greed (d + 4) [.ref (c_ad c 0), .int (nI j), .int i] (X) (Y) (some (.int (-1002))) (X) (Y) := by
  intro Q hQ
  show ss c mX7_greed (d + 4) Q 0 [(0, .ref (c_ad c 0)), (1, .int (nI j)), (2, .int i)] [] (X) (Y)
  have hj : j < 12 := by omega
  have hwj : ix (nI j) m = true := ix_of hjm (by omega)
  have hi9 : wi i.toInt64 0 10 = false := by rw [wi_ix (n := 11) rfl]; exact hi
  refine ss_aload_n dX7_greed_0 0 rfl ?_
  refine ss_iload_n dX7_greed_1 1 rfl ?_
  refine ss_callV (As := [_]) (i := 0) dX7_greed_2 vlX7_113 clX7_isWorth rfl rfl (by omega) (sh_r0 _ _) rfl (Nat.le_of_ble_eq_true rfl) (Nat.le_of_ble_eq_true rfl) (q_isWorth hm h7) ?_
  refine sy_if_ne 12 dX7_greed_5 (by decide) (fun c5 => ?_) (fun c5 => by first | exact kd_tf (hwj) c5 | exact kd_ft (hwj) c5 | exact absurd (hwj) c5 | exact absurd c5 (hwj))
  refine ss_iload_n dX7_greed_12 2 rfl ?_
  refine ss_i2l dX7_greed_13 ?_
  refine ss_lconst (v := 0) dX7_greed_14 (by decide) ?_
  refine ss_ldc2 dX7_greed_15 kcX7_51 ?_
  refine ss_callS (As := [_, _, _]) dX7_greed_18 vlX7_53 clX7_isWithin rfl rfl (Nat.le_of_ble_eq_true rfl) (Nat.le_of_ble_eq_true rfl) (q_isWithin) ?_
  refine sy_if_ne 28 dX7_greed_21 (by decide) (fun c21 => by first | exact kd_tf (hi9) c21 | exact kd_ft (hi9) c21 | exact absurd (hi9) c21 | exact absurd c21 (hi9)) (fun c21 => ?_)
  refine ss_sipush (v := -1002) dX7_greed_24 (by decide) ?_
  exact ss_iret dX7_greed_27 rfl rfl (hQ)
set_option maxHeartbeats 4000000 in
set_option maxRecDepth 100000 in
theorem c_best_o {c : cx} {d : Nat} {X : nX} {Y : nY} {m : Nat} (hm : m ≤ 12) (h7 : X 0 7 = nI m) {j : Nat} (hjm : j < m) {i : Int32} (hi : ix i 11 = false) : sc c mX7_best (d + 4) [.ref (c_ad c 0), .int (nI j), .int i] (X) (Y) (some (.long (-1002))) (X) (Y) := by
  intro Q hQ
  show ss c mX7_best (d + 4) Q 0 [(0, .ref (c_ad c 0)), (1, .int (nI j)), (2, .int i)] [] (X) (Y)
  have hj : j < 12 := by omega
  have hwj : ix (nI j) m = true := ix_of hjm (by omega)
  have hi9 : wi i.toInt64 0 10 = false := by rw [wi_ix (n := 11) rfl]; exact hi
  refine ss_aload_n dX7_best_0 0 rfl ?_
  refine ss_iload_n dX7_best_1 1 rfl ?_
  refine ss_callV (As := [_]) (i := 0) dX7_best_2 vlX7_113 clX7_isWorth rfl rfl (by omega) (sh_r0 _ _) rfl (Nat.le_of_ble_eq_true rfl) (Nat.le_of_ble_eq_true rfl) (q_isWorth hm h7) ?_
  refine sy_if_ne 12 dX7_best_5 (by decide) (fun c5 => ?_) (fun c5 => by first | exact kd_tf (hwj) c5 | exact kd_ft (hwj) c5 | exact absurd (hwj) c5 | exact absurd c5 (hwj))
  refine ss_iload_n dX7_best_12 2 rfl ?_
  refine ss_i2l dX7_best_13 ?_
  refine ss_lconst (v := 0) dX7_best_14 (by decide) ?_
  refine ss_ldc2 dX7_best_15 kcX7_51 ?_
  refine ss_callS (As := [_, _, _]) dX7_best_18 vlX7_53 clX7_isWithin rfl rfl (Nat.le_of_ble_eq_true rfl) (Nat.le_of_ble_eq_true rfl) (q_isWithin) ?_
  refine sy_if_ne 28 dX7_best_21 (by decide) (fun c21 => by first | exact kd_tf (hi9) c21 | exact kd_ft (hi9) c21 | exact absurd (hi9) c21 | exact absurd c21 (hi9)) (fun c21 => ?_)
  refine ss_ldc2 dX7_best_24 kcX7_92 ?_
  exact ss_lret dX7_best_27 rfl (hQ)
set_option maxHeartbeats 4000000 in
set_option maxRecDepth 100000 in
theorem c_value_u {c : cx} {d : Nat} {X : nX} {Y : nY} {n : Nat} (hn : n ≤ 10) (h6 : X 0 6 = nI n) {m : Nat} (hm : m ≤ 12) (h7 : X 0 7 = nI m) {w s : Int32} (hu : ix w m = false ∨ ix s (2 ^ n) = false) : sc c mX7_value (d + 2) [.ref (c_ad c 0), .int w, .int s] (X) (Y) (some (.long (-1001))) (X) (Y) := by
  intro Q hQ
  show ss c mX7_value (d + 2) Q 0 [(0, .ref (c_ad c 0)), (1, .int w), (2, .int s)] [] (X) (Y)
  refine ss_aload_n dX7_value_0 0 rfl ?_
  refine ss_iload_n dX7_value_1 1 rfl ?_
  refine ss_callV (As := [_]) (i := 0) dX7_value_2 vlX7_113 clX7_isWorth rfl rfl (by omega) (sh_r0 _ _) rfl (Nat.le_of_ble_eq_true rfl) (Nat.le_of_ble_eq_true rfl) (q_isWorth hm h7) ?_
  refine sy_if_eq 16 dX7_value_5 (by decide) (fun c5 => ?_) (fun c5 => ?_)
  · skip
    refine ss_ldc2 dX7_value_16 kcX7_90 ?_
    exact ss_lret dX7_value_19 rfl (hQ)
  · skip
    refine ss_aload_n dX7_value_8 0 rfl ?_
    refine ss_iload_n dX7_value_9 2 rfl ?_
    refine ss_callV (As := [_]) (i := 0) dX7_value_10 vlX7_116 clX7_isSet rfl rfl (by omega) (sh_r0 _ _) rfl (Nat.le_of_ble_eq_true rfl) (Nat.le_of_ble_eq_true rfl) (q_isSet hn h6) ?_
    refine sy_if_ne 20 dX7_value_13 (by decide) (fun c13 => by rcases hu with h8 | h8; exact kd_tf c5 h8; exact kd_tf c13 h8) (fun c13 => ?_)
    refine ss_ldc2 dX7_value_16 kcX7_90 ?_
    exact ss_lret dX7_value_19 rfl (hQ)
set_option maxHeartbeats 4000000 in
set_option maxRecDepth 100000 in
theorem c_value_k {c : cx} {d : Nat} {X : nX} {Y : nY} {n : Nat} (hn : n ≤ 10) (h6 : X 0 6 = nI n) {m : Nat} (hm : m ≤ 12) (h7 : X 0 7 = nI m) {j : Nat} (hjm : j < m) {s : Nat} (hs : s < 2 ^ n) : sc c mX7_value (d + 2) [.ref (c_ad c 0), .int (nI j), .int (nI s)] (X) (Y) (some (.long (Y (3 + 7 * j) s))) (X) (Y) := by
  intro Q hQ
  show ss c mX7_value (d + 2) Q 0 [(0, .ref (c_ad c 0)), (1, .int (nI j)), (2, .int (nI s))] [] (X) (Y)
  have hj : j < 12 := by omega
  have hwj : ix (nI j) m = true := ix_of hjm (by omega)
  have hs9 : ix (nI s) (2 ^ n) = true := ix_of hs (by have := p2_le hn; omega)
  have hs8 := ix_2p hs hn
  refine ss_aload_n dX7_value_0 0 rfl ?_
  refine ss_iload_n dX7_value_1 1 rfl ?_
  refine ss_callV (As := [_]) (i := 0) dX7_value_2 vlX7_113 clX7_isWorth rfl rfl (by omega) (sh_r0 _ _) rfl (Nat.le_of_ble_eq_true rfl) (Nat.le_of_ble_eq_true rfl) (q_isWorth hm h7) ?_
  refine sy_if_eq 16 dX7_value_5 (by decide) (fun c5 => by first | exact kd_tf (hwj) c5 | exact kd_ft (hwj) c5 | exact absurd (hwj) c5 | exact absurd c5 (hwj)) (fun c5 => ?_)
  refine ss_aload_n dX7_value_8 0 rfl ?_
  refine ss_iload_n dX7_value_9 2 rfl ?_
  refine ss_callV (As := [_]) (i := 0) dX7_value_10 vlX7_116 clX7_isSet rfl rfl (by omega) (sh_r0 _ _) rfl (Nat.le_of_ble_eq_true rfl) (Nat.le_of_ble_eq_true rfl) (q_isSet hn h6) ?_
  refine sy_if_ne 20 dX7_value_13 (by decide) (fun c13 => ?_) (fun c13 => by first | exact kd_tf (hs9) c13 | exact kd_ft (hs9) c13 | exact absurd (hs9) c13 | exact absurd c13 (hs9))
  refine ss_aload_n dX7_value_20 0 rfl ?_
  refine ss_get (i := 0) dX7_value_21 flX7_11 (by omega) (sh_r0 _ _) rfl ?_
  refine ss_iload_n dX7_value_24 1 rfl ?_
  refine ss_worth (w := j) dX7_value_25 hj ?_
  refine ss_get (i := 2 + 7 * j) dX7_value_26 flX7_146 (by omega) (sh_w0 hj _ _) rfl ?_
  refine ss_iload_n dX7_value_29 2 rfl ?_
  refine ss_lald (i := 3 + 7 * j) dX7_value_30 (by omega) (sh_w1 hj) (by omega) (by decide) ?_
  exact ss_lret dX7_value_31 rfl (hQ)
set_option maxHeartbeats 4000000 in
set_option maxRecDepth 100000 in
theorem c_adds_u {c : cx} {d : Nat} {X : nX} {Y : nY} {n : Nat} (hn : n ≤ 10) (h6 : X 0 6 = nI n) {m : Nat} (hm : m ≤ 12) (h7 : X 0 7 = nI m) {w s t : Int32} (hu : ix w m = false ∨ ix s (2 ^ n) = false ∨ ix t n = false) : sc c mX7_adds (d + 2) [.ref (c_ad c 0), .int w, .int s, .int t] (X) (Y) (some (.long (-1001))) (X) (Y) := by
  intro Q hQ
  show ss c mX7_adds (d + 2) Q 0 [(0, .ref (c_ad c 0)), (1, .int w), (2, .int s), (3, .int t)] [] (X) (Y)
  refine ss_aload_n dX7_adds_0 0 rfl ?_
  refine ss_iload_n dX7_adds_1 1 rfl ?_
  refine ss_callV (As := [_]) (i := 0) dX7_adds_2 vlX7_113 clX7_isWorth rfl rfl (by omega) (sh_r0 _ _) rfl (Nat.le_of_ble_eq_true rfl) (Nat.le_of_ble_eq_true rfl) (q_isWorth hm h7) ?_
  refine sy_if_eq 24 dX7_adds_5 (by decide) (fun c5 => ?_) (fun c5 => ?_)
  · skip
    refine ss_ldc2 dX7_adds_24 kcX7_90 ?_
    exact ss_lret dX7_adds_27 rfl (hQ)
  · skip
    refine ss_aload_n dX7_adds_8 0 rfl ?_
    refine ss_iload_n dX7_adds_9 2 rfl ?_
    refine ss_callV (As := [_]) (i := 0) dX7_adds_10 vlX7_116 clX7_isSet rfl rfl (by omega) (sh_r0 _ _) rfl (Nat.le_of_ble_eq_true rfl) (Nat.le_of_ble_eq_true rfl) (q_isSet hn h6) ?_
    refine sy_if_eq 24 dX7_adds_13 (by decide) (fun c13 => ?_) (fun c13 => ?_)
    · skip
      refine ss_ldc2 dX7_adds_24 kcX7_90 ?_
      exact ss_lret dX7_adds_27 rfl (hQ)
    · skip
      refine ss_aload_n dX7_adds_16 0 rfl ?_
      refine ss_iload_n dX7_adds_17 3 rfl ?_
      refine ss_callV (As := [_]) (i := 0) dX7_adds_18 vlX7_159 clX7_isThing rfl rfl (by omega) (sh_r0 _ _) rfl (Nat.le_of_ble_eq_true rfl) (Nat.le_of_ble_eq_true rfl) (q_isThing hn h6) ?_
      refine sy_if_ne 28 dX7_adds_21 (by decide) (fun c21 => by rcases hu with h8 | h8 | h8; exact kd_tf c5 h8; exact kd_tf c13 h8; exact kd_tf c21 h8) (fun c21 => ?_)
      refine ss_ldc2 dX7_adds_24 kcX7_90 ?_
      exact ss_lret dX7_adds_27 rfl (hQ)
set_option maxHeartbeats 4000000 in
set_option maxRecDepth 100000 in
theorem c_adds_k {c : cx} {d : Nat} {X : nX} {Y : nY} {n : Nat} (hn : n ≤ 10) (h6 : X 0 6 = nI n) {m : Nat} (hm : m ≤ 12) (h7 : X 0 7 = nI m) {j : Nat} (hjm : j < m) {s : Nat} (hs : s < 2 ^ n) {t : Nat} (ht : t < n) : sc c mX7_adds (d + 2) [.ref (c_ad c 0), .int (nI j), .int (nI s), .int (nI t)] (X) (Y) (some (.long (Y (3 + 7 * j) (s ||| 2 ^ t) - Y (3 + 7 * j) s))) (X) (Y) := by
  intro Q hQ
  show ss c mX7_adds (d + 2) Q 0 [(0, .ref (c_ad c 0)), (1, .int (nI j)), (2, .int (nI s)), (3, .int (nI t))] [] (X) (Y)
  have hj : j < 12 := by omega
  have hwj : ix (nI j) m = true := ix_of hjm (by omega)
  have hs9 : ix (nI s) (2 ^ n) = true := ix_of hs (by have := p2_le hn; omega)
  have hs8 := ix_2p hs hn
  have ht9 : ix (nI t) n = true := ix_of ht (by omega)
  refine ss_aload_n dX7_adds_0 0 rfl ?_
  refine ss_iload_n dX7_adds_1 1 rfl ?_
  refine ss_callV (As := [_]) (i := 0) dX7_adds_2 vlX7_113 clX7_isWorth rfl rfl (by omega) (sh_r0 _ _) rfl (Nat.le_of_ble_eq_true rfl) (Nat.le_of_ble_eq_true rfl) (q_isWorth hm h7) ?_
  refine sy_if_eq 24 dX7_adds_5 (by decide) (fun c5 => by first | exact kd_tf (hwj) c5 | exact kd_ft (hwj) c5 | exact absurd (hwj) c5 | exact absurd c5 (hwj)) (fun c5 => ?_)
  refine ss_aload_n dX7_adds_8 0 rfl ?_
  refine ss_iload_n dX7_adds_9 2 rfl ?_
  refine ss_callV (As := [_]) (i := 0) dX7_adds_10 vlX7_116 clX7_isSet rfl rfl (by omega) (sh_r0 _ _) rfl (Nat.le_of_ble_eq_true rfl) (Nat.le_of_ble_eq_true rfl) (q_isSet hn h6) ?_
  refine sy_if_eq 24 dX7_adds_13 (by decide) (fun c13 => by first | exact kd_tf (hs9) c13 | exact kd_ft (hs9) c13 | exact absurd (hs9) c13 | exact absurd c13 (hs9)) (fun c13 => ?_)
  refine ss_aload_n dX7_adds_16 0 rfl ?_
  refine ss_iload_n dX7_adds_17 3 rfl ?_
  refine ss_callV (As := [_]) (i := 0) dX7_adds_18 vlX7_159 clX7_isThing rfl rfl (by omega) (sh_r0 _ _) rfl (Nat.le_of_ble_eq_true rfl) (Nat.le_of_ble_eq_true rfl) (q_isThing hn h6) ?_
  refine sy_if_ne 28 dX7_adds_21 (by decide) (fun c21 => ?_) (fun c21 => by first | exact kd_tf (ht9) c21 | exact kd_ft (ht9) c21 | exact absurd (ht9) c21 | exact absurd c21 (ht9))
  refine ss_aload_n dX7_adds_28 0 rfl ?_
  refine ss_get (i := 0) dX7_adds_29 flX7_11 (by omega) (sh_r0 _ _) rfl ?_
  refine ss_iload_n dX7_adds_32 1 rfl ?_
  refine ss_worth (w := j) dX7_adds_33 hj ?_
  refine ss_iload_n dX7_adds_34 2 rfl ?_
  refine ss_iload_n dX7_adds_35 3 rfl ?_
  refine ss_callV (As := [_, _]) (i := 2 + 7 * j) dX7_adds_36 vlX7_217 clX6_gain rfl rfl (by omega) (sh_w0 hj _ _) rfl (Nat.le_of_ble_eq_true rfl) (Nat.le_of_ble_eq_true rfl) (q_gain hj hs8 (by omega)) ?_
  exact ss_lret dX7_adds_39 rfl (hQ)
set_option maxHeartbeats 4000000 in
set_option maxRecDepth 100000 in
theorem c_code {c : cx} {d : Nat} {X : nX} {Y : nY}  : sc c mX7_code d [.ref (c_ad c 0)] (X) (Y) (some (.int (X 0 8))) (X) (Y) := by
  intro Q hQ
  show ss c mX7_code d Q 0 [(0, .ref (c_ad c 0))] [] (X) (Y)
  refine ss_aload_n dX7_code_0 0 rfl ?_
  refine ss_get (i := 0) dX7_code_1 flX7_79 (by omega) (sh_r0 _ _) rfl ?_
  exact ss_iret dX7_code_4 rfl rfl (hQ)
set_option maxHeartbeats 4000000 in
set_option maxRecDepth 100000 in
theorem c_order_u {c : cx} {d : Nat} {X : nX} {Y : nY} {n : Nat} (hn : n ≤ 10) (h6 : X 0 6 = nI n) {t i : Int32} (hu : ix t n = false) : sc c mX7_order (d + 3) [.ref (c_ad c 0), .int t, .int i] (X) (Y) (some (.int (-1001))) (X) (Y) := by
  intro Q hQ
  show ss c mX7_order (d + 3) Q 0 [(0, .ref (c_ad c 0)), (1, .int t), (2, .int i)] [] (X) (Y)
  refine ss_aload_n dX7_order_0 0 rfl ?_
  refine ss_iload_n dX7_order_1 1 rfl ?_
  refine ss_callV (As := [_]) (i := 0) dX7_order_2 vlX7_159 clX7_isThing rfl rfl (by omega) (sh_r0 _ _) rfl (Nat.le_of_ble_eq_true rfl) (Nat.le_of_ble_eq_true rfl) (q_isThing hn h6) ?_
  refine sy_if_ne 12 dX7_order_5 (by decide) (fun c5 => by first | exact kd_tf (hu) c5 | exact kd_ft (hu) c5 | exact absurd (hu) c5 | exact absurd c5 (hu)) (fun c5 => ?_)
  refine ss_sipush (v := -1001) dX7_order_8 (by decide) ?_
  exact ss_iret dX7_order_11 rfl rfl (hQ)
set_option maxHeartbeats 4000000 in
set_option maxRecDepth 100000 in
theorem c_order_o {c : cx} {d : Nat} {X : nX} {Y : nY} {n : Nat} (hn : n ≤ 10) (h6 : X 0 6 = nI n) {t i : Int32} (ht : ix t n = true) (hi : ix i n = false) : sc c mX7_order (d + 3) [.ref (c_ad c 0), .int t, .int i] (X) (Y) (some (.int (-1002))) (X) (Y) := by
  intro Q hQ
  show ss c mX7_order (d + 3) Q 0 [(0, .ref (c_ad c 0)), (1, .int t), (2, .int i)] [] (X) (Y)
  refine ss_aload_n dX7_order_0 0 rfl ?_
  refine ss_iload_n dX7_order_1 1 rfl ?_
  refine ss_callV (As := [_]) (i := 0) dX7_order_2 vlX7_159 clX7_isThing rfl rfl (by omega) (sh_r0 _ _) rfl (Nat.le_of_ble_eq_true rfl) (Nat.le_of_ble_eq_true rfl) (q_isThing hn h6) ?_
  refine sy_if_ne 12 dX7_order_5 (by decide) (fun c5 => ?_) (fun c5 => by first | exact kd_tf (ht) c5 | exact kd_ft (ht) c5 | exact absurd (ht) c5 | exact absurd c5 (ht))
  refine ss_iload_n dX7_order_12 2 rfl ?_
  refine ss_i2l dX7_order_13 ?_
  refine ss_lconst (v := 0) dX7_order_14 (by decide) ?_
  refine ss_aload_n dX7_order_15 0 rfl ?_
  refine ss_get (i := 0) dX7_order_16 flX7_61 (by omega) (sh_r0 _ _) rfl ?_
  rw [h6]
  refine ss_iconst (v := nI 1) dX7_order_19 (by decide) ?_
  refine ss_isub dX7_order_20 ?_
  refine ss_i2l dX7_order_21 ?_
  refine ss_callS (As := [_, _, _]) dX7_order_22 vlX7_53 clX7_isWithin rfl rfl (Nat.le_of_ble_eq_true rfl) (Nat.le_of_ble_eq_true rfl) (q_isWithin) ?_
  refine sy_if_ne 32 dX7_order_25 (by decide) (fun c25 => by first | exact kd_tf (by rw [wi_ix (nI_s1l (by omega))]; exact hi) c25 | exact kd_ft (by rw [wi_ix (nI_s1l (by omega))]; exact hi) c25 | exact absurd (by rw [wi_ix (nI_s1l (by omega))]; exact hi) c25 | exact absurd c25 (by rw [wi_ix (nI_s1l (by omega))]; exact hi)) (fun c25 => ?_)
  refine ss_sipush (v := -1002) dX7_order_28 (by decide) ?_
  exact ss_iret dX7_order_31 rfl rfl (hQ)
set_option maxHeartbeats 4000000 in
set_option maxRecDepth 100000 in
theorem c_order_k {c : cx} {d : Nat} {X : nX} {Y : nY} {n : Nat} (hn : n ≤ 10) (h6 : X 0 6 = nI n) {t : Nat} (ht : t < n) {i : Nat} (hi : i < n) (hs3 : X 101 3 = nI n) : sc c mX7_order (d + 3) [.ref (c_ad c 0), .int (nI t), .int (nI i)] (X) (Y) (some (.int (nI ((ffind (p_plc X (nI t)) n).getD 0)))) (xmv X ((ffind (p_plc X (nI t)) n).getD 0) i (nI t)) (Y) := by
  intro Q hQ
  show ss c mX7_order (d + 3) Q 0 [(0, .ref (c_ad c 0)), (1, .int (nI t)), (2, .int (nI i))] [] (X) (Y)
  have ht9 : ix (nI t) n = true := ix_of ht (by omega)
  refine ss_aload_n dX7_order_0 0 rfl ?_
  refine ss_iload_n dX7_order_1 1 rfl ?_
  refine ss_callV (As := [_]) (i := 0) dX7_order_2 vlX7_159 clX7_isThing rfl rfl (by omega) (sh_r0 _ _) rfl (Nat.le_of_ble_eq_true rfl) (Nat.le_of_ble_eq_true rfl) (q_isThing hn h6) ?_
  refine sy_if_ne 12 dX7_order_5 (by decide) (fun c5 => ?_) (fun c5 => by first | exact kd_tf (ht9) c5 | exact kd_ft (ht9) c5 | exact absurd (ht9) c5 | exact absurd c5 (ht9))
  refine ss_iload_n dX7_order_12 2 rfl ?_
  refine ss_i2l dX7_order_13 ?_
  refine ss_lconst (v := 0) dX7_order_14 (by decide) ?_
  refine ss_aload_n dX7_order_15 0 rfl ?_
  refine ss_get (i := 0) dX7_order_16 flX7_61 (by omega) (sh_r0 _ _) rfl ?_
  rw [h6]
  refine ss_iconst (v := nI 1) dX7_order_19 (by decide) ?_
  refine ss_isub dX7_order_20 ?_
  refine ss_i2l dX7_order_21 ?_
  refine ss_callS (As := [_, _, _]) dX7_order_22 vlX7_53 clX7_isWithin rfl rfl (Nat.le_of_ble_eq_true rfl) (Nat.le_of_ble_eq_true rfl) (q_isWithin) ?_
  refine sy_if_ne 32 dX7_order_25 (by decide) (fun c25 => ?_) (fun c25 => by first | exact kd_tf (by rw [wi_ix (nI_s1l (by omega))]; exact ix_of hi (by omega)) c25 | exact kd_ft (by rw [wi_ix (nI_s1l (by omega))]; exact ix_of hi (by omega)) c25 | exact absurd (by rw [wi_ix (nI_s1l (by omega))]; exact ix_of hi (by omega)) c25 | exact absurd c25 (by rw [wi_ix (nI_s1l (by omega))]; exact ix_of hi (by omega)))
  refine ss_aload_n dX7_order_32 0 rfl ?_
  refine ss_get (i := 0) dX7_order_33 flX7_47 (by omega) (sh_r0 _ _) rfl ?_
  refine ss_iload_n dX7_order_36 1 rfl ?_
  refine ss_iload_n dX7_order_37 2 rfl ?_
  refine ss_callV (As := [_, _]) (i := 101) dX7_order_38 vlX7_281 clX4_moveTo rfl rfl (by omega) (sh_r101 _ _) rfl (Nat.le_of_ble_eq_true rfl) (Nat.le_of_ble_eq_true rfl) (q_moveTo hn hs3 hi) ?_
  exact ss_iret dX7_order_41 rfl rfl (hQ)
set_option maxHeartbeats 4000000 in
set_option maxRecDepth 100000 in
theorem c_shareOf_b {c : cx} {d : Nat} {X : nX} {Y : nY}  : sc c mX7_shareOf (d + 2) [.ref (c_ad c 0), .int (-1)] (X) (Y) (some (.long (X 101 4).toInt64)) (X) (Y) := by
  intro Q hQ
  show ss c mX7_shareOf (d + 2) Q 0 [(0, .ref (c_ad c 0)), (1, .int (-1))] [] (X) (Y)
  refine ss_iload_n dX7_shareOf_0 1 rfl ?_
  refine ss_iconst (v := -1) dX7_shareOf_1 (by decide) ?_
  refine ss_icmp_ne 14 dX7_shareOf_2 (by decide) (fun c2 => by first | exact kd_tf (rfl) c2 | exact kd_ft (rfl) c2 | exact absurd (rfl) c2 | exact absurd c2 (rfl)) (fun c2 => ?_)
  refine ss_aload_n dX7_shareOf_5 0 rfl ?_
  refine ss_get (i := 0) dX7_shareOf_6 flX7_47 (by omega) (sh_r0 _ _) rfl ?_
  refine ss_get (i := 101) dX7_shareOf_9 flX7_296 (by omega) (sh_r101 _ _) rfl ?_
  refine ss_i2l dX7_shareOf_12 ?_
  exact ss_lret dX7_shareOf_13 rfl (hQ)
set_option maxHeartbeats 4000000 in
set_option maxRecDepth 100000 in
theorem c_shareOf_u {c : cx} {d : Nat} {X : nX} {Y : nY} {n : Nat} (hn : n ≤ 10) (h6 : X 0 6 = nI n) {t : Int32} (h1 : ¬ t = -1) (ht : ix t n = false) : sc c mX7_shareOf (d + 2) [.ref (c_ad c 0), .int t] (X) (Y) (some (.long (-1001))) (X) (Y) := by
  intro Q hQ
  show ss c mX7_shareOf (d + 2) Q 0 [(0, .ref (c_ad c 0)), (1, .int t)] [] (X) (Y)
  refine ss_iload_n dX7_shareOf_0 1 rfl ?_
  refine ss_iconst (v := -1) dX7_shareOf_1 (by decide) ?_
  refine ss_icmp_ne 14 dX7_shareOf_2 (by decide) (fun c2 => ?_) (fun c2 => by first | exact kd_tf (h1) c2 | exact kd_ft (h1) c2 | exact absurd (h1) c2 | exact absurd c2 (h1))
  refine ss_aload_n dX7_shareOf_14 0 rfl ?_
  refine ss_iload_n dX7_shareOf_15 1 rfl ?_
  refine ss_callV (As := [_]) (i := 0) dX7_shareOf_16 vlX7_159 clX7_isThing rfl rfl (by omega) (sh_r0 _ _) rfl (Nat.le_of_ble_eq_true rfl) (Nat.le_of_ble_eq_true rfl) (q_isThing hn h6) ?_
  refine sy_if_ne 26 dX7_shareOf_19 (by decide) (fun c19 => by first | exact kd_tf (ht) c19 | exact kd_ft (ht) c19 | exact absurd (ht) c19 | exact absurd c19 (ht)) (fun c19 => ?_)
  refine ss_ldc2 dX7_shareOf_22 kcX7_90 ?_
  exact ss_lret dX7_shareOf_25 rfl (hQ)
set_option maxHeartbeats 4000000 in
set_option maxRecDepth 100000 in
theorem c_shareOf_k {c : cx} {d : Nat} {X : nX} {Y : nY} {n : Nat} (hn : n ≤ 10) (h6 : X 0 6 = nI n) {t : Nat} (ht : t < n) : sc c mX7_shareOf (d + 2) [.ref (c_ad c 0), .int (nI t)] (X) (Y) (some (.long (Y 103 t))) (X) (Y) := by
  intro Q hQ
  show ss c mX7_shareOf (d + 2) Q 0 [(0, .ref (c_ad c 0)), (1, .int (nI t))] [] (X) (Y)
  have ht9 : ix (nI t) n = true := ix_of ht (by omega)
  refine ss_iload_n dX7_shareOf_0 1 rfl ?_
  refine ss_iconst (v := -1) dX7_shareOf_1 (by decide) ?_
  refine ss_icmp_ne 14 dX7_shareOf_2 (by decide) (fun c2 => ?_) (fun c2 => by first | exact kd_tf (by intro h9; have h8 := congrArg Int32.toInt h9; rw [nI_toInt (by omega)] at h8; have h0 : (-1 : Int32).toInt = -1 := rfl; omega) c2 | exact kd_ft (by intro h9; have h8 := congrArg Int32.toInt h9; rw [nI_toInt (by omega)] at h8; have h0 : (-1 : Int32).toInt = -1 := rfl; omega) c2 | exact absurd (by intro h9; have h8 := congrArg Int32.toInt h9; rw [nI_toInt (by omega)] at h8; have h0 : (-1 : Int32).toInt = -1 := rfl; omega) c2 | exact absurd c2 (by intro h9; have h8 := congrArg Int32.toInt h9; rw [nI_toInt (by omega)] at h8; have h0 : (-1 : Int32).toInt = -1 := rfl; omega))
  refine ss_aload_n dX7_shareOf_14 0 rfl ?_
  refine ss_iload_n dX7_shareOf_15 1 rfl ?_
  refine ss_callV (As := [_]) (i := 0) dX7_shareOf_16 vlX7_159 clX7_isThing rfl rfl (by omega) (sh_r0 _ _) rfl (Nat.le_of_ble_eq_true rfl) (Nat.le_of_ble_eq_true rfl) (q_isThing hn h6) ?_
  refine sy_if_ne 26 dX7_shareOf_19 (by decide) (fun c19 => ?_) (fun c19 => by first | exact kd_tf (ht9) c19 | exact kd_ft (ht9) c19 | exact absurd (ht9) c19 | exact absurd c19 (ht9))
  refine ss_aload_n dX7_shareOf_26 0 rfl ?_
  refine ss_get (i := 0) dX7_shareOf_27 flX7_47 (by omega) (sh_r0 _ _) rfl ?_
  refine ss_get (i := 101) dX7_shareOf_30 flX7_300 (by omega) (sh_r101 _ _) rfl ?_
  refine ss_iload_n dX7_shareOf_33 1 rfl ?_
  refine ss_lald (i := 103) dX7_shareOf_34 (by omega) (sh_r103) (by omega) (by decide) ?_
  exact ss_lret dX7_shareOf_35 rfl (hQ)
set_option maxHeartbeats 4000000 in
set_option maxRecDepth 100000 in
theorem c_share_u {c : cx} {d : Nat} {X : nX} {Y : nY} {n : Nat} (hn : n ≤ 10) (h6 : X 0 6 = nI n) {t : Int32} {v : Int64} (ht : ix t n = false) : sc c mX7_share (d + 2) [.ref (c_ad c 0), .int t, .long v] (X) (Y) (some (.long (-1001))) (X) (Y) := by
  intro Q hQ
  show ss c mX7_share (d + 2) Q 0 [(0, .ref (c_ad c 0)), (1, .int t), (2, .long v)] [] (X) (Y)
  refine ss_aload_n dX7_share_0 0 rfl ?_
  refine ss_iload_n dX7_share_1 1 rfl ?_
  refine ss_callV (As := [_]) (i := 0) dX7_share_2 vlX7_159 clX7_isThing rfl rfl (by omega) (sh_r0 _ _) rfl (Nat.le_of_ble_eq_true rfl) (Nat.le_of_ble_eq_true rfl) (q_isThing hn h6) ?_
  refine sy_if_ne 12 dX7_share_5 (by decide) (fun c5 => by first | exact kd_tf (ht) c5 | exact kd_ft (ht) c5 | exact absurd (ht) c5 | exact absurd c5 (ht)) (fun c5 => ?_)
  refine ss_ldc2 dX7_share_8 kcX7_90 ?_
  exact ss_lret dX7_share_11 rfl (hQ)
set_option maxHeartbeats 4000000 in
set_option maxRecDepth 100000 in
theorem c_share_o {c : cx} {d : Nat} {X : nX} {Y : nY} {n : Nat} (hn : n ≤ 10) (h6 : X 0 6 = nI n) {t : Int32} {v : Int64} (ht : ix t n = true) (hv : wi v (-1000000000000) 1000000000000 = false) : sc c mX7_share (d + 2) [.ref (c_ad c 0), .int t, .long v] (X) (Y) (some (.long (-1002))) (X) (Y) := by
  intro Q hQ
  show ss c mX7_share (d + 2) Q 0 [(0, .ref (c_ad c 0)), (1, .int t), (2, .long v)] [] (X) (Y)
  refine ss_aload_n dX7_share_0 0 rfl ?_
  refine ss_iload_n dX7_share_1 1 rfl ?_
  refine ss_callV (As := [_]) (i := 0) dX7_share_2 vlX7_159 clX7_isThing rfl rfl (by omega) (sh_r0 _ _) rfl (Nat.le_of_ble_eq_true rfl) (Nat.le_of_ble_eq_true rfl) (q_isThing hn h6) ?_
  refine sy_if_ne 12 dX7_share_5 (by decide) (fun c5 => ?_) (fun c5 => by first | exact kd_tf (ht) c5 | exact kd_ft (ht) c5 | exact absurd (ht) c5 | exact absurd c5 (ht))
  refine ss_lload_n dX7_share_12 2 rfl ?_
  refine ss_ldc2 dX7_share_13 kcX7_298 ?_
  refine ss_callS (As := [_, _]) dX7_share_16 vlX7_142 clX7_isInSize rfl rfl (Nat.le_of_ble_eq_true rfl) (Nat.le_of_ble_eq_true rfl) (q_isInSize) ?_
  refine sy_if_ne 26 dX7_share_19 (by decide) (fun c19 => by first | exact kd_tf (hv) c19 | exact kd_ft (hv) c19 | exact absurd (hv) c19 | exact absurd c19 (hv)) (fun c19 => ?_)
  refine ss_ldc2 dX7_share_22 kcX7_92 ?_
  exact ss_lret dX7_share_25 rfl (hQ)
set_option maxHeartbeats 4000000 in
set_option maxRecDepth 100000 in
theorem c_share_k {c : cx} {d : Nat} {X : nX} {Y : nY} {n : Nat} (hn : n ≤ 10) (h6 : X 0 6 = nI n) {t : Nat} (ht : t < n) {v : Int64} (hv : wi v (-1000000000000) 1000000000000 = true) : sc c mX7_share (d + 2) [.ref (c_ad c 0), .int (nI t), .long v] (X) (Y) (some (.long (Y 103 t))) (X) (upl Y 103 t v) := by
  intro Q hQ
  show ss c mX7_share (d + 2) Q 0 [(0, .ref (c_ad c 0)), (1, .int (nI t)), (2, .long v)] [] (X) (Y)
  have ht9 : ix (nI t) n = true := ix_of ht (by omega)
  refine ss_aload_n dX7_share_0 0 rfl ?_
  refine ss_iload_n dX7_share_1 1 rfl ?_
  refine ss_callV (As := [_]) (i := 0) dX7_share_2 vlX7_159 clX7_isThing rfl rfl (by omega) (sh_r0 _ _) rfl (Nat.le_of_ble_eq_true rfl) (Nat.le_of_ble_eq_true rfl) (q_isThing hn h6) ?_
  refine sy_if_ne 12 dX7_share_5 (by decide) (fun c5 => ?_) (fun c5 => by first | exact kd_tf (ht9) c5 | exact kd_ft (ht9) c5 | exact absurd (ht9) c5 | exact absurd c5 (ht9))
  refine ss_lload_n dX7_share_12 2 rfl ?_
  refine ss_ldc2 dX7_share_13 kcX7_298 ?_
  refine ss_callS (As := [_, _]) dX7_share_16 vlX7_142 clX7_isInSize rfl rfl (Nat.le_of_ble_eq_true rfl) (Nat.le_of_ble_eq_true rfl) (q_isInSize) ?_
  refine sy_if_ne 26 dX7_share_19 (by decide) (fun c19 => ?_) (fun c19 => by first | exact kd_tf (hv) c19 | exact kd_ft (hv) c19 | exact absurd (hv) c19 | exact absurd c19 (hv))
  refine ss_aload_n dX7_share_26 0 rfl ?_
  refine ss_get (i := 0) dX7_share_27 flX7_47 (by omega) (sh_r0 _ _) rfl ?_
  refine ss_get (i := 101) dX7_share_30 flX7_300 (by omega) (sh_r101 _ _) rfl ?_
  refine ss_iload_n dX7_share_33 1 rfl ?_
  refine ss_lald (i := 103) dX7_share_34 (by omega) (sh_r103) (by omega) (by decide) ?_
  refine ss_lstore (lv' := [(4, _), (0, _), (1, _), (2, _)]) dX7_share_35 (by decide) rfl ?_
  refine ss_aload_n dX7_share_37 1 rfl ?_
  refine ss_get (i := 0) dX7_share_38 flX7_47 (by omega) (sh_r0 _ _) rfl ?_
  refine ss_get (i := 101) dX7_share_41 flX7_300 (by omega) (sh_r101 _ _) rfl ?_
  refine ss_iload_n dX7_share_44 2 rfl ?_
  refine ss_lload_n dX7_share_45 3 rfl ?_
  refine ss_last (i := 103) dX7_share_46 (by omega) (sh_r103) (by omega) (by decide) ?_
  refine ss_lload dX7_share_47 0 rfl ?_
  exact ss_lret dX7_share_49 rfl (hQ)
