set_option maxHeartbeats 4000000 in
set_option maxRecDepth 100000 in
theorem c_row_u {c : cx} {d : Nat} {X : nX} {Y : nY} {n : Nat} (hn : n ≤ 10) (h6 : X 0 6 = nI n) {m : Nat} (hm : m ≤ 12) (h7 : X 0 7 = nI m) {w t : Int32} {a : Int32} {b : Int32} {e : Int32} {f : Int32} (hu : ix w m = false ∨ ix t n = false) : sc c mX7_row (d + 6) [.ref (c_ad c 0), .int w, .int t, .int a, .int b, .int e, .int f] (X) (Y) (some (.int (-1001))) (X) (Y) := by
  intro Q hQ
  show ss c mX7_row (d + 6) Q 0 [(0, .ref (c_ad c 0)), (1, .int w), (2, .int t), (3, .int a), (4, .int b), (5, .int e), (6, .int f)] [] (X) (Y)
  refine ss_aload_n dX7_row_0 0 rfl ?_
  refine ss_iload_n dX7_row_1 1 rfl ?_
  refine ss_callV (As := [_]) (i := 0) dX7_row_2 vlX7_113 clX7_isWorth rfl rfl (by omega) (sh_r0 _ _) rfl (Nat.le_of_ble_eq_true rfl) (Nat.le_of_ble_eq_true rfl) (q_isWorth hm h7) ?_
  refine sy_if_eq 16 dX7_row_5 (by decide) (fun c5 => ?_) (fun c5 => ?_)
  · skip
    refine ss_sipush (v := -1001) dX7_row_16 (by decide) ?_
    exact ss_iret dX7_row_19 rfl rfl (hQ)
  · skip
    refine ss_aload_n dX7_row_8 0 rfl ?_
    refine ss_iload_n dX7_row_9 2 rfl ?_
    refine ss_callV (As := [_]) (i := 0) dX7_row_10 vlX7_159 clX7_isThing rfl rfl (by omega) (sh_r0 _ _) rfl (Nat.le_of_ble_eq_true rfl) (Nat.le_of_ble_eq_true rfl) (q_isThing hn h6) ?_
    refine sy_if_ne 20 dX7_row_13 (by decide) (fun c13 => by rcases hu with h8 | h8; exact kd_tf c5 h8; exact kd_tf c13 h8) (fun c13 => ?_)
    refine ss_sipush (v := -1001) dX7_row_16 (by decide) ?_
    exact ss_iret dX7_row_19 rfl rfl (hQ)
set_option maxHeartbeats 4000000 in
set_option maxRecDepth 100000 in
theorem c_row_o {c : cx} {d : Nat} {X : nX} {Y : nY} {n : Nat} (hn : n ≤ 10) (h6 : X 0 6 = nI n) {m : Nat} (hm : m ≤ 12) (h7 : X 0 7 = nI m) {j : Nat} (hjm : j < m) {t : Nat} (ht : t < n) {a : Int32} {b : Int32} {e : Int32} {f : Int32} (hv : wi a.toInt64 (-99) 99 = false ∨ wi b.toInt64 (-99) 99 = false ∨ wi e.toInt64 (-99) 99 = false ∨ wi f.toInt64 (-99) 99 = false) : sc c mX7_row (d + 6) [.ref (c_ad c 0), .int (nI j), .int (nI t), .int a, .int b, .int e, .int f] (X) (Y) (some (.int (-1002))) (X) (Y) := by
  intro Q hQ
  show ss c mX7_row (d + 6) Q 0 [(0, .ref (c_ad c 0)), (1, .int (nI j)), (2, .int (nI t)), (3, .int a), (4, .int b), (5, .int e), (6, .int f)] [] (X) (Y)
  have hj : j < 12 := by omega
  have hwj : ix (nI j) m = true := ix_of hjm (by omega)
  have ht9 : ix (nI t) n = true := ix_of ht (by omega)
  refine ss_aload_n dX7_row_0 0 rfl ?_
  refine ss_iload_n dX7_row_1 1 rfl ?_
  refine ss_callV (As := [_]) (i := 0) dX7_row_2 vlX7_113 clX7_isWorth rfl rfl (by omega) (sh_r0 _ _) rfl (Nat.le_of_ble_eq_true rfl) (Nat.le_of_ble_eq_true rfl) (q_isWorth hm h7) ?_
  refine sy_if_eq 16 dX7_row_5 (by decide) (fun c5 => by first | exact kd_tf (hwj) c5 | exact kd_ft (hwj) c5 | exact absurd (hwj) c5 | exact absurd c5 (hwj)) (fun c5 => ?_)
  refine ss_aload_n dX7_row_8 0 rfl ?_
  refine ss_iload_n dX7_row_9 2 rfl ?_
  refine ss_callV (As := [_]) (i := 0) dX7_row_10 vlX7_159 clX7_isThing rfl rfl (by omega) (sh_r0 _ _) rfl (Nat.le_of_ble_eq_true rfl) (Nat.le_of_ble_eq_true rfl) (q_isThing hn h6) ?_
  refine sy_if_ne 20 dX7_row_13 (by decide) (fun c13 => ?_) (fun c13 => by first | exact kd_tf (ht9) c13 | exact kd_ft (ht9) c13 | exact absurd (ht9) c13 | exact absurd c13 (ht9))
  refine ss_iload_n dX7_row_20 3 rfl ?_
  refine ss_i2l dX7_row_21 ?_
  refine ss_ldc2 dX7_row_22 kcX7_174 ?_
  refine ss_callS (As := [_, _]) dX7_row_25 vlX7_142 clX7_isInSize rfl rfl (Nat.le_of_ble_eq_true rfl) (Nat.le_of_ble_eq_true rfl) (q_isInSize) ?_
  refine sy_if_eq 43 dX7_row_28 (by decide) (fun c28 => ?_) (fun c28 => ?_)
  · skip
    refine ss_sipush (v := -1002) dX7_row_43 (by decide) ?_
    exact ss_iret dX7_row_46 rfl rfl (hQ)
  · skip
    refine ss_iload dX7_row_31 4 rfl ?_
    refine ss_i2l dX7_row_33 ?_
    refine ss_ldc2 dX7_row_34 kcX7_174 ?_
    refine ss_callS (As := [_, _]) dX7_row_37 vlX7_142 clX7_isInSize rfl rfl (Nat.le_of_ble_eq_true rfl) (Nat.le_of_ble_eq_true rfl) (q_isInSize) ?_
    refine sy_if_ne 47 dX7_row_40 (by decide) (fun c40 => ?_) (fun c40 => ?_)
    · skip
      refine ss_iload dX7_row_47 5 rfl ?_
      refine ss_i2l dX7_row_49 ?_
      refine ss_ldc2 dX7_row_50 kcX7_174 ?_
      refine ss_callS (As := [_, _]) dX7_row_53 vlX7_142 clX7_isInSize rfl rfl (Nat.le_of_ble_eq_true rfl) (Nat.le_of_ble_eq_true rfl) (q_isInSize) ?_
      refine sy_if_eq 71 dX7_row_56 (by decide) (fun c56 => ?_) (fun c56 => ?_)
      · skip
        refine ss_sipush (v := -1002) dX7_row_71 (by decide) ?_
        exact ss_iret dX7_row_74 rfl rfl (hQ)
      · skip
        refine ss_iload dX7_row_59 6 rfl ?_
        refine ss_i2l dX7_row_61 ?_
        refine ss_ldc2 dX7_row_62 kcX7_174 ?_
        refine ss_callS (As := [_, _]) dX7_row_65 vlX7_142 clX7_isInSize rfl rfl (Nat.le_of_ble_eq_true rfl) (Nat.le_of_ble_eq_true rfl) (q_isInSize) ?_
        refine sy_if_ne 75 dX7_row_68 (by decide) (fun c68 => by rcases hv with h8 | h8 | h8 | h8; exact kd_tf c28 h8; exact kd_tf c40 h8; exact kd_tf c56 h8; exact kd_tf c68 h8) (fun c68 => ?_)
        refine ss_sipush (v := -1002) dX7_row_71 (by decide) ?_
        exact ss_iret dX7_row_74 rfl rfl (hQ)
    · skip
      refine ss_sipush (v := -1002) dX7_row_43 (by decide) ?_
      exact ss_iret dX7_row_46 rfl rfl (hQ)
set_option maxHeartbeats 4000000 in
set_option maxRecDepth 100000 in
theorem c_row_n {c : cx} {d : Nat} {X : nX} {Y : nY} {n : Nat} (hn : n ≤ 10) (h6 : X 0 6 = nI n) {m : Nat} (hm : m ≤ 12) (h7 : X 0 7 = nI m) {j : Nat} (hjm : j < m) {t : Nat} (ht : t < n) {a : Int32} {b : Int32} {e : Int32} {f : Int32} (hva : wi a.toInt64 (-99) 99 = true) (hvb : wi b.toInt64 (-99) 99 = true) (hve : wi e.toInt64 (-99) 99 = true) (hvf : wi f.toInt64 (-99) 99 = true) (hh : X (2 + 7 * j) 4 = bI true) : sc c mX7_row (d + 6) [.ref (c_ad c 0), .int (nI j), .int (nI t), .int a, .int b, .int e, .int f] (X) (Y) (some (.int (-1003))) (X) (Y) := by
  intro Q hQ
  show ss c mX7_row (d + 6) Q 0 [(0, .ref (c_ad c 0)), (1, .int (nI j)), (2, .int (nI t)), (3, .int a), (4, .int b), (5, .int e), (6, .int f)] [] (X) (Y)
  have hj : j < 12 := by omega
  have hwj : ix (nI j) m = true := ix_of hjm (by omega)
  have ht9 : ix (nI t) n = true := ix_of ht (by omega)
  refine ss_aload_n dX7_row_0 0 rfl ?_
  refine ss_iload_n dX7_row_1 1 rfl ?_
  refine ss_callV (As := [_]) (i := 0) dX7_row_2 vlX7_113 clX7_isWorth rfl rfl (by omega) (sh_r0 _ _) rfl (Nat.le_of_ble_eq_true rfl) (Nat.le_of_ble_eq_true rfl) (q_isWorth hm h7) ?_
  refine sy_if_eq 16 dX7_row_5 (by decide) (fun c5 => by first | exact kd_tf (hwj) c5 | exact kd_ft (hwj) c5 | exact absurd (hwj) c5 | exact absurd c5 (hwj)) (fun c5 => ?_)
  refine ss_aload_n dX7_row_8 0 rfl ?_
  refine ss_iload_n dX7_row_9 2 rfl ?_
  refine ss_callV (As := [_]) (i := 0) dX7_row_10 vlX7_159 clX7_isThing rfl rfl (by omega) (sh_r0 _ _) rfl (Nat.le_of_ble_eq_true rfl) (Nat.le_of_ble_eq_true rfl) (q_isThing hn h6) ?_
  refine sy_if_ne 20 dX7_row_13 (by decide) (fun c13 => ?_) (fun c13 => by first | exact kd_tf (ht9) c13 | exact kd_ft (ht9) c13 | exact absurd (ht9) c13 | exact absurd c13 (ht9))
  refine ss_iload_n dX7_row_20 3 rfl ?_
  refine ss_i2l dX7_row_21 ?_
  refine ss_ldc2 dX7_row_22 kcX7_174 ?_
  refine ss_callS (As := [_, _]) dX7_row_25 vlX7_142 clX7_isInSize rfl rfl (Nat.le_of_ble_eq_true rfl) (Nat.le_of_ble_eq_true rfl) (q_isInSize) ?_
  refine sy_if_eq 43 dX7_row_28 (by decide) (fun c28 => by first | exact kd_tf (hva) c28 | exact kd_ft (hva) c28 | exact absurd (hva) c28 | exact absurd c28 (hva)) (fun c28 => ?_)
  refine ss_iload dX7_row_31 4 rfl ?_
  refine ss_i2l dX7_row_33 ?_
  refine ss_ldc2 dX7_row_34 kcX7_174 ?_
  refine ss_callS (As := [_, _]) dX7_row_37 vlX7_142 clX7_isInSize rfl rfl (Nat.le_of_ble_eq_true rfl) (Nat.le_of_ble_eq_true rfl) (q_isInSize) ?_
  refine sy_if_ne 47 dX7_row_40 (by decide) (fun c40 => ?_) (fun c40 => by first | exact kd_tf (hvb) c40 | exact kd_ft (hvb) c40 | exact absurd (hvb) c40 | exact absurd c40 (hvb))
  refine ss_iload dX7_row_47 5 rfl ?_
  refine ss_i2l dX7_row_49 ?_
  refine ss_ldc2 dX7_row_50 kcX7_174 ?_
  refine ss_callS (As := [_, _]) dX7_row_53 vlX7_142 clX7_isInSize rfl rfl (Nat.le_of_ble_eq_true rfl) (Nat.le_of_ble_eq_true rfl) (q_isInSize) ?_
  refine sy_if_eq 71 dX7_row_56 (by decide) (fun c56 => by first | exact kd_tf (hve) c56 | exact kd_ft (hve) c56 | exact absurd (hve) c56 | exact absurd c56 (hve)) (fun c56 => ?_)
  refine ss_iload dX7_row_59 6 rfl ?_
  refine ss_i2l dX7_row_61 ?_
  refine ss_ldc2 dX7_row_62 kcX7_174 ?_
  refine ss_callS (As := [_, _]) dX7_row_65 vlX7_142 clX7_isInSize rfl rfl (Nat.le_of_ble_eq_true rfl) (Nat.le_of_ble_eq_true rfl) (q_isInSize) ?_
  refine sy_if_ne 75 dX7_row_68 (by decide) (fun c68 => ?_) (fun c68 => by first | exact kd_tf (hvf) c68 | exact kd_ft (hvf) c68 | exact absurd (hvf) c68 | exact absurd c68 (hvf))
  refine ss_aload_n dX7_row_75 0 rfl ?_
  refine ss_get (i := 0) dX7_row_76 flX7_11 (by omega) (sh_r0 _ _) rfl ?_
  refine ss_iload_n dX7_row_79 1 rfl ?_
  refine ss_worth (w := j) dX7_row_80 hj ?_
  refine ss_astore (lv' := [(7, _), (0, _), (1, _), (2, _), (3, _), (4, _), (5, _), (6, _)]) dX7_row_81 (by decide) rfl ?_
  refine ss_aload dX7_row_83 0 rfl ?_
  refine ss_get (i := 2 + 7 * j) dX7_row_85 flX7_123 (by omega) (sh_w0 hj _ _) rfl ?_
  rw [hh]
  refine sy_if_eq 95 dX7_row_88 (by decide) (fun c88 => by first | exact kd_tf (rfl) c88 | exact kd_ft (rfl) c88 | exact absurd (rfl) c88 | exact absurd c88 (rfl)) (fun c88 => ?_)
  refine ss_sipush (v := -1003) dX7_row_91 (by decide) ?_
  exact ss_iret dX7_row_94 rfl rfl (hQ)
set_option maxHeartbeats 4000000 in
set_option maxRecDepth 100000 in
theorem c_row_c {c : cx} {d : Nat} {X : nX} {Y : nY} {n : Nat} (hn : n ≤ 10) (h6 : X 0 6 = nI n) {m : Nat} (hm : m ≤ 12) (h7 : X 0 7 = nI m) {j : Nat} (hjm : j < m) {t : Nat} (ht : t < n) {a : Int32} {b : Int32} {e : Int32} {f : Int32} (hva : wi a.toInt64 (-99) 99 = true) (hvb : wi b.toInt64 (-99) 99 = true) (hve : wi e.toInt64 (-99) 99 = true) (hvf : wi f.toInt64 (-99) 99 = true) (hh : X (2 + 7 * j) 4 = bI false) (hkd : ¬ X (2 + 7 * j) 5 = nI 3) : sc c mX7_row (d + 6) [.ref (c_ad c 0), .int (nI j), .int (nI t), .int a, .int b, .int e, .int f] (X) (Y) (some (.int (nI 0))) (up2 X 0 8 (nI 5)) (Y) := by
  intro Q hQ
  show ss c mX7_row (d + 6) Q 0 [(0, .ref (c_ad c 0)), (1, .int (nI j)), (2, .int (nI t)), (3, .int a), (4, .int b), (5, .int e), (6, .int f)] [] (X) (Y)
  have hj : j < 12 := by omega
  have hwj : ix (nI j) m = true := ix_of hjm (by omega)
  have ht9 : ix (nI t) n = true := ix_of ht (by omega)
  refine ss_aload_n dX7_row_0 0 rfl ?_
  refine ss_iload_n dX7_row_1 1 rfl ?_
  refine ss_callV (As := [_]) (i := 0) dX7_row_2 vlX7_113 clX7_isWorth rfl rfl (by omega) (sh_r0 _ _) rfl (Nat.le_of_ble_eq_true rfl) (Nat.le_of_ble_eq_true rfl) (q_isWorth hm h7) ?_
  refine sy_if_eq 16 dX7_row_5 (by decide) (fun c5 => by first | exact kd_tf (hwj) c5 | exact kd_ft (hwj) c5 | exact absurd (hwj) c5 | exact absurd c5 (hwj)) (fun c5 => ?_)
  refine ss_aload_n dX7_row_8 0 rfl ?_
  refine ss_iload_n dX7_row_9 2 rfl ?_
  refine ss_callV (As := [_]) (i := 0) dX7_row_10 vlX7_159 clX7_isThing rfl rfl (by omega) (sh_r0 _ _) rfl (Nat.le_of_ble_eq_true rfl) (Nat.le_of_ble_eq_true rfl) (q_isThing hn h6) ?_
  refine sy_if_ne 20 dX7_row_13 (by decide) (fun c13 => ?_) (fun c13 => by first | exact kd_tf (ht9) c13 | exact kd_ft (ht9) c13 | exact absurd (ht9) c13 | exact absurd c13 (ht9))
  refine ss_iload_n dX7_row_20 3 rfl ?_
  refine ss_i2l dX7_row_21 ?_
  refine ss_ldc2 dX7_row_22 kcX7_174 ?_
  refine ss_callS (As := [_, _]) dX7_row_25 vlX7_142 clX7_isInSize rfl rfl (Nat.le_of_ble_eq_true rfl) (Nat.le_of_ble_eq_true rfl) (q_isInSize) ?_
  refine sy_if_eq 43 dX7_row_28 (by decide) (fun c28 => by first | exact kd_tf (hva) c28 | exact kd_ft (hva) c28 | exact absurd (hva) c28 | exact absurd c28 (hva)) (fun c28 => ?_)
  refine ss_iload dX7_row_31 4 rfl ?_
  refine ss_i2l dX7_row_33 ?_
  refine ss_ldc2 dX7_row_34 kcX7_174 ?_
  refine ss_callS (As := [_, _]) dX7_row_37 vlX7_142 clX7_isInSize rfl rfl (Nat.le_of_ble_eq_true rfl) (Nat.le_of_ble_eq_true rfl) (q_isInSize) ?_
  refine sy_if_ne 47 dX7_row_40 (by decide) (fun c40 => ?_) (fun c40 => by first | exact kd_tf (hvb) c40 | exact kd_ft (hvb) c40 | exact absurd (hvb) c40 | exact absurd c40 (hvb))
  refine ss_iload dX7_row_47 5 rfl ?_
  refine ss_i2l dX7_row_49 ?_
  refine ss_ldc2 dX7_row_50 kcX7_174 ?_
  refine ss_callS (As := [_, _]) dX7_row_53 vlX7_142 clX7_isInSize rfl rfl (Nat.le_of_ble_eq_true rfl) (Nat.le_of_ble_eq_true rfl) (q_isInSize) ?_
  refine sy_if_eq 71 dX7_row_56 (by decide) (fun c56 => by first | exact kd_tf (hve) c56 | exact kd_ft (hve) c56 | exact absurd (hve) c56 | exact absurd c56 (hve)) (fun c56 => ?_)
  refine ss_iload dX7_row_59 6 rfl ?_
  refine ss_i2l dX7_row_61 ?_
  refine ss_ldc2 dX7_row_62 kcX7_174 ?_
  refine ss_callS (As := [_, _]) dX7_row_65 vlX7_142 clX7_isInSize rfl rfl (Nat.le_of_ble_eq_true rfl) (Nat.le_of_ble_eq_true rfl) (q_isInSize) ?_
  refine sy_if_ne 75 dX7_row_68 (by decide) (fun c68 => ?_) (fun c68 => by first | exact kd_tf (hvf) c68 | exact kd_ft (hvf) c68 | exact absurd (hvf) c68 | exact absurd c68 (hvf))
  refine ss_aload_n dX7_row_75 0 rfl ?_
  refine ss_get (i := 0) dX7_row_76 flX7_11 (by omega) (sh_r0 _ _) rfl ?_
  refine ss_iload_n dX7_row_79 1 rfl ?_
  refine ss_worth (w := j) dX7_row_80 hj ?_
  refine ss_astore (lv' := [(7, _), (0, _), (1, _), (2, _), (3, _), (4, _), (5, _), (6, _)]) dX7_row_81 (by decide) rfl ?_
  refine ss_aload dX7_row_83 0 rfl ?_
  refine ss_get (i := 2 + 7 * j) dX7_row_85 flX7_123 (by omega) (sh_w0 hj _ _) rfl ?_
  rw [hh]
  refine sy_if_eq 95 dX7_row_88 (by decide) (fun c88 => ?_) (fun c88 => by first | exact kd_tf (rfl) c88 | exact kd_ft (rfl) c88 | exact absurd (rfl) c88 | exact absurd c88 (rfl))
  refine ss_aload dX7_row_95 0 rfl ?_
  refine ss_get (i := 2 + 7 * j) dX7_row_97 flX7_132 (by omega) (sh_w0 hj _ _) rfl ?_
  refine ss_iconst (v := nI 3) dX7_row_100 (by decide) ?_
  refine ss_icmp_eq 110 dX7_row_101 (by decide) (fun c101 => by first | exact kd_tf (hkd) c101 | exact kd_ft (hkd) c101 | exact absurd (hkd) c101 | exact absurd c101 (hkd)) (fun c101 => ?_)
  refine ss_aload_n dX7_row_104 1 rfl ?_
  refine ss_iconst (v := nI 5) dX7_row_105 (by decide) ?_
  refine ss_callV (As := [_]) (i := 0) dX7_row_106 vlX7_75 clX7_meet rfl rfl (by omega) (sh_r0 _ _) rfl (Nat.le_of_ble_eq_true rfl) (Nat.le_of_ble_eq_true rfl) (q_meet) ?_
  exact ss_iret dX7_row_109 rfl rfl (hQ)
def x_row (X : nX) (j t : Nat) (a b e f : Int32) : nX := up2 (up2 (up2 (up2 (up2 X 0 8 (nI 0)) (5 + 7 * j) (t * 4) a) (5 + 7 * j) (t * 4 + 1) b) (5 + 7 * j) (t * 4 + 2) e) (5 + 7 * j) (t * 4 + 3) f
set_option maxHeartbeats 4000000 in
set_option maxRecDepth 100000 in
theorem c_row_k {c : cx} {d : Nat} {X : nX} {Y : nY} {n : Nat} (hn : n ≤ 10) (h6 : X 0 6 = nI n) {m : Nat} (hm : m ≤ 12) (h7 : X 0 7 = nI m) {j : Nat} (hjm : j < m) {t : Nat} (ht : t < n) {a : Int32} {b : Int32} {e : Int32} {f : Int32} (hva : wi a.toInt64 (-99) 99 = true) (hvb : wi b.toInt64 (-99) 99 = true) (hve : wi e.toInt64 (-99) 99 = true) (hvf : wi f.toInt64 (-99) 99 = true) (hh : X (2 + 7 * j) 4 = bI false) (hkd : X (2 + 7 * j) 5 = nI 3) (hse : X (2 + 7 * j) 7 = nI (2 ^ n)) (hth : X (2 + 7 * j) 6 = nI n) : sc c mX7_row (d + 6) [.ref (c_ad c 0), .int (nI j), .int (nI t), .int a, .int b, .int e, .int f] (X) (Y) (some (.int (nI 1))) (x_row X j t a b e f) (srw (srw Y (6 + 7 * j) (ran (x_row X j t a b e f (5 + 7 * j)) n t (Y (3 + 7 * j)) (Y (6 + 7 * j)) (2 ^ n)).2) (3 + 7 * j) (ran (x_row X j t a b e f (5 + 7 * j)) n t (Y (3 + 7 * j)) (Y (6 + 7 * j)) (2 ^ n)).1) := by
  intro Q hQ
  show ss c mX7_row (d + 6) Q 0 [(0, .ref (c_ad c 0)), (1, .int (nI j)), (2, .int (nI t)), (3, .int a), (4, .int b), (5, .int e), (6, .int f)] [] (X) (Y)
  have hj : j < 12 := by omega
  have hwj : ix (nI j) m = true := ix_of hjm (by omega)
  have ht9 : ix (nI t) n = true := ix_of ht (by omega)
  refine ss_aload_n dX7_row_0 0 rfl ?_
  refine ss_iload_n dX7_row_1 1 rfl ?_
  refine ss_callV (As := [_]) (i := 0) dX7_row_2 vlX7_113 clX7_isWorth rfl rfl (by omega) (sh_r0 _ _) rfl (Nat.le_of_ble_eq_true rfl) (Nat.le_of_ble_eq_true rfl) (q_isWorth hm h7) ?_
  refine sy_if_eq 16 dX7_row_5 (by decide) (fun c5 => by first | exact kd_tf (hwj) c5 | exact kd_ft (hwj) c5 | exact absurd (hwj) c5 | exact absurd c5 (hwj)) (fun c5 => ?_)
  refine ss_aload_n dX7_row_8 0 rfl ?_
  refine ss_iload_n dX7_row_9 2 rfl ?_
  refine ss_callV (As := [_]) (i := 0) dX7_row_10 vlX7_159 clX7_isThing rfl rfl (by omega) (sh_r0 _ _) rfl (Nat.le_of_ble_eq_true rfl) (Nat.le_of_ble_eq_true rfl) (q_isThing hn h6) ?_
  refine sy_if_ne 20 dX7_row_13 (by decide) (fun c13 => ?_) (fun c13 => by first | exact kd_tf (ht9) c13 | exact kd_ft (ht9) c13 | exact absurd (ht9) c13 | exact absurd c13 (ht9))
  refine ss_iload_n dX7_row_20 3 rfl ?_
  refine ss_i2l dX7_row_21 ?_
  refine ss_ldc2 dX7_row_22 kcX7_174 ?_
  refine ss_callS (As := [_, _]) dX7_row_25 vlX7_142 clX7_isInSize rfl rfl (Nat.le_of_ble_eq_true rfl) (Nat.le_of_ble_eq_true rfl) (q_isInSize) ?_
  refine sy_if_eq 43 dX7_row_28 (by decide) (fun c28 => by first | exact kd_tf (hva) c28 | exact kd_ft (hva) c28 | exact absurd (hva) c28 | exact absurd c28 (hva)) (fun c28 => ?_)
  refine ss_iload dX7_row_31 4 rfl ?_
  refine ss_i2l dX7_row_33 ?_
  refine ss_ldc2 dX7_row_34 kcX7_174 ?_
  refine ss_callS (As := [_, _]) dX7_row_37 vlX7_142 clX7_isInSize rfl rfl (Nat.le_of_ble_eq_true rfl) (Nat.le_of_ble_eq_true rfl) (q_isInSize) ?_
  refine sy_if_ne 47 dX7_row_40 (by decide) (fun c40 => ?_) (fun c40 => by first | exact kd_tf (hvb) c40 | exact kd_ft (hvb) c40 | exact absurd (hvb) c40 | exact absurd c40 (hvb))
  refine ss_iload dX7_row_47 5 rfl ?_
  refine ss_i2l dX7_row_49 ?_
  refine ss_ldc2 dX7_row_50 kcX7_174 ?_
  refine ss_callS (As := [_, _]) dX7_row_53 vlX7_142 clX7_isInSize rfl rfl (Nat.le_of_ble_eq_true rfl) (Nat.le_of_ble_eq_true rfl) (q_isInSize) ?_
  refine sy_if_eq 71 dX7_row_56 (by decide) (fun c56 => by first | exact kd_tf (hve) c56 | exact kd_ft (hve) c56 | exact absurd (hve) c56 | exact absurd c56 (hve)) (fun c56 => ?_)
  refine ss_iload dX7_row_59 6 rfl ?_
  refine ss_i2l dX7_row_61 ?_
  refine ss_ldc2 dX7_row_62 kcX7_174 ?_
  refine ss_callS (As := [_, _]) dX7_row_65 vlX7_142 clX7_isInSize rfl rfl (Nat.le_of_ble_eq_true rfl) (Nat.le_of_ble_eq_true rfl) (q_isInSize) ?_
  refine sy_if_ne 75 dX7_row_68 (by decide) (fun c68 => ?_) (fun c68 => by first | exact kd_tf (hvf) c68 | exact kd_ft (hvf) c68 | exact absurd (hvf) c68 | exact absurd c68 (hvf))
  refine ss_aload_n dX7_row_75 0 rfl ?_
  refine ss_get (i := 0) dX7_row_76 flX7_11 (by omega) (sh_r0 _ _) rfl ?_
  refine ss_iload_n dX7_row_79 1 rfl ?_
  refine ss_worth (w := j) dX7_row_80 hj ?_
  refine ss_astore (lv' := [(7, _), (0, _), (1, _), (2, _), (3, _), (4, _), (5, _), (6, _)]) dX7_row_81 (by decide) rfl ?_
  refine ss_aload dX7_row_83 0 rfl ?_
  refine ss_get (i := 2 + 7 * j) dX7_row_85 flX7_123 (by omega) (sh_w0 hj _ _) rfl ?_
  rw [hh]
  refine sy_if_eq 95 dX7_row_88 (by decide) (fun c88 => ?_) (fun c88 => by first | exact kd_tf (rfl) c88 | exact kd_ft (rfl) c88 | exact absurd (rfl) c88 | exact absurd c88 (rfl))
  refine ss_aload dX7_row_95 0 rfl ?_
  refine ss_get (i := 2 + 7 * j) dX7_row_97 flX7_132 (by omega) (sh_w0 hj _ _) rfl ?_
  refine ss_iconst (v := nI 3) dX7_row_100 (by decide) ?_
  refine ss_icmp_eq 110 dX7_row_101 (by decide) (fun c101 => ?_) (fun c101 => by first | exact kd_tf (hkd) c101 | exact kd_ft (hkd) c101 | exact absurd (hkd) c101 | exact absurd c101 (hkd))
  refine ss_aload_n dX7_row_110 1 rfl ?_
  refine ss_iconst (v := nI 0) dX7_row_111 (by decide) ?_
  refine ss_put (i := 0) dX7_row_112 fwX7_79 (by omega) (sh_r0 _ _) rfl rfl (Nat.le_of_ble_eq_true rfl) (sh_r0 _ _) ?_
  refine ss_aload dX7_row_115 0 rfl ?_
  refine ss_get (i := 2 + 7 * j) dX7_row_117 flX7_176 (by omega) (sh_w0 hj _ _) rfl ?_
  refine ss_iload_n dX7_row_120 3 rfl ?_
  refine ss_iload_n dX7_row_121 4 rfl ?_
  refine ss_iload dX7_row_122 5 rfl ?_
  refine ss_iload dX7_row_124 6 rfl ?_
  refine ss_iload dX7_row_126 7 rfl ?_
  refine ss_callV (As := [_, _, _, _, _]) (i := 4 + 7 * j) dX7_row_128 vlX7_180 clX3_write rfl rfl (by omega) (sh_w2 hj _ _) rfl (Nat.le_of_ble_eq_true rfl) (Nat.le_of_ble_eq_true rfl) (q_write hj (by omega)) ?_
  refine ss_aload dX7_row_131 0 rfl ?_
  refine ss_iload_n dX7_row_133 3 rfl ?_
  refine ss_callV (As := [_]) (i := 2 + 7 * j) dX7_row_134 vlX7_186 clX6_rankAnew rfl rfl (by omega) (sh_w0 hj _ _) rfl (Nat.le_of_ble_eq_true rfl) (Nat.le_of_ble_eq_true rfl) (q_rankAnew hj (p2_le hn) (by simp only [up2_at]; rw [if_neg (by omega), if_neg (by omega), if_neg (by omega), if_neg (by omega), if_neg (by omega)]; exact hse) hn (by simp only [up2_at]; rw [if_neg (by omega), if_neg (by omega), if_neg (by omega), if_neg (by omega), if_neg (by omega)]; exact hth) (by omega)) ?_
  refine ss_iconst (v := nI 1) dX7_row_137 (by decide) ?_
  exact ss_iret dX7_row_138 rfl rfl (hQ)
set_option maxHeartbeats 4000000 in
set_option maxRecDepth 100000 in
theorem c_rise_o {c : cx} {d : Nat} {X : nX} {Y : nY} {m : Nat} (hm : m ≤ 12) (h7 : X 0 7 = nI m) {j : Nat} (hjm : j < m) {v : Int32} (hv : wi v.toInt64 (-10000) 10000 = false) : sc c mX7_rise (d + 3) [.ref (c_ad c 0), .int (nI j), .int v] (X) (Y) (some (.int (-1002))) (X) (Y) := by
  intro Q hQ
  show ss c mX7_rise (d + 3) Q 0 [(0, .ref (c_ad c 0)), (1, .int (nI j)), (2, .int v)] [] (X) (Y)
  have hj : j < 12 := by omega
  have hwj : ix (nI j) m = true := ix_of hjm (by omega)
  refine ss_aload_n dX7_rise_0 0 rfl ?_
  refine ss_iload_n dX7_rise_1 1 rfl ?_
  refine ss_callV (As := [_]) (i := 0) dX7_rise_2 vlX7_113 clX7_isWorth rfl rfl (by omega) (sh_r0 _ _) rfl (Nat.le_of_ble_eq_true rfl) (Nat.le_of_ble_eq_true rfl) (q_isWorth hm h7) ?_
  refine sy_if_ne 12 dX7_rise_5 (by decide) (fun c5 => ?_) (fun c5 => by first | exact kd_tf (hwj) c5 | exact kd_ft (hwj) c5 | exact absurd (hwj) c5 | exact absurd c5 (hwj))
  refine ss_iload_n dX7_rise_12 2 rfl ?_
  refine ss_i2l dX7_rise_13 ?_
  refine ss_ldc2 dX7_rise_14 kcX7_162 ?_
  refine ss_callS (As := [_, _]) dX7_rise_17 vlX7_142 clX7_isInSize rfl rfl (Nat.le_of_ble_eq_true rfl) (Nat.le_of_ble_eq_true rfl) (q_isInSize) ?_
  refine sy_if_ne 27 dX7_rise_20 (by decide) (fun c20 => by first | exact kd_tf (hv) c20 | exact kd_ft (hv) c20 | exact absurd (hv) c20 | exact absurd c20 (hv)) (fun c20 => ?_)
  refine ss_sipush (v := -1002) dX7_rise_23 (by decide) ?_
  exact ss_iret dX7_rise_26 rfl rfl (hQ)
set_option maxHeartbeats 4000000 in
set_option maxRecDepth 100000 in
theorem c_rise_n1 {c : cx} {d : Nat} {X : nX} {Y : nY} {n : Nat} (hn : n ≤ 10) (h6 : X 0 6 = nI n) {m : Nat} (hm : m ≤ 12) (h7 : X 0 7 = nI m) {j : Nat} (hjm : j < m) {v : Int32} (hv : wi v.toInt64 (-10000) 10000 = true) (hh : X (2 + 7 * j) 4 = bI true) : sc c mX7_rise (d + 3) [.ref (c_ad c 0), .int (nI j), .int v] (X) (Y) (some (.int (-1003))) (X) (Y) := by
  intro Q hQ
  show ss c mX7_rise (d + 3) Q 0 [(0, .ref (c_ad c 0)), (1, .int (nI j)), (2, .int v)] [] (X) (Y)
  have hj : j < 12 := by omega
  have hwj : ix (nI j) m = true := ix_of hjm (by omega)
  refine ss_aload_n dX7_rise_0 0 rfl ?_
  refine ss_iload_n dX7_rise_1 1 rfl ?_
  refine ss_callV (As := [_]) (i := 0) dX7_rise_2 vlX7_113 clX7_isWorth rfl rfl (by omega) (sh_r0 _ _) rfl (Nat.le_of_ble_eq_true rfl) (Nat.le_of_ble_eq_true rfl) (q_isWorth hm h7) ?_
  refine sy_if_ne 12 dX7_rise_5 (by decide) (fun c5 => ?_) (fun c5 => by first | exact kd_tf (hwj) c5 | exact kd_ft (hwj) c5 | exact absurd (hwj) c5 | exact absurd c5 (hwj))
  refine ss_iload_n dX7_rise_12 2 rfl ?_
  refine ss_i2l dX7_rise_13 ?_
  refine ss_ldc2 dX7_rise_14 kcX7_162 ?_
  refine ss_callS (As := [_, _]) dX7_rise_17 vlX7_142 clX7_isInSize rfl rfl (Nat.le_of_ble_eq_true rfl) (Nat.le_of_ble_eq_true rfl) (q_isInSize) ?_
  refine sy_if_ne 27 dX7_rise_20 (by decide) (fun c20 => ?_) (fun c20 => by first | exact kd_tf (hv) c20 | exact kd_ft (hv) c20 | exact absurd (hv) c20 | exact absurd c20 (hv))
  refine ss_aload_n dX7_rise_27 0 rfl ?_
  refine ss_get (i := 0) dX7_rise_28 flX7_11 (by omega) (sh_r0 _ _) rfl ?_
  refine ss_iload_n dX7_rise_31 1 rfl ?_
  refine ss_worth (w := j) dX7_rise_32 hj ?_
  refine ss_astore_n (lv' := [(3, _), (0, _), (1, _), (2, _)]) dX7_rise_33 (by decide) rfl ?_
  refine ss_aload_n dX7_rise_34 0 rfl ?_
  refine ss_get (i := 2 + 7 * j) dX7_rise_35 flX7_123 (by omega) (sh_w0 hj _ _) rfl ?_
  rw [hh]
  refine sy_if_eq 45 dX7_rise_38 (by decide) (fun c38 => by first | exact kd_tf (rfl) c38 | exact kd_ft (rfl) c38 | exact absurd (rfl) c38 | exact absurd c38 (rfl)) (fun c38 => ?_)
  refine ss_sipush (v := -1003) dX7_rise_41 (by decide) ?_
  exact ss_iret dX7_rise_44 rfl rfl (hQ)
set_option maxHeartbeats 4000000 in
set_option maxRecDepth 100000 in
theorem c_rise_c {c : cx} {d : Nat} {X : nX} {Y : nY} {n : Nat} (hn : n ≤ 10) (h6 : X 0 6 = nI n) {m : Nat} (hm : m ≤ 12) (h7 : X 0 7 = nI m) {j : Nat} (hjm : j < m) {v : Int32} (hv : wi v.toInt64 (-10000) 10000 = true) (hh : X (2 + 7 * j) 4 = bI false) (hkd : ¬ X (2 + 7 * j) 5 = nI 4) : sc c mX7_rise (d + 3) [.ref (c_ad c 0), .int (nI j), .int v] (X) (Y) (some (.int (nI 0))) (up2 X 0 8 (nI 5)) (Y) := by
  intro Q hQ
  show ss c mX7_rise (d + 3) Q 0 [(0, .ref (c_ad c 0)), (1, .int (nI j)), (2, .int v)] [] (X) (Y)
  have hj : j < 12 := by omega
  have hwj : ix (nI j) m = true := ix_of hjm (by omega)
  refine ss_aload_n dX7_rise_0 0 rfl ?_
  refine ss_iload_n dX7_rise_1 1 rfl ?_
  refine ss_callV (As := [_]) (i := 0) dX7_rise_2 vlX7_113 clX7_isWorth rfl rfl (by omega) (sh_r0 _ _) rfl (Nat.le_of_ble_eq_true rfl) (Nat.le_of_ble_eq_true rfl) (q_isWorth hm h7) ?_
  refine sy_if_ne 12 dX7_rise_5 (by decide) (fun c5 => ?_) (fun c5 => by first | exact kd_tf (hwj) c5 | exact kd_ft (hwj) c5 | exact absurd (hwj) c5 | exact absurd c5 (hwj))
  refine ss_iload_n dX7_rise_12 2 rfl ?_
  refine ss_i2l dX7_rise_13 ?_
  refine ss_ldc2 dX7_rise_14 kcX7_162 ?_
  refine ss_callS (As := [_, _]) dX7_rise_17 vlX7_142 clX7_isInSize rfl rfl (Nat.le_of_ble_eq_true rfl) (Nat.le_of_ble_eq_true rfl) (q_isInSize) ?_
  refine sy_if_ne 27 dX7_rise_20 (by decide) (fun c20 => ?_) (fun c20 => by first | exact kd_tf (hv) c20 | exact kd_ft (hv) c20 | exact absurd (hv) c20 | exact absurd c20 (hv))
  refine ss_aload_n dX7_rise_27 0 rfl ?_
  refine ss_get (i := 0) dX7_rise_28 flX7_11 (by omega) (sh_r0 _ _) rfl ?_
  refine ss_iload_n dX7_rise_31 1 rfl ?_
  refine ss_worth (w := j) dX7_rise_32 hj ?_
  refine ss_astore_n (lv' := [(3, _), (0, _), (1, _), (2, _)]) dX7_rise_33 (by decide) rfl ?_
  refine ss_aload_n dX7_rise_34 0 rfl ?_
  refine ss_get (i := 2 + 7 * j) dX7_rise_35 flX7_123 (by omega) (sh_w0 hj _ _) rfl ?_
  rw [hh]
  refine sy_if_eq 45 dX7_rise_38 (by decide) (fun c38 => ?_) (fun c38 => by first | exact kd_tf (rfl) c38 | exact kd_ft (rfl) c38 | exact absurd (rfl) c38 | exact absurd c38 (rfl))
  refine ss_aload_n dX7_rise_45 0 rfl ?_
  refine ss_get (i := 2 + 7 * j) dX7_rise_46 flX7_132 (by omega) (sh_w0 hj _ _) rfl ?_
  refine ss_iconst (v := nI 4) dX7_rise_49 (by decide) ?_
  refine ss_icmp_eq 59 dX7_rise_50 (by decide) (fun c50 => by first | exact kd_tf (hkd) c50 | exact kd_ft (hkd) c50 | exact absurd (hkd) c50 | exact absurd c50 (hkd)) (fun c50 => ?_)
  refine ss_aload_n dX7_rise_53 1 rfl ?_
  refine ss_iconst (v := nI 5) dX7_rise_54 (by decide) ?_
  refine ss_callV (As := [_]) (i := 0) dX7_rise_55 vlX7_75 clX7_meet rfl rfl (by omega) (sh_r0 _ _) rfl (Nat.le_of_ble_eq_true rfl) (Nat.le_of_ble_eq_true rfl) (q_meet) ?_
  exact ss_iret dX7_rise_58 rfl rfl (hQ)
set_option maxHeartbeats 4000000 in
set_option maxRecDepth 100000 in
theorem c_rise_f {c : cx} {d : Nat} {X : nX} {Y : nY} {n : Nat} (hn : n ≤ 10) (h6 : X 0 6 = nI n) {m : Nat} (hm : m ≤ 12) (h7 : X 0 7 = nI m) {j : Nat} (hjm : j < m) {v : Int32} (hv : wi v.toInt64 (-10000) 10000 = true) (hh : X (2 + 7 * j) 4 = bI false) (hkd : X (2 + 7 * j) 5 = nI 4) {P : Nat} (hpi : X (2 + 7 * j) 8 = nI P) (hP : P = 10) : sc c mX7_rise (d + 3) [.ref (c_ad c 0), .int (nI j), .int v] (X) (Y) (some (.int (-1004))) (X) (Y) := by
  intro Q hQ
  show ss c mX7_rise (d + 3) Q 0 [(0, .ref (c_ad c 0)), (1, .int (nI j)), (2, .int v)] [] (X) (Y)
  have hj : j < 12 := by omega
  have hwj : ix (nI j) m = true := ix_of hjm (by omega)
  refine ss_aload_n dX7_rise_0 0 rfl ?_
  refine ss_iload_n dX7_rise_1 1 rfl ?_
  refine ss_callV (As := [_]) (i := 0) dX7_rise_2 vlX7_113 clX7_isWorth rfl rfl (by omega) (sh_r0 _ _) rfl (Nat.le_of_ble_eq_true rfl) (Nat.le_of_ble_eq_true rfl) (q_isWorth hm h7) ?_
  refine sy_if_ne 12 dX7_rise_5 (by decide) (fun c5 => ?_) (fun c5 => by first | exact kd_tf (hwj) c5 | exact kd_ft (hwj) c5 | exact absurd (hwj) c5 | exact absurd c5 (hwj))
  refine ss_iload_n dX7_rise_12 2 rfl ?_
  refine ss_i2l dX7_rise_13 ?_
  refine ss_ldc2 dX7_rise_14 kcX7_162 ?_
  refine ss_callS (As := [_, _]) dX7_rise_17 vlX7_142 clX7_isInSize rfl rfl (Nat.le_of_ble_eq_true rfl) (Nat.le_of_ble_eq_true rfl) (q_isInSize) ?_
  refine sy_if_ne 27 dX7_rise_20 (by decide) (fun c20 => ?_) (fun c20 => by first | exact kd_tf (hv) c20 | exact kd_ft (hv) c20 | exact absurd (hv) c20 | exact absurd c20 (hv))
  refine ss_aload_n dX7_rise_27 0 rfl ?_
  refine ss_get (i := 0) dX7_rise_28 flX7_11 (by omega) (sh_r0 _ _) rfl ?_
  refine ss_iload_n dX7_rise_31 1 rfl ?_
  refine ss_worth (w := j) dX7_rise_32 hj ?_
  refine ss_astore_n (lv' := [(3, _), (0, _), (1, _), (2, _)]) dX7_rise_33 (by decide) rfl ?_
  refine ss_aload_n dX7_rise_34 0 rfl ?_
  refine ss_get (i := 2 + 7 * j) dX7_rise_35 flX7_123 (by omega) (sh_w0 hj _ _) rfl ?_
  rw [hh]
  refine sy_if_eq 45 dX7_rise_38 (by decide) (fun c38 => ?_) (fun c38 => by first | exact kd_tf (rfl) c38 | exact kd_ft (rfl) c38 | exact absurd (rfl) c38 | exact absurd c38 (rfl))
  refine ss_aload_n dX7_rise_45 0 rfl ?_
  refine ss_get (i := 2 + 7 * j) dX7_rise_46 flX7_132 (by omega) (sh_w0 hj _ _) rfl ?_
  refine ss_iconst (v := nI 4) dX7_rise_49 (by decide) ?_
  refine ss_icmp_eq 59 dX7_rise_50 (by decide) (fun c50 => ?_) (fun c50 => by first | exact kd_tf (hkd) c50 | exact kd_ft (hkd) c50 | exact absurd (hkd) c50 | exact absurd c50 (hkd))
  refine ss_aload_n dX7_rise_59 0 rfl ?_
  refine ss_get (i := 2 + 7 * j) dX7_rise_60 flX7_164 (by omega) (sh_w0 hj _ _) rfl ?_
  rw [hpi]
  refine ss_bipush (v := nI 10) dX7_rise_63 (by decide) ?_
  refine sz_icmp_lt 72 dX7_rise_65 (by decide) (by omega) (by omega) (fun c65 => by omega) (fun c65 => ?_)
  refine ss_sipush (v := -1004) dX7_rise_68 (by decide) ?_
  exact ss_iret dX7_rise_71 rfl rfl (hQ)
set_option maxHeartbeats 4000000 in
set_option maxRecDepth 100000 in
theorem c_rise_n2 {c : cx} {d : Nat} {X : nX} {Y : nY} {n : Nat} (hn : n ≤ 10) (h6 : X 0 6 = nI n) {m : Nat} (hm : m ≤ 12) (h7 : X 0 7 = nI m) {j : Nat} (hjm : j < m) {v : Int32} (hv : wi v.toInt64 (-10000) 10000 = true) (hh : X (2 + 7 * j) 4 = bI false) (hkd : X (2 + 7 * j) 5 = nI 4) {P : Nat} (hpi : X (2 + 7 * j) 8 = nI P) (hP : P < 10) (hP0 : 0 < P) (hvr : ¬ v ≤ X (7 + 7 * j) (P - 1)) : sc c mX7_rise (d + 3) [.ref (c_ad c 0), .int (nI j), .int v] (X) (Y) (some (.int (-1003))) (X) (Y) := by
  intro Q hQ
  show ss c mX7_rise (d + 3) Q 0 [(0, .ref (c_ad c 0)), (1, .int (nI j)), (2, .int v)] [] (X) (Y)
  have hj : j < 12 := by omega
  have hwj : ix (nI j) m = true := ix_of hjm (by omega)
  refine ss_aload_n dX7_rise_0 0 rfl ?_
  refine ss_iload_n dX7_rise_1 1 rfl ?_
  refine ss_callV (As := [_]) (i := 0) dX7_rise_2 vlX7_113 clX7_isWorth rfl rfl (by omega) (sh_r0 _ _) rfl (Nat.le_of_ble_eq_true rfl) (Nat.le_of_ble_eq_true rfl) (q_isWorth hm h7) ?_
  refine sy_if_ne 12 dX7_rise_5 (by decide) (fun c5 => ?_) (fun c5 => by first | exact kd_tf (hwj) c5 | exact kd_ft (hwj) c5 | exact absurd (hwj) c5 | exact absurd c5 (hwj))
  refine ss_iload_n dX7_rise_12 2 rfl ?_
  refine ss_i2l dX7_rise_13 ?_
  refine ss_ldc2 dX7_rise_14 kcX7_162 ?_
  refine ss_callS (As := [_, _]) dX7_rise_17 vlX7_142 clX7_isInSize rfl rfl (Nat.le_of_ble_eq_true rfl) (Nat.le_of_ble_eq_true rfl) (q_isInSize) ?_
  refine sy_if_ne 27 dX7_rise_20 (by decide) (fun c20 => ?_) (fun c20 => by first | exact kd_tf (hv) c20 | exact kd_ft (hv) c20 | exact absurd (hv) c20 | exact absurd c20 (hv))
  refine ss_aload_n dX7_rise_27 0 rfl ?_
  refine ss_get (i := 0) dX7_rise_28 flX7_11 (by omega) (sh_r0 _ _) rfl ?_
  refine ss_iload_n dX7_rise_31 1 rfl ?_
  refine ss_worth (w := j) dX7_rise_32 hj ?_
  refine ss_astore_n (lv' := [(3, _), (0, _), (1, _), (2, _)]) dX7_rise_33 (by decide) rfl ?_
  refine ss_aload_n dX7_rise_34 0 rfl ?_
  refine ss_get (i := 2 + 7 * j) dX7_rise_35 flX7_123 (by omega) (sh_w0 hj _ _) rfl ?_
  rw [hh]
  refine sy_if_eq 45 dX7_rise_38 (by decide) (fun c38 => ?_) (fun c38 => by first | exact kd_tf (rfl) c38 | exact kd_ft (rfl) c38 | exact absurd (rfl) c38 | exact absurd c38 (rfl))
  refine ss_aload_n dX7_rise_45 0 rfl ?_
  refine ss_get (i := 2 + 7 * j) dX7_rise_46 flX7_132 (by omega) (sh_w0 hj _ _) rfl ?_
  refine ss_iconst (v := nI 4) dX7_rise_49 (by decide) ?_
  refine ss_icmp_eq 59 dX7_rise_50 (by decide) (fun c50 => ?_) (fun c50 => by first | exact kd_tf (hkd) c50 | exact kd_ft (hkd) c50 | exact absurd (hkd) c50 | exact absurd c50 (hkd))
  refine ss_aload_n dX7_rise_59 0 rfl ?_
  refine ss_get (i := 2 + 7 * j) dX7_rise_60 flX7_164 (by omega) (sh_w0 hj _ _) rfl ?_
  rw [hpi]
  refine ss_bipush (v := nI 10) dX7_rise_63 (by decide) ?_
  refine sz_icmp_lt 72 dX7_rise_65 (by decide) (by omega) (by omega) (fun c65 => ?_) (fun c65 => by omega)
  refine ss_aload_n dX7_rise_72 0 rfl ?_
  refine ss_get (i := 2 + 7 * j) dX7_rise_73 flX7_164 (by omega) (sh_w0 hj _ _) rfl ?_
  rw [hpi]
  refine ss_if_le 98 dX7_rise_76 (by decide) (fun c76 => by first | exact kd_tf (nI_nle hP0 (by omega)) c76 | exact kd_ft (nI_nle hP0 (by omega)) c76 | exact absurd (nI_nle hP0 (by omega)) c76 | exact absurd c76 (nI_nle hP0 (by omega))) (fun c76 => ?_)
  refine ss_iload_n dX7_rise_79 3 rfl ?_
  refine ss_aload_n dX7_rise_80 0 rfl ?_
  refine ss_get (i := 2 + 7 * j) dX7_rise_81 flX7_189 (by omega) (sh_w0 hj _ _) rfl ?_
  refine ss_aload_n dX7_rise_84 0 rfl ?_
  refine ss_get (i := 2 + 7 * j) dX7_rise_85 flX7_164 (by omega) (sh_w0 hj _ _) rfl ?_
  rw [hpi]
  refine ss_iconst (v := nI 1) dX7_rise_88 (by decide) ?_
  refine sz_isub dX7_rise_89 (by omega) ?_
  refine ss_iald (i := 7 + 7 * j) dX7_rise_90 (by omega) (sh_w5 hj) (by omega) (by decide) ?_
  refine ss_icmp_le 98 dX7_rise_91 (by decide) (fun c91 => by first | exact kd_tf (hvr) c91 | exact kd_ft (hvr) c91 | exact absurd (hvr) c91 | exact absurd c91 (hvr)) (fun c91 => ?_)
  refine ss_sipush (v := -1003) dX7_rise_94 (by decide) ?_
  exact ss_iret dX7_rise_97 rfl rfl (hQ)
set_option maxHeartbeats 4000000 in
set_option maxRecDepth 100000 in
theorem c_rise_k0 {c : cx} {d : Nat} {X : nX} {Y : nY} {n : Nat} (hn : n ≤ 10) (h6 : X 0 6 = nI n) {m : Nat} (hm : m ≤ 12) (h7 : X 0 7 = nI m) {j : Nat} (hjm : j < m) {v : Int32} (hv : wi v.toInt64 (-10000) 10000 = true) (hh : X (2 + 7 * j) 4 = bI false) (hkd : X (2 + 7 * j) 5 = nI 4) {P : Nat} (hpi : X (2 + 7 * j) 8 = nI P) (hP0 : P = 0) (hse : X (2 + 7 * j) 7 = nI (2 ^ n)) : sc c mX7_rise (d + 3) [.ref (c_ad c 0), .int (nI j), .int v] (X) (Y) (some (.int (nI (P + 1)))) (x_rise (up2 X 0 8 (nI 0)) j P v) (mpl Y (3 + 7 * j) 0 (2 ^ n) (f_rise (x_rise (up2 X 0 8 (nI 0)) j P v) j)) := by
  intro Q hQ
  show ss c mX7_rise (d + 3) Q 0 [(0, .ref (c_ad c 0)), (1, .int (nI j)), (2, .int v)] [] (X) (Y)
  have hj : j < 12 := by omega
  have hwj : ix (nI j) m = true := ix_of hjm (by omega)
  refine ss_aload_n dX7_rise_0 0 rfl ?_
  refine ss_iload_n dX7_rise_1 1 rfl ?_
  refine ss_callV (As := [_]) (i := 0) dX7_rise_2 vlX7_113 clX7_isWorth rfl rfl (by omega) (sh_r0 _ _) rfl (Nat.le_of_ble_eq_true rfl) (Nat.le_of_ble_eq_true rfl) (q_isWorth hm h7) ?_
  refine sy_if_ne 12 dX7_rise_5 (by decide) (fun c5 => ?_) (fun c5 => by first | exact kd_tf (hwj) c5 | exact kd_ft (hwj) c5 | exact absurd (hwj) c5 | exact absurd c5 (hwj))
  refine ss_iload_n dX7_rise_12 2 rfl ?_
  refine ss_i2l dX7_rise_13 ?_
  refine ss_ldc2 dX7_rise_14 kcX7_162 ?_
  refine ss_callS (As := [_, _]) dX7_rise_17 vlX7_142 clX7_isInSize rfl rfl (Nat.le_of_ble_eq_true rfl) (Nat.le_of_ble_eq_true rfl) (q_isInSize) ?_
  refine sy_if_ne 27 dX7_rise_20 (by decide) (fun c20 => ?_) (fun c20 => by first | exact kd_tf (hv) c20 | exact kd_ft (hv) c20 | exact absurd (hv) c20 | exact absurd c20 (hv))
  refine ss_aload_n dX7_rise_27 0 rfl ?_
  refine ss_get (i := 0) dX7_rise_28 flX7_11 (by omega) (sh_r0 _ _) rfl ?_
  refine ss_iload_n dX7_rise_31 1 rfl ?_
  refine ss_worth (w := j) dX7_rise_32 hj ?_
  refine ss_astore_n (lv' := [(3, _), (0, _), (1, _), (2, _)]) dX7_rise_33 (by decide) rfl ?_
  refine ss_aload_n dX7_rise_34 0 rfl ?_
  refine ss_get (i := 2 + 7 * j) dX7_rise_35 flX7_123 (by omega) (sh_w0 hj _ _) rfl ?_
  rw [hh]
  refine sy_if_eq 45 dX7_rise_38 (by decide) (fun c38 => ?_) (fun c38 => by first | exact kd_tf (rfl) c38 | exact kd_ft (rfl) c38 | exact absurd (rfl) c38 | exact absurd c38 (rfl))
  refine ss_aload_n dX7_rise_45 0 rfl ?_
  refine ss_get (i := 2 + 7 * j) dX7_rise_46 flX7_132 (by omega) (sh_w0 hj _ _) rfl ?_
  refine ss_iconst (v := nI 4) dX7_rise_49 (by decide) ?_
  refine ss_icmp_eq 59 dX7_rise_50 (by decide) (fun c50 => ?_) (fun c50 => by first | exact kd_tf (hkd) c50 | exact kd_ft (hkd) c50 | exact absurd (hkd) c50 | exact absurd c50 (hkd))
  refine ss_aload_n dX7_rise_59 0 rfl ?_
  refine ss_get (i := 2 + 7 * j) dX7_rise_60 flX7_164 (by omega) (sh_w0 hj _ _) rfl ?_
  rw [hpi]
  refine ss_bipush (v := nI 10) dX7_rise_63 (by decide) ?_
  refine sz_icmp_lt 72 dX7_rise_65 (by decide) (by omega) (by omega) (fun c65 => ?_) (fun c65 => by omega)
  refine ss_aload_n dX7_rise_72 0 rfl ?_
  refine ss_get (i := 2 + 7 * j) dX7_rise_73 flX7_164 (by omega) (sh_w0 hj _ _) rfl ?_
  rw [hpi]
  refine ss_if_le 98 dX7_rise_76 (by decide) (fun c76 => ?_) (fun c76 => by first | exact kd_tf (by rw [hP0]; decide) c76 | exact kd_ft (by rw [hP0]; decide) c76 | exact absurd (by rw [hP0]; decide) c76 | exact absurd c76 (by rw [hP0]; decide))
  refine ss_aload_n dX7_rise_98 1 rfl ?_
  refine ss_iconst (v := nI 0) dX7_rise_99 (by decide) ?_
  refine ss_put (i := 0) dX7_rise_100 fwX7_79 (by omega) (sh_r0 _ _) rfl rfl (Nat.le_of_ble_eq_true rfl) (sh_r0 _ _) ?_
  refine ss_aload_n dX7_rise_103 0 rfl ?_
  refine ss_iload_n dX7_rise_104 3 rfl ?_
  refine ss_callV (As := [_]) (i := 2 + 7 * j) dX7_rise_105 vlX7_193 clX6_takeRise rfl rfl (by omega) (sh_w0 hj _ _) rfl (Nat.le_of_ble_eq_true rfl) (Nat.le_of_ble_eq_true rfl) (q_takeRise (P := P) hj (p2_le hn) (by rw [up2_at, if_neg (by omega)]; exact hse) (by omega) (by rw [up2_at, if_neg (by omega)]; exact hpi)) ?_
  refine ss_aload_n dX7_rise_108 0 rfl ?_
  refine ss_get (i := 2 + 7 * j) dX7_rise_109 flX7_164 (by omega) (sh_w0 hj _ _) rfl ?_
  rw [show x_rise (up2 X 0 8 (nI 0)) j P v (2 + 7 * j) 8 = nI (P + 1) from by simp [x_rise, up2_at]]
  exact ss_iret dX7_rise_112 rfl rfl (hQ)
set_option maxHeartbeats 4000000 in
set_option maxRecDepth 100000 in
theorem c_rise_k1 {c : cx} {d : Nat} {X : nX} {Y : nY} {n : Nat} (hn : n ≤ 10) (h6 : X 0 6 = nI n) {m : Nat} (hm : m ≤ 12) (h7 : X 0 7 = nI m) {j : Nat} (hjm : j < m) {v : Int32} (hv : wi v.toInt64 (-10000) 10000 = true) (hh : X (2 + 7 * j) 4 = bI false) (hkd : X (2 + 7 * j) 5 = nI 4) {P : Nat} (hpi : X (2 + 7 * j) 8 = nI P) (hP : P < 10) (hP0 : 0 < P) (hvr : v ≤ X (7 + 7 * j) (P - 1)) (hse : X (2 + 7 * j) 7 = nI (2 ^ n)) : sc c mX7_rise (d + 3) [.ref (c_ad c 0), .int (nI j), .int v] (X) (Y) (some (.int (nI (P + 1)))) (x_rise (up2 X 0 8 (nI 0)) j P v) (mpl Y (3 + 7 * j) 0 (2 ^ n) (f_rise (x_rise (up2 X 0 8 (nI 0)) j P v) j)) := by
  intro Q hQ
  show ss c mX7_rise (d + 3) Q 0 [(0, .ref (c_ad c 0)), (1, .int (nI j)), (2, .int v)] [] (X) (Y)
  have hj : j < 12 := by omega
  have hwj : ix (nI j) m = true := ix_of hjm (by omega)
  refine ss_aload_n dX7_rise_0 0 rfl ?_
  refine ss_iload_n dX7_rise_1 1 rfl ?_
  refine ss_callV (As := [_]) (i := 0) dX7_rise_2 vlX7_113 clX7_isWorth rfl rfl (by omega) (sh_r0 _ _) rfl (Nat.le_of_ble_eq_true rfl) (Nat.le_of_ble_eq_true rfl) (q_isWorth hm h7) ?_
  refine sy_if_ne 12 dX7_rise_5 (by decide) (fun c5 => ?_) (fun c5 => by first | exact kd_tf (hwj) c5 | exact kd_ft (hwj) c5 | exact absurd (hwj) c5 | exact absurd c5 (hwj))
  refine ss_iload_n dX7_rise_12 2 rfl ?_
  refine ss_i2l dX7_rise_13 ?_
  refine ss_ldc2 dX7_rise_14 kcX7_162 ?_
  refine ss_callS (As := [_, _]) dX7_rise_17 vlX7_142 clX7_isInSize rfl rfl (Nat.le_of_ble_eq_true rfl) (Nat.le_of_ble_eq_true rfl) (q_isInSize) ?_
  refine sy_if_ne 27 dX7_rise_20 (by decide) (fun c20 => ?_) (fun c20 => by first | exact kd_tf (hv) c20 | exact kd_ft (hv) c20 | exact absurd (hv) c20 | exact absurd c20 (hv))
  refine ss_aload_n dX7_rise_27 0 rfl ?_
  refine ss_get (i := 0) dX7_rise_28 flX7_11 (by omega) (sh_r0 _ _) rfl ?_
  refine ss_iload_n dX7_rise_31 1 rfl ?_
  refine ss_worth (w := j) dX7_rise_32 hj ?_
  refine ss_astore_n (lv' := [(3, _), (0, _), (1, _), (2, _)]) dX7_rise_33 (by decide) rfl ?_
  refine ss_aload_n dX7_rise_34 0 rfl ?_
  refine ss_get (i := 2 + 7 * j) dX7_rise_35 flX7_123 (by omega) (sh_w0 hj _ _) rfl ?_
  rw [hh]
  refine sy_if_eq 45 dX7_rise_38 (by decide) (fun c38 => ?_) (fun c38 => by first | exact kd_tf (rfl) c38 | exact kd_ft (rfl) c38 | exact absurd (rfl) c38 | exact absurd c38 (rfl))
  refine ss_aload_n dX7_rise_45 0 rfl ?_
  refine ss_get (i := 2 + 7 * j) dX7_rise_46 flX7_132 (by omega) (sh_w0 hj _ _) rfl ?_
  refine ss_iconst (v := nI 4) dX7_rise_49 (by decide) ?_
  refine ss_icmp_eq 59 dX7_rise_50 (by decide) (fun c50 => ?_) (fun c50 => by first | exact kd_tf (hkd) c50 | exact kd_ft (hkd) c50 | exact absurd (hkd) c50 | exact absurd c50 (hkd))
  refine ss_aload_n dX7_rise_59 0 rfl ?_
  refine ss_get (i := 2 + 7 * j) dX7_rise_60 flX7_164 (by omega) (sh_w0 hj _ _) rfl ?_
  rw [hpi]
  refine ss_bipush (v := nI 10) dX7_rise_63 (by decide) ?_
  refine sz_icmp_lt 72 dX7_rise_65 (by decide) (by omega) (by omega) (fun c65 => ?_) (fun c65 => by omega)
  refine ss_aload_n dX7_rise_72 0 rfl ?_
  refine ss_get (i := 2 + 7 * j) dX7_rise_73 flX7_164 (by omega) (sh_w0 hj _ _) rfl ?_
  rw [hpi]
  refine ss_if_le 98 dX7_rise_76 (by decide) (fun c76 => by first | exact kd_tf (nI_nle hP0 (by omega)) c76 | exact kd_ft (nI_nle hP0 (by omega)) c76 | exact absurd (nI_nle hP0 (by omega)) c76 | exact absurd c76 (nI_nle hP0 (by omega))) (fun c76 => ?_)
  refine ss_iload_n dX7_rise_79 3 rfl ?_
  refine ss_aload_n dX7_rise_80 0 rfl ?_
  refine ss_get (i := 2 + 7 * j) dX7_rise_81 flX7_189 (by omega) (sh_w0 hj _ _) rfl ?_
  refine ss_aload_n dX7_rise_84 0 rfl ?_
  refine ss_get (i := 2 + 7 * j) dX7_rise_85 flX7_164 (by omega) (sh_w0 hj _ _) rfl ?_
  rw [hpi]
  refine ss_iconst (v := nI 1) dX7_rise_88 (by decide) ?_
  refine sz_isub dX7_rise_89 (by omega) ?_
  refine ss_iald (i := 7 + 7 * j) dX7_rise_90 (by omega) (sh_w5 hj) (by omega) (by decide) ?_
  refine ss_icmp_le 98 dX7_rise_91 (by decide) (fun c91 => ?_) (fun c91 => by first | exact kd_tf (hvr) c91 | exact kd_ft (hvr) c91 | exact absurd (hvr) c91 | exact absurd c91 (hvr))
  refine ss_aload_n dX7_rise_98 1 rfl ?_
  refine ss_iconst (v := nI 0) dX7_rise_99 (by decide) ?_
  refine ss_put (i := 0) dX7_rise_100 fwX7_79 (by omega) (sh_r0 _ _) rfl rfl (Nat.le_of_ble_eq_true rfl) (sh_r0 _ _) ?_
  refine ss_aload_n dX7_rise_103 0 rfl ?_
  refine ss_iload_n dX7_rise_104 3 rfl ?_
  refine ss_callV (As := [_]) (i := 2 + 7 * j) dX7_rise_105 vlX7_193 clX6_takeRise rfl rfl (by omega) (sh_w0 hj _ _) rfl (Nat.le_of_ble_eq_true rfl) (Nat.le_of_ble_eq_true rfl) (q_takeRise (P := P) hj (p2_le hn) (by rw [up2_at, if_neg (by omega)]; exact hse) (by omega) (by rw [up2_at, if_neg (by omega)]; exact hpi)) ?_
  refine ss_aload_n dX7_rise_108 0 rfl ?_
  refine ss_get (i := 2 + 7 * j) dX7_rise_109 flX7_164 (by omega) (sh_w0 hj _ _) rfl ?_
  rw [show x_rise (up2 X 0 8 (nI 0)) j P v (2 + 7 * j) 8 = nI (P + 1) from by simp [x_rise, up2_at]]
  exact ss_iret dX7_rise_112 rfl rfl (hQ)
set_option maxHeartbeats 4000000 in
set_option maxRecDepth 100000 in
theorem c_add_u {c : cx} {d : Nat} {X : nX} {Y : nY} {m : Nat} (hm : m ≤ 12) (h7 : X 0 7 = nI m) {w q v : Int32} (hu : ix w m = false ∨ ix q m = false) : sc c mX7_add (d + 4) [.ref (c_ad c 0), .int w, .int q, .int v] (X) (Y) (some (.int (-1001))) (X) (Y) := by
  intro Q hQ
  show ss c mX7_add (d + 4) Q 0 [(0, .ref (c_ad c 0)), (1, .int w), (2, .int q), (3, .int v)] [] (X) (Y)
  refine ss_aload_n dX7_add_0 0 rfl ?_
  refine ss_iload_n dX7_add_1 1 rfl ?_
  refine ss_callV (As := [_]) (i := 0) dX7_add_2 vlX7_113 clX7_isWorth rfl rfl (by omega) (sh_r0 _ _) rfl (Nat.le_of_ble_eq_true rfl) (Nat.le_of_ble_eq_true rfl) (q_isWorth hm h7) ?_
  refine sy_if_eq 16 dX7_add_5 (by decide) (fun c5 => ?_) (fun c5 => ?_)
  · skip
    refine ss_sipush (v := -1001) dX7_add_16 (by decide) ?_
    exact ss_iret dX7_add_19 rfl rfl (hQ)
  · skip
    refine ss_aload_n dX7_add_8 0 rfl ?_
    refine ss_iload_n dX7_add_9 2 rfl ?_
    refine ss_callV (As := [_]) (i := 0) dX7_add_10 vlX7_113 clX7_isWorth rfl rfl (by omega) (sh_r0 _ _) rfl (Nat.le_of_ble_eq_true rfl) (Nat.le_of_ble_eq_true rfl) (q_isWorth hm h7) ?_
    refine sy_if_ne 20 dX7_add_13 (by decide) (fun c13 => by rcases hu with h8 | h8; exact kd_tf c5 h8; exact kd_tf c13 h8) (fun c13 => ?_)
    refine ss_sipush (v := -1001) dX7_add_16 (by decide) ?_
    exact ss_iret dX7_add_19 rfl rfl (hQ)
set_option maxHeartbeats 4000000 in
set_option maxRecDepth 100000 in
theorem c_add_o {c : cx} {d : Nat} {X : nX} {Y : nY} {n : Nat} (hn : n ≤ 10) (h6 : X 0 6 = nI n) {m : Nat} (hm : m ≤ 12) (h7 : X 0 7 = nI m) {j : Nat} (hjm : j < m) {p : Nat} (hpm : p < m) {v : Int32} (hv : ix v 101 = false) : sc c mX7_add (d + 4) [.ref (c_ad c 0), .int (nI j), .int (nI p), .int v] (X) (Y) (some (.int (-1002))) (X) (Y) := by
  intro Q hQ
  show ss c mX7_add (d + 4) Q 0 [(0, .ref (c_ad c 0)), (1, .int (nI j)), (2, .int (nI p)), (3, .int v)] [] (X) (Y)
  have hj : j < 12 := by omega
  have hwj : ix (nI j) m = true := ix_of hjm (by omega)
  have hp : p < 12 := by omega
  have hp9 : ix (nI p) m = true := ix_of hpm (by omega)
  refine ss_aload_n dX7_add_0 0 rfl ?_
  refine ss_iload_n dX7_add_1 1 rfl ?_
  refine ss_callV (As := [_]) (i := 0) dX7_add_2 vlX7_113 clX7_isWorth rfl rfl (by omega) (sh_r0 _ _) rfl (Nat.le_of_ble_eq_true rfl) (Nat.le_of_ble_eq_true rfl) (q_isWorth hm h7) ?_
  refine sy_if_eq 16 dX7_add_5 (by decide) (fun c5 => by first | exact kd_tf (hwj) c5 | exact kd_ft (hwj) c5 | exact absurd (hwj) c5 | exact absurd c5 (hwj)) (fun c5 => ?_)
  refine ss_aload_n dX7_add_8 0 rfl ?_
  refine ss_iload_n dX7_add_9 2 rfl ?_
  refine ss_callV (As := [_]) (i := 0) dX7_add_10 vlX7_113 clX7_isWorth rfl rfl (by omega) (sh_r0 _ _) rfl (Nat.le_of_ble_eq_true rfl) (Nat.le_of_ble_eq_true rfl) (q_isWorth hm h7) ?_
  refine sy_if_ne 20 dX7_add_13 (by decide) (fun c13 => ?_) (fun c13 => by first | exact kd_tf (hp9) c13 | exact kd_ft (hp9) c13 | exact absurd (hp9) c13 | exact absurd c13 (hp9))
  refine ss_iload_n dX7_add_20 3 rfl ?_
  refine ss_i2l dX7_add_21 ?_
  refine ss_lconst (v := 0) dX7_add_22 (by decide) ?_
  refine ss_ldc2 dX7_add_23 kcX7_196 ?_
  refine ss_callS (As := [_, _, _]) dX7_add_26 vlX7_53 clX7_isWithin rfl rfl (Nat.le_of_ble_eq_true rfl) (Nat.le_of_ble_eq_true rfl) (q_isWithin) ?_
  refine sy_if_ne 36 dX7_add_29 (by decide) (fun c29 => by first | exact kd_tf (by rw [wi_ix (n := 101) rfl]; exact hv) c29 | exact kd_ft (by rw [wi_ix (n := 101) rfl]; exact hv) c29 | exact absurd (by rw [wi_ix (n := 101) rfl]; exact hv) c29 | exact absurd c29 (by rw [wi_ix (n := 101) rfl]; exact hv)) (fun c29 => ?_)
  refine ss_sipush (v := -1002) dX7_add_32 (by decide) ?_
  exact ss_iret dX7_add_35 rfl rfl (hQ)
set_option maxHeartbeats 4000000 in
set_option maxRecDepth 100000 in
theorem c_add_n1 {c : cx} {d : Nat} {X : nX} {Y : nY} {n : Nat} (hn : n ≤ 10) (h6 : X 0 6 = nI n) {m : Nat} (hm : m ≤ 12) (h7 : X 0 7 = nI m) {j : Nat} (hjm : j < m) {p : Nat} (hpm : p < m) {v : Int32} (hv : ix v 101 = true) (hh : X (2 + 7 * j) 4 = bI true) : sc c mX7_add (d + 4) [.ref (c_ad c 0), .int (nI j), .int (nI p), .int v] (X) (Y) (some (.int (-1003))) (X) (Y) := by
  intro Q hQ
  show ss c mX7_add (d + 4) Q 0 [(0, .ref (c_ad c 0)), (1, .int (nI j)), (2, .int (nI p)), (3, .int v)] [] (X) (Y)
  have hj : j < 12 := by omega
  have hwj : ix (nI j) m = true := ix_of hjm (by omega)
  have hp : p < 12 := by omega
  have hp9 : ix (nI p) m = true := ix_of hpm (by omega)
  refine ss_aload_n dX7_add_0 0 rfl ?_
  refine ss_iload_n dX7_add_1 1 rfl ?_
  refine ss_callV (As := [_]) (i := 0) dX7_add_2 vlX7_113 clX7_isWorth rfl rfl (by omega) (sh_r0 _ _) rfl (Nat.le_of_ble_eq_true rfl) (Nat.le_of_ble_eq_true rfl) (q_isWorth hm h7) ?_
  refine sy_if_eq 16 dX7_add_5 (by decide) (fun c5 => by first | exact kd_tf (hwj) c5 | exact kd_ft (hwj) c5 | exact absurd (hwj) c5 | exact absurd c5 (hwj)) (fun c5 => ?_)
  refine ss_aload_n dX7_add_8 0 rfl ?_
  refine ss_iload_n dX7_add_9 2 rfl ?_
  refine ss_callV (As := [_]) (i := 0) dX7_add_10 vlX7_113 clX7_isWorth rfl rfl (by omega) (sh_r0 _ _) rfl (Nat.le_of_ble_eq_true rfl) (Nat.le_of_ble_eq_true rfl) (q_isWorth hm h7) ?_
  refine sy_if_ne 20 dX7_add_13 (by decide) (fun c13 => ?_) (fun c13 => by first | exact kd_tf (hp9) c13 | exact kd_ft (hp9) c13 | exact absurd (hp9) c13 | exact absurd c13 (hp9))
  refine ss_iload_n dX7_add_20 3 rfl ?_
  refine ss_i2l dX7_add_21 ?_
  refine ss_lconst (v := 0) dX7_add_22 (by decide) ?_
  refine ss_ldc2 dX7_add_23 kcX7_196 ?_
  refine ss_callS (As := [_, _, _]) dX7_add_26 vlX7_53 clX7_isWithin rfl rfl (Nat.le_of_ble_eq_true rfl) (Nat.le_of_ble_eq_true rfl) (q_isWithin) ?_
  refine sy_if_ne 36 dX7_add_29 (by decide) (fun c29 => ?_) (fun c29 => by first | exact kd_tf (by rw [wi_ix (n := 101) rfl]; exact hv) c29 | exact kd_ft (by rw [wi_ix (n := 101) rfl]; exact hv) c29 | exact absurd (by rw [wi_ix (n := 101) rfl]; exact hv) c29 | exact absurd c29 (by rw [wi_ix (n := 101) rfl]; exact hv))
  refine ss_aload_n dX7_add_36 0 rfl ?_
  refine ss_get (i := 0) dX7_add_37 flX7_11 (by omega) (sh_r0 _ _) rfl ?_
  refine ss_iload_n dX7_add_40 1 rfl ?_
  refine ss_worth (w := j) dX7_add_41 hj ?_
  refine ss_astore (lv' := [(4, _), (0, _), (1, _), (2, _), (3, _)]) dX7_add_42 (by decide) rfl ?_
  refine ss_aload dX7_add_44 0 rfl ?_
  refine ss_get (i := 2 + 7 * j) dX7_add_46 flX7_123 (by omega) (sh_w0 hj _ _) rfl ?_
  rw [hh]
  refine sy_if_ne 57 dX7_add_49 (by decide) (fun c49 => ?_) (fun c49 => by first | exact kd_tf (rfl) c49 | exact kd_ft (rfl) c49 | exact absurd (rfl) c49 | exact absurd c49 (rfl))
  refine ss_sipush (v := -1003) dX7_add_57 (by decide) ?_
  exact ss_iret dX7_add_60 rfl rfl (hQ)
set_option maxHeartbeats 4000000 in
set_option maxRecDepth 100000 in
theorem c_add_n2 {c : cx} {d : Nat} {X : nX} {Y : nY} {n : Nat} (hn : n ≤ 10) (h6 : X 0 6 = nI n) {m : Nat} (hm : m ≤ 12) (h7 : X 0 7 = nI m) {j : Nat} (hjm : j < m) {p : Nat} (hpm : p < m) {v : Int32} (hv : ix v 101 = true) (hh : X (2 + 7 * j) 4 = bI false) (hpj : j ≤ p) : sc c mX7_add (d + 4) [.ref (c_ad c 0), .int (nI j), .int (nI p), .int v] (X) (Y) (some (.int (-1003))) (X) (Y) := by
  intro Q hQ
  show ss c mX7_add (d + 4) Q 0 [(0, .ref (c_ad c 0)), (1, .int (nI j)), (2, .int (nI p)), (3, .int v)] [] (X) (Y)
  have hj : j < 12 := by omega
  have hwj : ix (nI j) m = true := ix_of hjm (by omega)
  have hp : p < 12 := by omega
  have hp9 : ix (nI p) m = true := ix_of hpm (by omega)
  refine ss_aload_n dX7_add_0 0 rfl ?_
  refine ss_iload_n dX7_add_1 1 rfl ?_
  refine ss_callV (As := [_]) (i := 0) dX7_add_2 vlX7_113 clX7_isWorth rfl rfl (by omega) (sh_r0 _ _) rfl (Nat.le_of_ble_eq_true rfl) (Nat.le_of_ble_eq_true rfl) (q_isWorth hm h7) ?_
  refine sy_if_eq 16 dX7_add_5 (by decide) (fun c5 => by first | exact kd_tf (hwj) c5 | exact kd_ft (hwj) c5 | exact absurd (hwj) c5 | exact absurd c5 (hwj)) (fun c5 => ?_)
  refine ss_aload_n dX7_add_8 0 rfl ?_
  refine ss_iload_n dX7_add_9 2 rfl ?_
  refine ss_callV (As := [_]) (i := 0) dX7_add_10 vlX7_113 clX7_isWorth rfl rfl (by omega) (sh_r0 _ _) rfl (Nat.le_of_ble_eq_true rfl) (Nat.le_of_ble_eq_true rfl) (q_isWorth hm h7) ?_
  refine sy_if_ne 20 dX7_add_13 (by decide) (fun c13 => ?_) (fun c13 => by first | exact kd_tf (hp9) c13 | exact kd_ft (hp9) c13 | exact absurd (hp9) c13 | exact absurd c13 (hp9))
  refine ss_iload_n dX7_add_20 3 rfl ?_
  refine ss_i2l dX7_add_21 ?_
  refine ss_lconst (v := 0) dX7_add_22 (by decide) ?_
  refine ss_ldc2 dX7_add_23 kcX7_196 ?_
  refine ss_callS (As := [_, _, _]) dX7_add_26 vlX7_53 clX7_isWithin rfl rfl (Nat.le_of_ble_eq_true rfl) (Nat.le_of_ble_eq_true rfl) (q_isWithin) ?_
  refine sy_if_ne 36 dX7_add_29 (by decide) (fun c29 => ?_) (fun c29 => by first | exact kd_tf (by rw [wi_ix (n := 101) rfl]; exact hv) c29 | exact kd_ft (by rw [wi_ix (n := 101) rfl]; exact hv) c29 | exact absurd (by rw [wi_ix (n := 101) rfl]; exact hv) c29 | exact absurd c29 (by rw [wi_ix (n := 101) rfl]; exact hv))
  refine ss_aload_n dX7_add_36 0 rfl ?_
  refine ss_get (i := 0) dX7_add_37 flX7_11 (by omega) (sh_r0 _ _) rfl ?_
  refine ss_iload_n dX7_add_40 1 rfl ?_
  refine ss_worth (w := j) dX7_add_41 hj ?_
  refine ss_astore (lv' := [(4, _), (0, _), (1, _), (2, _), (3, _)]) dX7_add_42 (by decide) rfl ?_
  refine ss_aload dX7_add_44 0 rfl ?_
  refine ss_get (i := 2 + 7 * j) dX7_add_46 flX7_123 (by omega) (sh_w0 hj _ _) rfl ?_
  rw [hh]
  refine sy_if_ne 57 dX7_add_49 (by decide) (fun c49 => by first | exact kd_tf (rfl) c49 | exact kd_ft (rfl) c49 | exact absurd (rfl) c49 | exact absurd c49 (rfl)) (fun c49 => ?_)
  refine ss_iload_n dX7_add_52 3 rfl ?_
  refine ss_iload_n dX7_add_53 2 rfl ?_
  refine sz_icmp_lt 61 dX7_add_54 (by decide) (by omega) (by omega) (fun c54 => by omega) (fun c54 => ?_)
  refine ss_sipush (v := -1003) dX7_add_57 (by decide) ?_
  exact ss_iret dX7_add_60 rfl rfl (hQ)
set_option maxHeartbeats 4000000 in
set_option maxRecDepth 100000 in
theorem c_add_c {c : cx} {d : Nat} {X : nX} {Y : nY} {n : Nat} (hn : n ≤ 10) (h6 : X 0 6 = nI n) {m : Nat} (hm : m ≤ 12) (h7 : X 0 7 = nI m) {j : Nat} (hjm : j < m) {p : Nat} (hpm : p < m) {v : Int32} (hv : ix v 101 = true) (hh : X (2 + 7 * j) 4 = bI false) (hpj : p < j) (hkd : ¬ X (2 + 7 * j) 5 = nI 5) : sc c mX7_add (d + 4) [.ref (c_ad c 0), .int (nI j), .int (nI p), .int v] (X) (Y) (some (.int (nI 0))) (up2 X 0 8 (nI 5)) (Y) := by
  intro Q hQ
  show ss c mX7_add (d + 4) Q 0 [(0, .ref (c_ad c 0)), (1, .int (nI j)), (2, .int (nI p)), (3, .int v)] [] (X) (Y)
  have hj : j < 12 := by omega
  have hwj : ix (nI j) m = true := ix_of hjm (by omega)
  have hp : p < 12 := by omega
  have hp9 : ix (nI p) m = true := ix_of hpm (by omega)
  refine ss_aload_n dX7_add_0 0 rfl ?_
  refine ss_iload_n dX7_add_1 1 rfl ?_
  refine ss_callV (As := [_]) (i := 0) dX7_add_2 vlX7_113 clX7_isWorth rfl rfl (by omega) (sh_r0 _ _) rfl (Nat.le_of_ble_eq_true rfl) (Nat.le_of_ble_eq_true rfl) (q_isWorth hm h7) ?_
  refine sy_if_eq 16 dX7_add_5 (by decide) (fun c5 => by first | exact kd_tf (hwj) c5 | exact kd_ft (hwj) c5 | exact absurd (hwj) c5 | exact absurd c5 (hwj)) (fun c5 => ?_)
  refine ss_aload_n dX7_add_8 0 rfl ?_
  refine ss_iload_n dX7_add_9 2 rfl ?_
  refine ss_callV (As := [_]) (i := 0) dX7_add_10 vlX7_113 clX7_isWorth rfl rfl (by omega) (sh_r0 _ _) rfl (Nat.le_of_ble_eq_true rfl) (Nat.le_of_ble_eq_true rfl) (q_isWorth hm h7) ?_
  refine sy_if_ne 20 dX7_add_13 (by decide) (fun c13 => ?_) (fun c13 => by first | exact kd_tf (hp9) c13 | exact kd_ft (hp9) c13 | exact absurd (hp9) c13 | exact absurd c13 (hp9))
  refine ss_iload_n dX7_add_20 3 rfl ?_
  refine ss_i2l dX7_add_21 ?_
  refine ss_lconst (v := 0) dX7_add_22 (by decide) ?_
  refine ss_ldc2 dX7_add_23 kcX7_196 ?_
  refine ss_callS (As := [_, _, _]) dX7_add_26 vlX7_53 clX7_isWithin rfl rfl (Nat.le_of_ble_eq_true rfl) (Nat.le_of_ble_eq_true rfl) (q_isWithin) ?_
  refine sy_if_ne 36 dX7_add_29 (by decide) (fun c29 => ?_) (fun c29 => by first | exact kd_tf (by rw [wi_ix (n := 101) rfl]; exact hv) c29 | exact kd_ft (by rw [wi_ix (n := 101) rfl]; exact hv) c29 | exact absurd (by rw [wi_ix (n := 101) rfl]; exact hv) c29 | exact absurd c29 (by rw [wi_ix (n := 101) rfl]; exact hv))
  refine ss_aload_n dX7_add_36 0 rfl ?_
  refine ss_get (i := 0) dX7_add_37 flX7_11 (by omega) (sh_r0 _ _) rfl ?_
  refine ss_iload_n dX7_add_40 1 rfl ?_
  refine ss_worth (w := j) dX7_add_41 hj ?_
  refine ss_astore (lv' := [(4, _), (0, _), (1, _), (2, _), (3, _)]) dX7_add_42 (by decide) rfl ?_
  refine ss_aload dX7_add_44 0 rfl ?_
  refine ss_get (i := 2 + 7 * j) dX7_add_46 flX7_123 (by omega) (sh_w0 hj _ _) rfl ?_
  rw [hh]
  refine sy_if_ne 57 dX7_add_49 (by decide) (fun c49 => by first | exact kd_tf (rfl) c49 | exact kd_ft (rfl) c49 | exact absurd (rfl) c49 | exact absurd c49 (rfl)) (fun c49 => ?_)
  refine ss_iload_n dX7_add_52 3 rfl ?_
  refine ss_iload_n dX7_add_53 2 rfl ?_
  refine sz_icmp_lt 61 dX7_add_54 (by decide) (by omega) (by omega) (fun c54 => ?_) (fun c54 => by omega)
  refine ss_aload dX7_add_61 0 rfl ?_
  refine ss_get (i := 2 + 7 * j) dX7_add_63 flX7_132 (by omega) (sh_w0 hj _ _) rfl ?_
  refine ss_iconst (v := nI 5) dX7_add_66 (by decide) ?_
  refine ss_icmp_eq 76 dX7_add_67 (by decide) (fun c67 => by first | exact kd_tf (hkd) c67 | exact kd_ft (hkd) c67 | exact absurd (hkd) c67 | exact absurd c67 (hkd)) (fun c67 => ?_)
  refine ss_aload_n dX7_add_70 1 rfl ?_
  refine ss_iconst (v := nI 5) dX7_add_71 (by decide) ?_
  refine ss_callV (As := [_]) (i := 0) dX7_add_72 vlX7_75 clX7_meet rfl rfl (by omega) (sh_r0 _ _) rfl (Nat.le_of_ble_eq_true rfl) (Nat.le_of_ble_eq_true rfl) (q_meet) ?_
  exact ss_iret dX7_add_75 rfl rfl (hQ)
set_option maxHeartbeats 4000000 in
set_option maxRecDepth 100000 in
theorem c_add_f {c : cx} {d : Nat} {X : nX} {Y : nY} {n : Nat} (hn : n ≤ 10) (h6 : X 0 6 = nI n) {m : Nat} (hm : m ≤ 12) (h7 : X 0 7 = nI m) {j : Nat} (hjm : j < m) {p : Nat} (hpm : p < m) {v : Int32} (hv : ix v 101 = true) (hh : X (2 + 7 * j) 4 = bI false) (hpj : p < j) (hkd : X (2 + 7 * j) 5 = nI 5) {P : Nat} (hpi : X (2 + 7 * j) 8 = nI P) (hP : P = 4) : sc c mX7_add (d + 4) [.ref (c_ad c 0), .int (nI j), .int (nI p), .int v] (X) (Y) (some (.int (-1004))) (X) (Y) := by
  intro Q hQ
  show ss c mX7_add (d + 4) Q 0 [(0, .ref (c_ad c 0)), (1, .int (nI j)), (2, .int (nI p)), (3, .int v)] [] (X) (Y)
  have hj : j < 12 := by omega
  have hwj : ix (nI j) m = true := ix_of hjm (by omega)
  have hp : p < 12 := by omega
  have hp9 : ix (nI p) m = true := ix_of hpm (by omega)
  refine ss_aload_n dX7_add_0 0 rfl ?_
  refine ss_iload_n dX7_add_1 1 rfl ?_
  refine ss_callV (As := [_]) (i := 0) dX7_add_2 vlX7_113 clX7_isWorth rfl rfl (by omega) (sh_r0 _ _) rfl (Nat.le_of_ble_eq_true rfl) (Nat.le_of_ble_eq_true rfl) (q_isWorth hm h7) ?_
  refine sy_if_eq 16 dX7_add_5 (by decide) (fun c5 => by first | exact kd_tf (hwj) c5 | exact kd_ft (hwj) c5 | exact absurd (hwj) c5 | exact absurd c5 (hwj)) (fun c5 => ?_)
  refine ss_aload_n dX7_add_8 0 rfl ?_
  refine ss_iload_n dX7_add_9 2 rfl ?_
  refine ss_callV (As := [_]) (i := 0) dX7_add_10 vlX7_113 clX7_isWorth rfl rfl (by omega) (sh_r0 _ _) rfl (Nat.le_of_ble_eq_true rfl) (Nat.le_of_ble_eq_true rfl) (q_isWorth hm h7) ?_
  refine sy_if_ne 20 dX7_add_13 (by decide) (fun c13 => ?_) (fun c13 => by first | exact kd_tf (hp9) c13 | exact kd_ft (hp9) c13 | exact absurd (hp9) c13 | exact absurd c13 (hp9))
  refine ss_iload_n dX7_add_20 3 rfl ?_
  refine ss_i2l dX7_add_21 ?_
  refine ss_lconst (v := 0) dX7_add_22 (by decide) ?_
  refine ss_ldc2 dX7_add_23 kcX7_196 ?_
  refine ss_callS (As := [_, _, _]) dX7_add_26 vlX7_53 clX7_isWithin rfl rfl (Nat.le_of_ble_eq_true rfl) (Nat.le_of_ble_eq_true rfl) (q_isWithin) ?_
  refine sy_if_ne 36 dX7_add_29 (by decide) (fun c29 => ?_) (fun c29 => by first | exact kd_tf (by rw [wi_ix (n := 101) rfl]; exact hv) c29 | exact kd_ft (by rw [wi_ix (n := 101) rfl]; exact hv) c29 | exact absurd (by rw [wi_ix (n := 101) rfl]; exact hv) c29 | exact absurd c29 (by rw [wi_ix (n := 101) rfl]; exact hv))
  refine ss_aload_n dX7_add_36 0 rfl ?_
  refine ss_get (i := 0) dX7_add_37 flX7_11 (by omega) (sh_r0 _ _) rfl ?_
  refine ss_iload_n dX7_add_40 1 rfl ?_
  refine ss_worth (w := j) dX7_add_41 hj ?_
  refine ss_astore (lv' := [(4, _), (0, _), (1, _), (2, _), (3, _)]) dX7_add_42 (by decide) rfl ?_
  refine ss_aload dX7_add_44 0 rfl ?_
  refine ss_get (i := 2 + 7 * j) dX7_add_46 flX7_123 (by omega) (sh_w0 hj _ _) rfl ?_
  rw [hh]
  refine sy_if_ne 57 dX7_add_49 (by decide) (fun c49 => by first | exact kd_tf (rfl) c49 | exact kd_ft (rfl) c49 | exact absurd (rfl) c49 | exact absurd c49 (rfl)) (fun c49 => ?_)
  refine ss_iload_n dX7_add_52 3 rfl ?_
  refine ss_iload_n dX7_add_53 2 rfl ?_
  refine sz_icmp_lt 61 dX7_add_54 (by decide) (by omega) (by omega) (fun c54 => ?_) (fun c54 => by omega)
  refine ss_aload dX7_add_61 0 rfl ?_
  refine ss_get (i := 2 + 7 * j) dX7_add_63 flX7_132 (by omega) (sh_w0 hj _ _) rfl ?_
  refine ss_iconst (v := nI 5) dX7_add_66 (by decide) ?_
  refine ss_icmp_eq 76 dX7_add_67 (by decide) (fun c67 => ?_) (fun c67 => by first | exact kd_tf (hkd) c67 | exact kd_ft (hkd) c67 | exact absurd (hkd) c67 | exact absurd c67 (hkd))
  refine ss_aload dX7_add_76 0 rfl ?_
  refine ss_get (i := 2 + 7 * j) dX7_add_78 flX7_164 (by omega) (sh_w0 hj _ _) rfl ?_
  rw [hpi]
  refine ss_iconst (v := nI 4) dX7_add_81 (by decide) ?_
  refine sz_icmp_lt 89 dX7_add_82 (by decide) (by omega) (by omega) (fun c82 => by omega) (fun c82 => ?_)
  refine ss_sipush (v := -1004) dX7_add_85 (by decide) ?_
  exact ss_iret dX7_add_88 rfl rfl (hQ)
set_option maxHeartbeats 4000000 in
set_option maxRecDepth 100000 in
theorem c_add_l {c : cx} {d : Nat} {X : nX} {Y : nY} {n : Nat} (hn : n ≤ 10) (h6 : X 0 6 = nI n) {m : Nat} (hm : m ≤ 12) (h7 : X 0 7 = nI m) {j : Nat} (hjm : j < m) {p : Nat} (hpm : p < m) {v : Int32} (hv : ix v 101 = true) (hh : X (2 + 7 * j) 4 = bI false) (hpj : p < j) (hkd : X (2 + 7 * j) 5 = nI 5) {P : Nat} (hpi : X (2 + 7 * j) 8 = nI P) (hP : P < 4) (hse : X (2 + 7 * j) 7 = nI (2 ^ n)) (hl : lany (p_with Y j p v) (2 ^ n) = true) : sc c mX7_add (d + 4) [.ref (c_ad c 0), .int (nI j), .int (nI p), .int v] (X) (Y) (some (.int (-1005))) (X) (Y) := by
  intro Q hQ
  show ss c mX7_add (d + 4) Q 0 [(0, .ref (c_ad c 0)), (1, .int (nI j)), (2, .int (nI p)), (3, .int v)] [] (X) (Y)
  have hj : j < 12 := by omega
  have hwj : ix (nI j) m = true := ix_of hjm (by omega)
  have hp : p < 12 := by omega
  have hp9 : ix (nI p) m = true := ix_of hpm (by omega)
  refine ss_aload_n dX7_add_0 0 rfl ?_
  refine ss_iload_n dX7_add_1 1 rfl ?_
  refine ss_callV (As := [_]) (i := 0) dX7_add_2 vlX7_113 clX7_isWorth rfl rfl (by omega) (sh_r0 _ _) rfl (Nat.le_of_ble_eq_true rfl) (Nat.le_of_ble_eq_true rfl) (q_isWorth hm h7) ?_
  refine sy_if_eq 16 dX7_add_5 (by decide) (fun c5 => by first | exact kd_tf (hwj) c5 | exact kd_ft (hwj) c5 | exact absurd (hwj) c5 | exact absurd c5 (hwj)) (fun c5 => ?_)
  refine ss_aload_n dX7_add_8 0 rfl ?_
  refine ss_iload_n dX7_add_9 2 rfl ?_
  refine ss_callV (As := [_]) (i := 0) dX7_add_10 vlX7_113 clX7_isWorth rfl rfl (by omega) (sh_r0 _ _) rfl (Nat.le_of_ble_eq_true rfl) (Nat.le_of_ble_eq_true rfl) (q_isWorth hm h7) ?_
  refine sy_if_ne 20 dX7_add_13 (by decide) (fun c13 => ?_) (fun c13 => by first | exact kd_tf (hp9) c13 | exact kd_ft (hp9) c13 | exact absurd (hp9) c13 | exact absurd c13 (hp9))
  refine ss_iload_n dX7_add_20 3 rfl ?_
  refine ss_i2l dX7_add_21 ?_
  refine ss_lconst (v := 0) dX7_add_22 (by decide) ?_
  refine ss_ldc2 dX7_add_23 kcX7_196 ?_
  refine ss_callS (As := [_, _, _]) dX7_add_26 vlX7_53 clX7_isWithin rfl rfl (Nat.le_of_ble_eq_true rfl) (Nat.le_of_ble_eq_true rfl) (q_isWithin) ?_
  refine sy_if_ne 36 dX7_add_29 (by decide) (fun c29 => ?_) (fun c29 => by first | exact kd_tf (by rw [wi_ix (n := 101) rfl]; exact hv) c29 | exact kd_ft (by rw [wi_ix (n := 101) rfl]; exact hv) c29 | exact absurd (by rw [wi_ix (n := 101) rfl]; exact hv) c29 | exact absurd c29 (by rw [wi_ix (n := 101) rfl]; exact hv))
  refine ss_aload_n dX7_add_36 0 rfl ?_
  refine ss_get (i := 0) dX7_add_37 flX7_11 (by omega) (sh_r0 _ _) rfl ?_
  refine ss_iload_n dX7_add_40 1 rfl ?_
  refine ss_worth (w := j) dX7_add_41 hj ?_
  refine ss_astore (lv' := [(4, _), (0, _), (1, _), (2, _), (3, _)]) dX7_add_42 (by decide) rfl ?_
  refine ss_aload dX7_add_44 0 rfl ?_
  refine ss_get (i := 2 + 7 * j) dX7_add_46 flX7_123 (by omega) (sh_w0 hj _ _) rfl ?_
  rw [hh]
  refine sy_if_ne 57 dX7_add_49 (by decide) (fun c49 => by first | exact kd_tf (rfl) c49 | exact kd_ft (rfl) c49 | exact absurd (rfl) c49 | exact absurd c49 (rfl)) (fun c49 => ?_)
  refine ss_iload_n dX7_add_52 3 rfl ?_
  refine ss_iload_n dX7_add_53 2 rfl ?_
  refine sz_icmp_lt 61 dX7_add_54 (by decide) (by omega) (by omega) (fun c54 => ?_) (fun c54 => by omega)
  refine ss_aload dX7_add_61 0 rfl ?_
  refine ss_get (i := 2 + 7 * j) dX7_add_63 flX7_132 (by omega) (sh_w0 hj _ _) rfl ?_
  refine ss_iconst (v := nI 5) dX7_add_66 (by decide) ?_
  refine ss_icmp_eq 76 dX7_add_67 (by decide) (fun c67 => ?_) (fun c67 => by first | exact kd_tf (hkd) c67 | exact kd_ft (hkd) c67 | exact absurd (hkd) c67 | exact absurd c67 (hkd))
  refine ss_aload dX7_add_76 0 rfl ?_
  refine ss_get (i := 2 + 7 * j) dX7_add_78 flX7_164 (by omega) (sh_w0 hj _ _) rfl ?_
  rw [hpi]
  refine ss_iconst (v := nI 4) dX7_add_81 (by decide) ?_
  refine sz_icmp_lt 89 dX7_add_82 (by decide) (by omega) (by omega) (fun c82 => ?_) (fun c82 => by omega)
  refine ss_aload dX7_add_89 0 rfl ?_
  refine ss_aload_n dX7_add_91 1 rfl ?_
  refine ss_get (i := 0) dX7_add_92 flX7_11 (by omega) (sh_r0 _ _) rfl ?_
  refine ss_iload_n dX7_add_95 3 rfl ?_
  refine ss_worth (w := p) dX7_add_96 hp ?_
  refine ss_iload_n dX7_add_97 4 rfl ?_
  refine ss_callV (As := [_, _]) (i := 2 + 7 * j) dX7_add_98 vlX7_198 clX6_isLargeWith rfl rfl (by omega) (sh_w0 hj _ _) rfl (Nat.le_of_ble_eq_true rfl) (Nat.le_of_ble_eq_true rfl) (q_isLargeWith hj hp (p2_le hn) hse) ?_
  refine sy_if_eq 108 dX7_add_101 (by decide) (fun c101 => by first | exact kd_tf (hl) c101 | exact kd_ft (hl) c101 | exact absurd (hl) c101 | exact absurd c101 (hl)) (fun c101 => ?_)
  refine ss_sipush (v := -1005) dX7_add_104 (by decide) ?_
  exact ss_iret dX7_add_107 rfl rfl (hQ)
set_option maxHeartbeats 4000000 in
set_option maxRecDepth 100000 in
theorem c_add_k {c : cx} {d : Nat} {X : nX} {Y : nY} {n : Nat} (hn : n ≤ 10) (h6 : X 0 6 = nI n) {m : Nat} (hm : m ≤ 12) (h7 : X 0 7 = nI m) {j : Nat} (hjm : j < m) {p : Nat} (hpm : p < m) {v : Int32} (hv : ix v 101 = true) (hh : X (2 + 7 * j) 4 = bI false) (hpj : p < j) (hkd : X (2 + 7 * j) 5 = nI 5) {P : Nat} (hpi : X (2 + 7 * j) 8 = nI P) (hP : P < 4) (hse : X (2 + 7 * j) 7 = nI (2 ^ n)) (hl : lany (p_with Y j p v) (2 ^ n) = false) : sc c mX7_add (d + 4) [.ref (c_ad c 0), .int (nI j), .int (nI p), .int v] (X) (Y) (some (.int (nI (P + 1)))) (up2 (up2 (up2 X 0 8 (nI 0)) (2 + 7 * j) 8 (nI (P + 1))) (2 + 7 * p) 4 (nI 1)) (mpl Y (3 + 7 * j) 0 (2 ^ n) (f_with Y j p v)) := by
  intro Q hQ
  show ss c mX7_add (d + 4) Q 0 [(0, .ref (c_ad c 0)), (1, .int (nI j)), (2, .int (nI p)), (3, .int v)] [] (X) (Y)
  have hj : j < 12 := by omega
  have hwj : ix (nI j) m = true := ix_of hjm (by omega)
  have hp : p < 12 := by omega
  have hp9 : ix (nI p) m = true := ix_of hpm (by omega)
  refine ss_aload_n dX7_add_0 0 rfl ?_
  refine ss_iload_n dX7_add_1 1 rfl ?_
  refine ss_callV (As := [_]) (i := 0) dX7_add_2 vlX7_113 clX7_isWorth rfl rfl (by omega) (sh_r0 _ _) rfl (Nat.le_of_ble_eq_true rfl) (Nat.le_of_ble_eq_true rfl) (q_isWorth hm h7) ?_
  refine sy_if_eq 16 dX7_add_5 (by decide) (fun c5 => by first | exact kd_tf (hwj) c5 | exact kd_ft (hwj) c5 | exact absurd (hwj) c5 | exact absurd c5 (hwj)) (fun c5 => ?_)
  refine ss_aload_n dX7_add_8 0 rfl ?_
  refine ss_iload_n dX7_add_9 2 rfl ?_
  refine ss_callV (As := [_]) (i := 0) dX7_add_10 vlX7_113 clX7_isWorth rfl rfl (by omega) (sh_r0 _ _) rfl (Nat.le_of_ble_eq_true rfl) (Nat.le_of_ble_eq_true rfl) (q_isWorth hm h7) ?_
  refine sy_if_ne 20 dX7_add_13 (by decide) (fun c13 => ?_) (fun c13 => by first | exact kd_tf (hp9) c13 | exact kd_ft (hp9) c13 | exact absurd (hp9) c13 | exact absurd c13 (hp9))
  refine ss_iload_n dX7_add_20 3 rfl ?_
  refine ss_i2l dX7_add_21 ?_
  refine ss_lconst (v := 0) dX7_add_22 (by decide) ?_
  refine ss_ldc2 dX7_add_23 kcX7_196 ?_
  refine ss_callS (As := [_, _, _]) dX7_add_26 vlX7_53 clX7_isWithin rfl rfl (Nat.le_of_ble_eq_true rfl) (Nat.le_of_ble_eq_true rfl) (q_isWithin) ?_
  refine sy_if_ne 36 dX7_add_29 (by decide) (fun c29 => ?_) (fun c29 => by first | exact kd_tf (by rw [wi_ix (n := 101) rfl]; exact hv) c29 | exact kd_ft (by rw [wi_ix (n := 101) rfl]; exact hv) c29 | exact absurd (by rw [wi_ix (n := 101) rfl]; exact hv) c29 | exact absurd c29 (by rw [wi_ix (n := 101) rfl]; exact hv))
  refine ss_aload_n dX7_add_36 0 rfl ?_
  refine ss_get (i := 0) dX7_add_37 flX7_11 (by omega) (sh_r0 _ _) rfl ?_
  refine ss_iload_n dX7_add_40 1 rfl ?_
  refine ss_worth (w := j) dX7_add_41 hj ?_
  refine ss_astore (lv' := [(4, _), (0, _), (1, _), (2, _), (3, _)]) dX7_add_42 (by decide) rfl ?_
  refine ss_aload dX7_add_44 0 rfl ?_
  refine ss_get (i := 2 + 7 * j) dX7_add_46 flX7_123 (by omega) (sh_w0 hj _ _) rfl ?_
  rw [hh]
  refine sy_if_ne 57 dX7_add_49 (by decide) (fun c49 => by first | exact kd_tf (rfl) c49 | exact kd_ft (rfl) c49 | exact absurd (rfl) c49 | exact absurd c49 (rfl)) (fun c49 => ?_)
  refine ss_iload_n dX7_add_52 3 rfl ?_
  refine ss_iload_n dX7_add_53 2 rfl ?_
  refine sz_icmp_lt 61 dX7_add_54 (by decide) (by omega) (by omega) (fun c54 => ?_) (fun c54 => by omega)
  refine ss_aload dX7_add_61 0 rfl ?_
  refine ss_get (i := 2 + 7 * j) dX7_add_63 flX7_132 (by omega) (sh_w0 hj _ _) rfl ?_
  refine ss_iconst (v := nI 5) dX7_add_66 (by decide) ?_
  refine ss_icmp_eq 76 dX7_add_67 (by decide) (fun c67 => ?_) (fun c67 => by first | exact kd_tf (hkd) c67 | exact kd_ft (hkd) c67 | exact absurd (hkd) c67 | exact absurd c67 (hkd))
  refine ss_aload dX7_add_76 0 rfl ?_
  refine ss_get (i := 2 + 7 * j) dX7_add_78 flX7_164 (by omega) (sh_w0 hj _ _) rfl ?_
  rw [hpi]
  refine ss_iconst (v := nI 4) dX7_add_81 (by decide) ?_
  refine sz_icmp_lt 89 dX7_add_82 (by decide) (by omega) (by omega) (fun c82 => ?_) (fun c82 => by omega)
  refine ss_aload dX7_add_89 0 rfl ?_
  refine ss_aload_n dX7_add_91 1 rfl ?_
  refine ss_get (i := 0) dX7_add_92 flX7_11 (by omega) (sh_r0 _ _) rfl ?_
  refine ss_iload_n dX7_add_95 3 rfl ?_
  refine ss_worth (w := p) dX7_add_96 hp ?_
  refine ss_iload_n dX7_add_97 4 rfl ?_
  refine ss_callV (As := [_, _]) (i := 2 + 7 * j) dX7_add_98 vlX7_198 clX6_isLargeWith rfl rfl (by omega) (sh_w0 hj _ _) rfl (Nat.le_of_ble_eq_true rfl) (Nat.le_of_ble_eq_true rfl) (q_isLargeWith hj hp (p2_le hn) hse) ?_
  refine sy_if_eq 108 dX7_add_101 (by decide) (fun c101 => ?_) (fun c101 => by first | exact kd_tf (hl) c101 | exact kd_ft (hl) c101 | exact absurd (hl) c101 | exact absurd c101 (hl))
  refine ss_aload_n dX7_add_108 1 rfl ?_
  refine ss_iconst (v := nI 0) dX7_add_109 (by decide) ?_
  refine ss_put (i := 0) dX7_add_110 fwX7_79 (by omega) (sh_r0 _ _) rfl rfl (Nat.le_of_ble_eq_true rfl) (sh_r0 _ _) ?_
  refine ss_aload dX7_add_113 0 rfl ?_
  refine ss_aload_n dX7_add_115 1 rfl ?_
  refine ss_get (i := 0) dX7_add_116 flX7_11 (by omega) (sh_r0 _ _) rfl ?_
  refine ss_iload_n dX7_add_119 3 rfl ?_
  refine ss_worth (w := p) dX7_add_120 hp ?_
  refine ss_iload_n dX7_add_121 4 rfl ?_
  refine ss_callV (As := [_, _]) (i := 2 + 7 * j) dX7_add_122 vlX7_202 clX6_takeWorth rfl rfl (by omega) (sh_w0 hj _ _) rfl (Nat.le_of_ble_eq_true rfl) (Nat.le_of_ble_eq_true rfl) (q_takeWorth hj hp (by omega) (p2_le hn) (by rw [up2_at, if_neg (by omega)]; exact hse)) ?_
  refine ss_aload_n dX7_add_125 1 rfl ?_
  refine ss_get (i := 0) dX7_add_126 flX7_11 (by omega) (sh_r0 _ _) rfl ?_
  refine ss_iload_n dX7_add_129 3 rfl ?_
  refine ss_worth (w := p) dX7_add_130 hp ?_
  refine ss_iconst (v := nI 1) dX7_add_131 (by decide) ?_
  refine ss_put (i := 2 + 7 * p) dX7_add_132 fwX7_123 (by omega) (sh_w0 hp _ _) rfl rfl (Nat.le_of_ble_eq_true rfl) (sh_w0 hp _ _) ?_
  refine ss_aload dX7_add_135 0 rfl ?_
  refine ss_get (i := 2 + 7 * j) dX7_add_137 flX7_164 (by omega) (sh_w0 hj _ _) rfl ?_
  rw [up2_at, if_neg (by omega), up2_at, if_pos ⟨rfl, rfl⟩, up2_at, if_neg (by omega), hpi, nI_add]
  exact ss_iret dX7_add_140 rfl rfl (hQ)
set_option maxHeartbeats 4000000 in
set_option maxRecDepth 100000 in
theorem c_price_u {c : cx} {d : Nat} {X : nX} {Y : nY} {n : Nat} (hn : n ≤ 10) (h6 : X 0 6 = nI n) {m : Nat} (hm : m ≤ 12) (h7 : X 0 7 = nI m) {w t v : Int32} (hu : ix w m = false ∨ ix t n = false) : sc c mX7_price (d + 4) [.ref (c_ad c 0), .int w, .int t, .int v] (X) (Y) (some (.int (-1001))) (X) (Y) := by
  intro Q hQ
  show ss c mX7_price (d + 4) Q 0 [(0, .ref (c_ad c 0)), (1, .int w), (2, .int t), (3, .int v)] [] (X) (Y)
  refine ss_aload_n dX7_price_0 0 rfl ?_
  refine ss_iload_n dX7_price_1 1 rfl ?_
  refine ss_callV (As := [_]) (i := 0) dX7_price_2 vlX7_113 clX7_isWorth rfl rfl (by omega) (sh_r0 _ _) rfl (Nat.le_of_ble_eq_true rfl) (Nat.le_of_ble_eq_true rfl) (q_isWorth hm h7) ?_
  refine sy_if_eq 16 dX7_price_5 (by decide) (fun c5 => ?_) (fun c5 => ?_)
  · skip
    refine ss_sipush (v := -1001) dX7_price_16 (by decide) ?_
    exact ss_iret dX7_price_19 rfl rfl (hQ)
  · skip
    refine ss_aload_n dX7_price_8 0 rfl ?_
    refine ss_iload_n dX7_price_9 2 rfl ?_
    refine ss_callV (As := [_]) (i := 0) dX7_price_10 vlX7_159 clX7_isThing rfl rfl (by omega) (sh_r0 _ _) rfl (Nat.le_of_ble_eq_true rfl) (Nat.le_of_ble_eq_true rfl) (q_isThing hn h6) ?_
    refine sy_if_ne 20 dX7_price_13 (by decide) (fun c13 => by rcases hu with h8 | h8; exact kd_tf c5 h8; exact kd_tf c13 h8) (fun c13 => ?_)
    refine ss_sipush (v := -1001) dX7_price_16 (by decide) ?_
    exact ss_iret dX7_price_19 rfl rfl (hQ)
set_option maxHeartbeats 4000000 in
set_option maxRecDepth 100000 in
theorem c_price_o {c : cx} {d : Nat} {X : nX} {Y : nY} {n : Nat} (hn : n ≤ 10) (h6 : X 0 6 = nI n) {m : Nat} (hm : m ≤ 12) (h7 : X 0 7 = nI m) {j : Nat} (hjm : j < m) {t : Nat} (ht : t < n) {v : Int32} (hv : wi v.toInt64 (-100000) 100000 = false) : sc c mX7_price (d + 4) [.ref (c_ad c 0), .int (nI j), .int (nI t), .int v] (X) (Y) (some (.int (-1002))) (X) (Y) := by
  intro Q hQ
  show ss c mX7_price (d + 4) Q 0 [(0, .ref (c_ad c 0)), (1, .int (nI j)), (2, .int (nI t)), (3, .int v)] [] (X) (Y)
  have hj : j < 12 := by omega
  have hwj : ix (nI j) m = true := ix_of hjm (by omega)
  have ht9 : ix (nI t) n = true := ix_of ht (by omega)
  refine ss_aload_n dX7_price_0 0 rfl ?_
  refine ss_iload_n dX7_price_1 1 rfl ?_
  refine ss_callV (As := [_]) (i := 0) dX7_price_2 vlX7_113 clX7_isWorth rfl rfl (by omega) (sh_r0 _ _) rfl (Nat.le_of_ble_eq_true rfl) (Nat.le_of_ble_eq_true rfl) (q_isWorth hm h7) ?_
  refine sy_if_eq 16 dX7_price_5 (by decide) (fun c5 => by first | exact kd_tf (hwj) c5 | exact kd_ft (hwj) c5 | exact absurd (hwj) c5 | exact absurd c5 (hwj)) (fun c5 => ?_)
  refine ss_aload_n dX7_price_8 0 rfl ?_
  refine ss_iload_n dX7_price_9 2 rfl ?_
  refine ss_callV (As := [_]) (i := 0) dX7_price_10 vlX7_159 clX7_isThing rfl rfl (by omega) (sh_r0 _ _) rfl (Nat.le_of_ble_eq_true rfl) (Nat.le_of_ble_eq_true rfl) (q_isThing hn h6) ?_
  refine sy_if_ne 20 dX7_price_13 (by decide) (fun c13 => ?_) (fun c13 => by first | exact kd_tf (ht9) c13 | exact kd_ft (ht9) c13 | exact absurd (ht9) c13 | exact absurd c13 (ht9))
  refine ss_iload_n dX7_price_20 3 rfl ?_
  refine ss_i2l dX7_price_21 ?_
  refine ss_ldc2 dX7_price_22 kcX7_205 ?_
  refine ss_callS (As := [_, _]) dX7_price_25 vlX7_142 clX7_isInSize rfl rfl (Nat.le_of_ble_eq_true rfl) (Nat.le_of_ble_eq_true rfl) (q_isInSize) ?_
  refine sy_if_ne 35 dX7_price_28 (by decide) (fun c28 => by first | exact kd_tf (hv) c28 | exact kd_ft (hv) c28 | exact absurd (hv) c28 | exact absurd c28 (hv)) (fun c28 => ?_)
  refine ss_sipush (v := -1002) dX7_price_31 (by decide) ?_
  exact ss_iret dX7_price_34 rfl rfl (hQ)
set_option maxHeartbeats 4000000 in
set_option maxRecDepth 100000 in
theorem c_price_n {c : cx} {d : Nat} {X : nX} {Y : nY} {n : Nat} (hn : n ≤ 10) (h6 : X 0 6 = nI n) {m : Nat} (hm : m ≤ 12) (h7 : X 0 7 = nI m) {j : Nat} (hjm : j < m) {t : Nat} (ht : t < n) {v : Int32} (hv : wi v.toInt64 (-100000) 100000 = true) (hh : X (2 + 7 * j) 4 = bI true) : sc c mX7_price (d + 4) [.ref (c_ad c 0), .int (nI j), .int (nI t), .int v] (X) (Y) (some (.int (-1003))) (X) (Y) := by
  intro Q hQ
  show ss c mX7_price (d + 4) Q 0 [(0, .ref (c_ad c 0)), (1, .int (nI j)), (2, .int (nI t)), (3, .int v)] [] (X) (Y)
  have hj : j < 12 := by omega
  have hwj : ix (nI j) m = true := ix_of hjm (by omega)
  have ht9 : ix (nI t) n = true := ix_of ht (by omega)
  refine ss_aload_n dX7_price_0 0 rfl ?_
  refine ss_iload_n dX7_price_1 1 rfl ?_
  refine ss_callV (As := [_]) (i := 0) dX7_price_2 vlX7_113 clX7_isWorth rfl rfl (by omega) (sh_r0 _ _) rfl (Nat.le_of_ble_eq_true rfl) (Nat.le_of_ble_eq_true rfl) (q_isWorth hm h7) ?_
  refine sy_if_eq 16 dX7_price_5 (by decide) (fun c5 => by first | exact kd_tf (hwj) c5 | exact kd_ft (hwj) c5 | exact absurd (hwj) c5 | exact absurd c5 (hwj)) (fun c5 => ?_)
  refine ss_aload_n dX7_price_8 0 rfl ?_
  refine ss_iload_n dX7_price_9 2 rfl ?_
  refine ss_callV (As := [_]) (i := 0) dX7_price_10 vlX7_159 clX7_isThing rfl rfl (by omega) (sh_r0 _ _) rfl (Nat.le_of_ble_eq_true rfl) (Nat.le_of_ble_eq_true rfl) (q_isThing hn h6) ?_
  refine sy_if_ne 20 dX7_price_13 (by decide) (fun c13 => ?_) (fun c13 => by first | exact kd_tf (ht9) c13 | exact kd_ft (ht9) c13 | exact absurd (ht9) c13 | exact absurd c13 (ht9))
  refine ss_iload_n dX7_price_20 3 rfl ?_
  refine ss_i2l dX7_price_21 ?_
  refine ss_ldc2 dX7_price_22 kcX7_205 ?_
  refine ss_callS (As := [_, _]) dX7_price_25 vlX7_142 clX7_isInSize rfl rfl (Nat.le_of_ble_eq_true rfl) (Nat.le_of_ble_eq_true rfl) (q_isInSize) ?_
  refine sy_if_ne 35 dX7_price_28 (by decide) (fun c28 => ?_) (fun c28 => by first | exact kd_tf (hv) c28 | exact kd_ft (hv) c28 | exact absurd (hv) c28 | exact absurd c28 (hv))
  refine ss_aload_n dX7_price_35 0 rfl ?_
  refine ss_get (i := 0) dX7_price_36 flX7_11 (by omega) (sh_r0 _ _) rfl ?_
  refine ss_iload_n dX7_price_39 1 rfl ?_
  refine ss_worth (w := j) dX7_price_40 hj ?_
  refine ss_astore (lv' := [(4, _), (0, _), (1, _), (2, _), (3, _)]) dX7_price_41 (by decide) rfl ?_
  refine ss_aload dX7_price_43 0 rfl ?_
  refine ss_get (i := 2 + 7 * j) dX7_price_45 flX7_123 (by omega) (sh_w0 hj _ _) rfl ?_
  rw [hh]
  refine sy_if_eq 55 dX7_price_48 (by decide) (fun c48 => by first | exact kd_tf (rfl) c48 | exact kd_ft (rfl) c48 | exact absurd (rfl) c48 | exact absurd c48 (rfl)) (fun c48 => ?_)
  refine ss_sipush (v := -1003) dX7_price_51 (by decide) ?_
  exact ss_iret dX7_price_54 rfl rfl (hQ)
set_option maxHeartbeats 4000000 in
set_option maxRecDepth 100000 in
theorem c_price_c {c : cx} {d : Nat} {X : nX} {Y : nY} {n : Nat} (hn : n ≤ 10) (h6 : X 0 6 = nI n) {m : Nat} (hm : m ≤ 12) (h7 : X 0 7 = nI m) {j : Nat} (hjm : j < m) {t : Nat} (ht : t < n) {v : Int32} (hv : wi v.toInt64 (-100000) 100000 = true) (hh : X (2 + 7 * j) 4 = bI false) (hkd : ¬ X (2 + 7 * j) 5 = nI 5) : sc c mX7_price (d + 4) [.ref (c_ad c 0), .int (nI j), .int (nI t), .int v] (X) (Y) (some (.int (nI 0))) (up2 X 0 8 (nI 5)) (Y) := by
  intro Q hQ
  show ss c mX7_price (d + 4) Q 0 [(0, .ref (c_ad c 0)), (1, .int (nI j)), (2, .int (nI t)), (3, .int v)] [] (X) (Y)
  have hj : j < 12 := by omega
  have hwj : ix (nI j) m = true := ix_of hjm (by omega)
  have ht9 : ix (nI t) n = true := ix_of ht (by omega)
  refine ss_aload_n dX7_price_0 0 rfl ?_
  refine ss_iload_n dX7_price_1 1 rfl ?_
  refine ss_callV (As := [_]) (i := 0) dX7_price_2 vlX7_113 clX7_isWorth rfl rfl (by omega) (sh_r0 _ _) rfl (Nat.le_of_ble_eq_true rfl) (Nat.le_of_ble_eq_true rfl) (q_isWorth hm h7) ?_
  refine sy_if_eq 16 dX7_price_5 (by decide) (fun c5 => by first | exact kd_tf (hwj) c5 | exact kd_ft (hwj) c5 | exact absurd (hwj) c5 | exact absurd c5 (hwj)) (fun c5 => ?_)
  refine ss_aload_n dX7_price_8 0 rfl ?_
  refine ss_iload_n dX7_price_9 2 rfl ?_
  refine ss_callV (As := [_]) (i := 0) dX7_price_10 vlX7_159 clX7_isThing rfl rfl (by omega) (sh_r0 _ _) rfl (Nat.le_of_ble_eq_true rfl) (Nat.le_of_ble_eq_true rfl) (q_isThing hn h6) ?_
  refine sy_if_ne 20 dX7_price_13 (by decide) (fun c13 => ?_) (fun c13 => by first | exact kd_tf (ht9) c13 | exact kd_ft (ht9) c13 | exact absurd (ht9) c13 | exact absurd c13 (ht9))
  refine ss_iload_n dX7_price_20 3 rfl ?_
  refine ss_i2l dX7_price_21 ?_
  refine ss_ldc2 dX7_price_22 kcX7_205 ?_
  refine ss_callS (As := [_, _]) dX7_price_25 vlX7_142 clX7_isInSize rfl rfl (Nat.le_of_ble_eq_true rfl) (Nat.le_of_ble_eq_true rfl) (q_isInSize) ?_
  refine sy_if_ne 35 dX7_price_28 (by decide) (fun c28 => ?_) (fun c28 => by first | exact kd_tf (hv) c28 | exact kd_ft (hv) c28 | exact absurd (hv) c28 | exact absurd c28 (hv))
  refine ss_aload_n dX7_price_35 0 rfl ?_
  refine ss_get (i := 0) dX7_price_36 flX7_11 (by omega) (sh_r0 _ _) rfl ?_
  refine ss_iload_n dX7_price_39 1 rfl ?_
  refine ss_worth (w := j) dX7_price_40 hj ?_
  refine ss_astore (lv' := [(4, _), (0, _), (1, _), (2, _), (3, _)]) dX7_price_41 (by decide) rfl ?_
  refine ss_aload dX7_price_43 0 rfl ?_
  refine ss_get (i := 2 + 7 * j) dX7_price_45 flX7_123 (by omega) (sh_w0 hj _ _) rfl ?_
  rw [hh]
  refine sy_if_eq 55 dX7_price_48 (by decide) (fun c48 => ?_) (fun c48 => by first | exact kd_tf (rfl) c48 | exact kd_ft (rfl) c48 | exact absurd (rfl) c48 | exact absurd c48 (rfl))
  refine ss_aload dX7_price_55 0 rfl ?_
  refine ss_get (i := 2 + 7 * j) dX7_price_57 flX7_132 (by omega) (sh_w0 hj _ _) rfl ?_
  refine ss_iconst (v := nI 5) dX7_price_60 (by decide) ?_
  refine ss_icmp_eq 70 dX7_price_61 (by decide) (fun c61 => by first | exact kd_tf (hkd) c61 | exact kd_ft (hkd) c61 | exact absurd (hkd) c61 | exact absurd c61 (hkd)) (fun c61 => ?_)
  refine ss_aload_n dX7_price_64 1 rfl ?_
  refine ss_iconst (v := nI 5) dX7_price_65 (by decide) ?_
  refine ss_callV (As := [_]) (i := 0) dX7_price_66 vlX7_75 clX7_meet rfl rfl (by omega) (sh_r0 _ _) rfl (Nat.le_of_ble_eq_true rfl) (Nat.le_of_ble_eq_true rfl) (q_meet) ?_
  exact ss_iret dX7_price_69 rfl rfl (hQ)
set_option maxHeartbeats 4000000 in
set_option maxRecDepth 100000 in
theorem c_price_l {c : cx} {d : Nat} {X : nX} {Y : nY} {n : Nat} (hn : n ≤ 10) (h6 : X 0 6 = nI n) {m : Nat} (hm : m ≤ 12) (h7 : X 0 7 = nI m) {j : Nat} (hjm : j < m) {t : Nat} (ht : t < n) {v : Int32} (hv : wi v.toInt64 (-100000) 100000 = true) (hh : X (2 + 7 * j) 4 = bI false) (hkd : X (2 + 7 * j) 5 = nI 5) (hse : X (2 + 7 * j) 7 = nI (2 ^ n)) (hl : lany (p_price X Y j t v) (2 ^ n) = true) : sc c mX7_price (d + 4) [.ref (c_ad c 0), .int (nI j), .int (nI t), .int v] (X) (Y) (some (.int (-1005))) (X) (Y) := by
  intro Q hQ
  show ss c mX7_price (d + 4) Q 0 [(0, .ref (c_ad c 0)), (1, .int (nI j)), (2, .int (nI t)), (3, .int v)] [] (X) (Y)
  have hj : j < 12 := by omega
  have hwj : ix (nI j) m = true := ix_of hjm (by omega)
  have ht9 : ix (nI t) n = true := ix_of ht (by omega)
  refine ss_aload_n dX7_price_0 0 rfl ?_
  refine ss_iload_n dX7_price_1 1 rfl ?_
  refine ss_callV (As := [_]) (i := 0) dX7_price_2 vlX7_113 clX7_isWorth rfl rfl (by omega) (sh_r0 _ _) rfl (Nat.le_of_ble_eq_true rfl) (Nat.le_of_ble_eq_true rfl) (q_isWorth hm h7) ?_
  refine sy_if_eq 16 dX7_price_5 (by decide) (fun c5 => by first | exact kd_tf (hwj) c5 | exact kd_ft (hwj) c5 | exact absurd (hwj) c5 | exact absurd c5 (hwj)) (fun c5 => ?_)
  refine ss_aload_n dX7_price_8 0 rfl ?_
  refine ss_iload_n dX7_price_9 2 rfl ?_
  refine ss_callV (As := [_]) (i := 0) dX7_price_10 vlX7_159 clX7_isThing rfl rfl (by omega) (sh_r0 _ _) rfl (Nat.le_of_ble_eq_true rfl) (Nat.le_of_ble_eq_true rfl) (q_isThing hn h6) ?_
  refine sy_if_ne 20 dX7_price_13 (by decide) (fun c13 => ?_) (fun c13 => by first | exact kd_tf (ht9) c13 | exact kd_ft (ht9) c13 | exact absurd (ht9) c13 | exact absurd c13 (ht9))
  refine ss_iload_n dX7_price_20 3 rfl ?_
  refine ss_i2l dX7_price_21 ?_
  refine ss_ldc2 dX7_price_22 kcX7_205 ?_
  refine ss_callS (As := [_, _]) dX7_price_25 vlX7_142 clX7_isInSize rfl rfl (Nat.le_of_ble_eq_true rfl) (Nat.le_of_ble_eq_true rfl) (q_isInSize) ?_
  refine sy_if_ne 35 dX7_price_28 (by decide) (fun c28 => ?_) (fun c28 => by first | exact kd_tf (hv) c28 | exact kd_ft (hv) c28 | exact absurd (hv) c28 | exact absurd c28 (hv))
  refine ss_aload_n dX7_price_35 0 rfl ?_
  refine ss_get (i := 0) dX7_price_36 flX7_11 (by omega) (sh_r0 _ _) rfl ?_
  refine ss_iload_n dX7_price_39 1 rfl ?_
  refine ss_worth (w := j) dX7_price_40 hj ?_
  refine ss_astore (lv' := [(4, _), (0, _), (1, _), (2, _), (3, _)]) dX7_price_41 (by decide) rfl ?_
  refine ss_aload dX7_price_43 0 rfl ?_
  refine ss_get (i := 2 + 7 * j) dX7_price_45 flX7_123 (by omega) (sh_w0 hj _ _) rfl ?_
  rw [hh]
  refine sy_if_eq 55 dX7_price_48 (by decide) (fun c48 => ?_) (fun c48 => by first | exact kd_tf (rfl) c48 | exact kd_ft (rfl) c48 | exact absurd (rfl) c48 | exact absurd c48 (rfl))
  refine ss_aload dX7_price_55 0 rfl ?_
  refine ss_get (i := 2 + 7 * j) dX7_price_57 flX7_132 (by omega) (sh_w0 hj _ _) rfl ?_
  refine ss_iconst (v := nI 5) dX7_price_60 (by decide) ?_
  refine ss_icmp_eq 70 dX7_price_61 (by decide) (fun c61 => ?_) (fun c61 => by first | exact kd_tf (hkd) c61 | exact kd_ft (hkd) c61 | exact absurd (hkd) c61 | exact absurd c61 (hkd))
  refine ss_aload dX7_price_70 0 rfl ?_
  refine ss_iload_n dX7_price_72 3 rfl ?_
  refine ss_iload_n dX7_price_73 4 rfl ?_
  refine ss_callV (As := [_, _]) (i := 2 + 7 * j) dX7_price_74 vlX7_207 clX6_isLargeWithPrice rfl rfl (by omega) (sh_w0 hj _ _) rfl (Nat.le_of_ble_eq_true rfl) (Nat.le_of_ble_eq_true rfl) (q_isLargeWithPrice hj (p2_le hn) hse (by omega)) ?_
  refine sy_if_eq 84 dX7_price_77 (by decide) (fun c77 => by first | exact kd_tf (hl) c77 | exact kd_ft (hl) c77 | exact absurd (hl) c77 | exact absurd c77 (hl)) (fun c77 => ?_)
  refine ss_sipush (v := -1005) dX7_price_80 (by decide) ?_
  exact ss_iret dX7_price_83 rfl rfl (hQ)
set_option maxHeartbeats 4000000 in
set_option maxRecDepth 100000 in
theorem c_price_k {c : cx} {d : Nat} {X : nX} {Y : nY} {n : Nat} (hn : n ≤ 10) (h6 : X 0 6 = nI n) {m : Nat} (hm : m ≤ 12) (h7 : X 0 7 = nI m) {j : Nat} (hjm : j < m) {t : Nat} (ht : t < n) {v : Int32} (hv : wi v.toInt64 (-100000) 100000 = true) (hh : X (2 + 7 * j) 4 = bI false) (hkd : X (2 + 7 * j) 5 = nI 5) (hse : X (2 + 7 * j) 7 = nI (2 ^ n)) (hl : lany (p_price X Y j t v) (2 ^ n) = false) : sc c mX7_price (d + 4) [.ref (c_ad c 0), .int (nI j), .int (nI t), .int v] (X) (Y) (some (.int (up2 X 0 8 (nI 0) (8 + 7 * j) t))) (up2 (up2 X 0 8 (nI 0)) (8 + 7 * j) t v) (mpl Y (3 + 7 * j) 0 (2 ^ n) (f_price (up2 X 0 8 (nI 0)) Y j t v)) := by
  intro Q hQ
  show ss c mX7_price (d + 4) Q 0 [(0, .ref (c_ad c 0)), (1, .int (nI j)), (2, .int (nI t)), (3, .int v)] [] (X) (Y)
  have hj : j < 12 := by omega
  have hwj : ix (nI j) m = true := ix_of hjm (by omega)
  have ht9 : ix (nI t) n = true := ix_of ht (by omega)
  refine ss_aload_n dX7_price_0 0 rfl ?_
  refine ss_iload_n dX7_price_1 1 rfl ?_
  refine ss_callV (As := [_]) (i := 0) dX7_price_2 vlX7_113 clX7_isWorth rfl rfl (by omega) (sh_r0 _ _) rfl (Nat.le_of_ble_eq_true rfl) (Nat.le_of_ble_eq_true rfl) (q_isWorth hm h7) ?_
  refine sy_if_eq 16 dX7_price_5 (by decide) (fun c5 => by first | exact kd_tf (hwj) c5 | exact kd_ft (hwj) c5 | exact absurd (hwj) c5 | exact absurd c5 (hwj)) (fun c5 => ?_)
  refine ss_aload_n dX7_price_8 0 rfl ?_
  refine ss_iload_n dX7_price_9 2 rfl ?_
  refine ss_callV (As := [_]) (i := 0) dX7_price_10 vlX7_159 clX7_isThing rfl rfl (by omega) (sh_r0 _ _) rfl (Nat.le_of_ble_eq_true rfl) (Nat.le_of_ble_eq_true rfl) (q_isThing hn h6) ?_
  refine sy_if_ne 20 dX7_price_13 (by decide) (fun c13 => ?_) (fun c13 => by first | exact kd_tf (ht9) c13 | exact kd_ft (ht9) c13 | exact absurd (ht9) c13 | exact absurd c13 (ht9))
  refine ss_iload_n dX7_price_20 3 rfl ?_
  refine ss_i2l dX7_price_21 ?_
  refine ss_ldc2 dX7_price_22 kcX7_205 ?_
  refine ss_callS (As := [_, _]) dX7_price_25 vlX7_142 clX7_isInSize rfl rfl (Nat.le_of_ble_eq_true rfl) (Nat.le_of_ble_eq_true rfl) (q_isInSize) ?_
  refine sy_if_ne 35 dX7_price_28 (by decide) (fun c28 => ?_) (fun c28 => by first | exact kd_tf (hv) c28 | exact kd_ft (hv) c28 | exact absurd (hv) c28 | exact absurd c28 (hv))
  refine ss_aload_n dX7_price_35 0 rfl ?_
  refine ss_get (i := 0) dX7_price_36 flX7_11 (by omega) (sh_r0 _ _) rfl ?_
  refine ss_iload_n dX7_price_39 1 rfl ?_
  refine ss_worth (w := j) dX7_price_40 hj ?_
  refine ss_astore (lv' := [(4, _), (0, _), (1, _), (2, _), (3, _)]) dX7_price_41 (by decide) rfl ?_
  refine ss_aload dX7_price_43 0 rfl ?_
  refine ss_get (i := 2 + 7 * j) dX7_price_45 flX7_123 (by omega) (sh_w0 hj _ _) rfl ?_
  rw [hh]
  refine sy_if_eq 55 dX7_price_48 (by decide) (fun c48 => ?_) (fun c48 => by first | exact kd_tf (rfl) c48 | exact kd_ft (rfl) c48 | exact absurd (rfl) c48 | exact absurd c48 (rfl))
  refine ss_aload dX7_price_55 0 rfl ?_
  refine ss_get (i := 2 + 7 * j) dX7_price_57 flX7_132 (by omega) (sh_w0 hj _ _) rfl ?_
  refine ss_iconst (v := nI 5) dX7_price_60 (by decide) ?_
  refine ss_icmp_eq 70 dX7_price_61 (by decide) (fun c61 => ?_) (fun c61 => by first | exact kd_tf (hkd) c61 | exact kd_ft (hkd) c61 | exact absurd (hkd) c61 | exact absurd c61 (hkd))
  refine ss_aload dX7_price_70 0 rfl ?_
  refine ss_iload_n dX7_price_72 3 rfl ?_
  refine ss_iload_n dX7_price_73 4 rfl ?_
  refine ss_callV (As := [_, _]) (i := 2 + 7 * j) dX7_price_74 vlX7_207 clX6_isLargeWithPrice rfl rfl (by omega) (sh_w0 hj _ _) rfl (Nat.le_of_ble_eq_true rfl) (Nat.le_of_ble_eq_true rfl) (q_isLargeWithPrice hj (p2_le hn) hse (by omega)) ?_
  refine sy_if_eq 84 dX7_price_77 (by decide) (fun c77 => ?_) (fun c77 => by first | exact kd_tf (hl) c77 | exact kd_ft (hl) c77 | exact absurd (hl) c77 | exact absurd c77 (hl))
  refine ss_aload_n dX7_price_84 1 rfl ?_
  refine ss_iconst (v := nI 0) dX7_price_85 (by decide) ?_
  refine ss_put (i := 0) dX7_price_86 fwX7_79 (by omega) (sh_r0 _ _) rfl rfl (Nat.le_of_ble_eq_true rfl) (sh_r0 _ _) ?_
  refine ss_aload dX7_price_89 0 rfl ?_
  refine ss_get (i := 2 + 7 * j) dX7_price_91 flX7_211 (by omega) (sh_w0 hj _ _) rfl ?_
  refine ss_iload_n dX7_price_94 3 rfl ?_
  refine ss_iald (i := 8 + 7 * j) dX7_price_95 (by omega) (sh_w6 hj) (by omega) (by decide) ?_
  refine ss_istore (lv' := [(5, _), (4, _), (0, _), (1, _), (2, _), (3, _)]) dX7_price_96 (by decide) rfl ?_
  refine ss_aload dX7_price_98 1 rfl ?_
  refine ss_iload_n dX7_price_100 4 rfl ?_
  refine ss_iload_n dX7_price_101 5 rfl ?_
  refine ss_callV (As := [_, _]) (i := 2 + 7 * j) dX7_price_102 vlX7_214 clX6_takePrice rfl rfl (by omega) (sh_w0 hj _ _) rfl (Nat.le_of_ble_eq_true rfl) (Nat.le_of_ble_eq_true rfl) (q_takePrice hj (p2_le hn) (by rw [up2_at, if_neg (by omega)]; exact hse) (by omega)) ?_
  refine ss_iload dX7_price_105 0 rfl ?_
  exact ss_iret dX7_price_107 rfl rfl (hQ)
