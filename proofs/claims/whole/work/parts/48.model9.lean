set_option maxHeartbeats 1000000 in
set_option maxRecDepth 100000 in
theorem r_line_u {c : cx} {d : Nat} {X : nX} {Y : nY} {n : Nat} (hn : n ≤ 10) (h6 : X 105 0 = nI n) {m : Nat} (hm : m ≤ 12) (h7 : X 105 1 = nI m) {w a b v : Int32} (hu : ix w m = false ∨ ix a n = false ∨ ix b n = false) : sc c mX8_line (d + 7) [.ref (c_ad c 105), .int w, .int a, .int b, .int v] (X) (Y) (some (.int (-1001))) (X) (Y) := by
  intro Q hQ
  show ss c mX8_line (d + 7) Q 0 [(0, .ref (c_ad c 105)), (1, .int w), (2, .int a), (3, .int b), (4, .int v)] [] (X) (Y)
  refine ss_aload_n dX8_line_0 0 rfl ?_
  refine ss_iload_n dX8_line_1 1 rfl ?_
  refine ss_callV (As := [_]) (i := 105) dX8_line_2 vlX8_157 clX8_isWorth rfl rfl (by omega) (sh_r105 _ _) rfl (Nat.le_of_ble_eq_true rfl) (Nat.le_of_ble_eq_true rfl) (m_isWorth hm h7) ?_
  refine sy_if_eq 24 dX8_line_5 (by decide) (fun c5 => ?_) (fun c5 => ?_)
  · skip
    refine ss_sipush (v := -1001) dX8_line_24 (by decide) ?_
    exact ss_iret dX8_line_27 rfl rfl (hQ)
  · skip
    refine ss_aload_n dX8_line_8 0 rfl ?_
    refine ss_iload_n dX8_line_9 2 rfl ?_
    refine ss_callV (As := [_]) (i := 105) dX8_line_10 vlX8_180 clX8_isThing rfl rfl (by omega) (sh_r105 _ _) rfl (Nat.le_of_ble_eq_true rfl) (Nat.le_of_ble_eq_true rfl) (m_isThing hn h6) ?_
    refine sy_if_eq 24 dX8_line_13 (by decide) (fun c13 => ?_) (fun c13 => ?_)
    · skip
      refine ss_sipush (v := -1001) dX8_line_24 (by decide) ?_
      exact ss_iret dX8_line_27 rfl rfl (hQ)
    · skip
      refine ss_aload_n dX8_line_16 0 rfl ?_
      refine ss_iload_n dX8_line_17 3 rfl ?_
      refine ss_callV (As := [_]) (i := 105) dX8_line_18 vlX8_180 clX8_isThing rfl rfl (by omega) (sh_r105 _ _) rfl (Nat.le_of_ble_eq_true rfl) (Nat.le_of_ble_eq_true rfl) (m_isThing hn h6) ?_
      refine sy_if_ne 28 dX8_line_21 (by decide) (fun c21 => by rcases hu with h8 | h8 | h8; exact kd_tf c5 h8; exact kd_tf c13 h8; exact kd_tf c21 h8) (fun c21 => ?_)
      refine ss_sipush (v := -1001) dX8_line_24 (by decide) ?_
      exact ss_iret dX8_line_27 rfl rfl (hQ)
set_option maxHeartbeats 1000000 in
set_option maxRecDepth 100000 in
theorem r_line_o {c : cx} {d : Nat} {X : nX} {Y : nY} {n : Nat} (hn : n ≤ 10) (h6 : X 105 0 = nI n) {m : Nat} (hm : m ≤ 12) (h7 : X 105 1 = nI m) {j : Nat} (hjm : j < m) {a b : Nat} (ha : a < n) (hb0 : b < n) {v : Int32} (hv : ix v 10001 = false) : sc c mX8_line (d + 7) [.ref (c_ad c 105), .int (nI j), .int (nI a), .int (nI b), .int v] (X) (Y) (some (.int (-1002))) (X) (Y) := by
  intro Q hQ
  show ss c mX8_line (d + 7) Q 0 [(0, .ref (c_ad c 105)), (1, .int (nI j)), (2, .int (nI a)), (3, .int (nI b)), (4, .int v)] [] (X) (Y)
  have hj : j < 12 := by omega
  have hwj : ix (nI j) m = true := ix_of hjm (by omega)
  have ha9 : ix (nI a) n = true := ix_of ha (by omega)
  have hb9 : ix (nI b) n = true := ix_of hb0 (by omega)
  refine ss_aload_n dX8_line_0 0 rfl ?_
  refine ss_iload_n dX8_line_1 1 rfl ?_
  refine ss_callV (As := [_]) (i := 105) dX8_line_2 vlX8_157 clX8_isWorth rfl rfl (by omega) (sh_r105 _ _) rfl (Nat.le_of_ble_eq_true rfl) (Nat.le_of_ble_eq_true rfl) (m_isWorth hm h7) ?_
  refine sy_if_eq 24 dX8_line_5 (by decide) (fun c5 => by first | exact kd_tf (hwj) c5 | exact kd_ft (hwj) c5 | exact absurd (hwj) c5 | exact absurd c5 (hwj)) (fun c5 => ?_)
  refine ss_aload_n dX8_line_8 0 rfl ?_
  refine ss_iload_n dX8_line_9 2 rfl ?_
  refine ss_callV (As := [_]) (i := 105) dX8_line_10 vlX8_180 clX8_isThing rfl rfl (by omega) (sh_r105 _ _) rfl (Nat.le_of_ble_eq_true rfl) (Nat.le_of_ble_eq_true rfl) (m_isThing hn h6) ?_
  refine sy_if_eq 24 dX8_line_13 (by decide) (fun c13 => by first | exact kd_tf (ha9) c13 | exact kd_ft (ha9) c13 | exact absurd (ha9) c13 | exact absurd c13 (ha9)) (fun c13 => ?_)
  refine ss_aload_n dX8_line_16 0 rfl ?_
  refine ss_iload_n dX8_line_17 3 rfl ?_
  refine ss_callV (As := [_]) (i := 105) dX8_line_18 vlX8_180 clX8_isThing rfl rfl (by omega) (sh_r105 _ _) rfl (Nat.le_of_ble_eq_true rfl) (Nat.le_of_ble_eq_true rfl) (m_isThing hn h6) ?_
  refine sy_if_ne 28 dX8_line_21 (by decide) (fun c21 => ?_) (fun c21 => by first | exact kd_tf (hb9) c21 | exact kd_ft (hb9) c21 | exact absurd (hb9) c21 | exact absurd c21 (hb9))
  refine ss_iload dX8_line_28 4 rfl ?_
  refine ss_i2l dX8_line_30 ?_
  refine ss_lconst (v := 0) dX8_line_31 (by decide) ?_
  refine ss_ldc2 dX8_line_32 kcX8_183 ?_
  refine ss_callS (As := [_, _, _]) dX8_line_35 vlX8_89 clX8_within rfl rfl (Nat.le_of_ble_eq_true rfl) (Nat.le_of_ble_eq_true rfl) (m_within) ?_
  refine sy_if_ne 45 dX8_line_38 (by decide) (fun c38 => by first | exact kd_tf (by rw [wi_ix (n := 10001) rfl]; exact hv) c38 | exact kd_ft (by rw [wi_ix (n := 10001) rfl]; exact hv) c38 | exact absurd (by rw [wi_ix (n := 10001) rfl]; exact hv) c38 | exact absurd c38 (by rw [wi_ix (n := 10001) rfl]; exact hv)) (fun c38 => ?_)
  refine ss_sipush (v := -1002) dX8_line_41 (by decide) ?_
  exact ss_iret dX8_line_44 rfl rfl (hQ)
set_option maxHeartbeats 1000000 in
set_option maxRecDepth 100000 in
theorem r_line_n1 {c : cx} {d : Nat} {X : nX} {Y : nY} {n : Nat} (hn : n ≤ 10) (h6 : X 105 0 = nI n) {m : Nat} (hm : m ≤ 12) (h7 : X 105 1 = nI m) {j : Nat} (hjm : j < m) {a b : Nat} (ha : a < n) (hb0 : b < n) {v : Int32} (hv : ix v 10001 = true) (hh : X 107 j = bI true) : sc c mX8_line (d + 7) [.ref (c_ad c 105), .int (nI j), .int (nI a), .int (nI b), .int v] (X) (Y) (some (.int (-1003))) (X) (Y) := by
  intro Q hQ
  show ss c mX8_line (d + 7) Q 0 [(0, .ref (c_ad c 105)), (1, .int (nI j)), (2, .int (nI a)), (3, .int (nI b)), (4, .int v)] [] (X) (Y)
  have hj : j < 12 := by omega
  have hwj : ix (nI j) m = true := ix_of hjm (by omega)
  have ha9 : ix (nI a) n = true := ix_of ha (by omega)
  have hb9 : ix (nI b) n = true := ix_of hb0 (by omega)
  refine ss_aload_n dX8_line_0 0 rfl ?_
  refine ss_iload_n dX8_line_1 1 rfl ?_
  refine ss_callV (As := [_]) (i := 105) dX8_line_2 vlX8_157 clX8_isWorth rfl rfl (by omega) (sh_r105 _ _) rfl (Nat.le_of_ble_eq_true rfl) (Nat.le_of_ble_eq_true rfl) (m_isWorth hm h7) ?_
  refine sy_if_eq 24 dX8_line_5 (by decide) (fun c5 => by first | exact kd_tf (hwj) c5 | exact kd_ft (hwj) c5 | exact absurd (hwj) c5 | exact absurd c5 (hwj)) (fun c5 => ?_)
  refine ss_aload_n dX8_line_8 0 rfl ?_
  refine ss_iload_n dX8_line_9 2 rfl ?_
  refine ss_callV (As := [_]) (i := 105) dX8_line_10 vlX8_180 clX8_isThing rfl rfl (by omega) (sh_r105 _ _) rfl (Nat.le_of_ble_eq_true rfl) (Nat.le_of_ble_eq_true rfl) (m_isThing hn h6) ?_
  refine sy_if_eq 24 dX8_line_13 (by decide) (fun c13 => by first | exact kd_tf (ha9) c13 | exact kd_ft (ha9) c13 | exact absurd (ha9) c13 | exact absurd c13 (ha9)) (fun c13 => ?_)
  refine ss_aload_n dX8_line_16 0 rfl ?_
  refine ss_iload_n dX8_line_17 3 rfl ?_
  refine ss_callV (As := [_]) (i := 105) dX8_line_18 vlX8_180 clX8_isThing rfl rfl (by omega) (sh_r105 _ _) rfl (Nat.le_of_ble_eq_true rfl) (Nat.le_of_ble_eq_true rfl) (m_isThing hn h6) ?_
  refine sy_if_ne 28 dX8_line_21 (by decide) (fun c21 => ?_) (fun c21 => by first | exact kd_tf (hb9) c21 | exact kd_ft (hb9) c21 | exact absurd (hb9) c21 | exact absurd c21 (hb9))
  refine ss_iload dX8_line_28 4 rfl ?_
  refine ss_i2l dX8_line_30 ?_
  refine ss_lconst (v := 0) dX8_line_31 (by decide) ?_
  refine ss_ldc2 dX8_line_32 kcX8_183 ?_
  refine ss_callS (As := [_, _, _]) dX8_line_35 vlX8_89 clX8_within rfl rfl (Nat.le_of_ble_eq_true rfl) (Nat.le_of_ble_eq_true rfl) (m_within) ?_
  refine sy_if_ne 45 dX8_line_38 (by decide) (fun c38 => ?_) (fun c38 => by first | exact kd_tf (by rw [wi_ix (n := 10001) rfl]; exact hv) c38 | exact kd_ft (by rw [wi_ix (n := 10001) rfl]; exact hv) c38 | exact absurd (by rw [wi_ix (n := 10001) rfl]; exact hv) c38 | exact absurd c38 (by rw [wi_ix (n := 10001) rfl]; exact hv))
  refine ss_aload_n dX8_line_45 0 rfl ?_
  refine ss_get (i := 105) dX8_line_46 flX8_13 (by omega) (sh_r105 _ _) rfl ?_
  refine ss_iload_n dX8_line_49 1 rfl ?_
  refine ss_zald (i := 107) dX8_line_50 (by omega) (sh_r107) (by omega) (by decide) ?_
  rw [hh]
  refine sy_if_ne 59 dX8_line_51 (by decide) (fun c51 => ?_) (fun c51 => by first | exact kd_tf (rfl) c51 | exact kd_ft (rfl) c51 | exact absurd (rfl) c51 | exact absurd c51 (rfl))
  refine ss_sipush (v := -1003) dX8_line_59 (by decide) ?_
  exact ss_iret dX8_line_62 rfl rfl (hQ)
set_option maxHeartbeats 1000000 in
set_option maxRecDepth 100000 in
theorem r_line_n2 {c : cx} {d : Nat} {X : nX} {Y : nY} {n : Nat} (hn : n ≤ 10) (h6 : X 105 0 = nI n) {m : Nat} (hm : m ≤ 12) (h7 : X 105 1 = nI m) {j : Nat} (hjm : j < m) {a b : Nat} (ha : a < n) (hb0 : b < n) {v : Int32} (hv : ix v 10001 = true) (hh : X 107 j = bI false) (hab : a = b) : sc c mX8_line (d + 7) [.ref (c_ad c 105), .int (nI j), .int (nI a), .int (nI b), .int v] (X) (Y) (some (.int (-1003))) (X) (Y) := by
  intro Q hQ
  show ss c mX8_line (d + 7) Q 0 [(0, .ref (c_ad c 105)), (1, .int (nI j)), (2, .int (nI a)), (3, .int (nI b)), (4, .int v)] [] (X) (Y)
  have hj : j < 12 := by omega
  have hwj : ix (nI j) m = true := ix_of hjm (by omega)
  have ha9 : ix (nI a) n = true := ix_of ha (by omega)
  have hb9 : ix (nI b) n = true := ix_of hb0 (by omega)
  refine ss_aload_n dX8_line_0 0 rfl ?_
  refine ss_iload_n dX8_line_1 1 rfl ?_
  refine ss_callV (As := [_]) (i := 105) dX8_line_2 vlX8_157 clX8_isWorth rfl rfl (by omega) (sh_r105 _ _) rfl (Nat.le_of_ble_eq_true rfl) (Nat.le_of_ble_eq_true rfl) (m_isWorth hm h7) ?_
  refine sy_if_eq 24 dX8_line_5 (by decide) (fun c5 => by first | exact kd_tf (hwj) c5 | exact kd_ft (hwj) c5 | exact absurd (hwj) c5 | exact absurd c5 (hwj)) (fun c5 => ?_)
  refine ss_aload_n dX8_line_8 0 rfl ?_
  refine ss_iload_n dX8_line_9 2 rfl ?_
  refine ss_callV (As := [_]) (i := 105) dX8_line_10 vlX8_180 clX8_isThing rfl rfl (by omega) (sh_r105 _ _) rfl (Nat.le_of_ble_eq_true rfl) (Nat.le_of_ble_eq_true rfl) (m_isThing hn h6) ?_
  refine sy_if_eq 24 dX8_line_13 (by decide) (fun c13 => by first | exact kd_tf (ha9) c13 | exact kd_ft (ha9) c13 | exact absurd (ha9) c13 | exact absurd c13 (ha9)) (fun c13 => ?_)
  refine ss_aload_n dX8_line_16 0 rfl ?_
  refine ss_iload_n dX8_line_17 3 rfl ?_
  refine ss_callV (As := [_]) (i := 105) dX8_line_18 vlX8_180 clX8_isThing rfl rfl (by omega) (sh_r105 _ _) rfl (Nat.le_of_ble_eq_true rfl) (Nat.le_of_ble_eq_true rfl) (m_isThing hn h6) ?_
  refine sy_if_ne 28 dX8_line_21 (by decide) (fun c21 => ?_) (fun c21 => by first | exact kd_tf (hb9) c21 | exact kd_ft (hb9) c21 | exact absurd (hb9) c21 | exact absurd c21 (hb9))
  refine ss_iload dX8_line_28 4 rfl ?_
  refine ss_i2l dX8_line_30 ?_
  refine ss_lconst (v := 0) dX8_line_31 (by decide) ?_
  refine ss_ldc2 dX8_line_32 kcX8_183 ?_
  refine ss_callS (As := [_, _, _]) dX8_line_35 vlX8_89 clX8_within rfl rfl (Nat.le_of_ble_eq_true rfl) (Nat.le_of_ble_eq_true rfl) (m_within) ?_
  refine sy_if_ne 45 dX8_line_38 (by decide) (fun c38 => ?_) (fun c38 => by first | exact kd_tf (by rw [wi_ix (n := 10001) rfl]; exact hv) c38 | exact kd_ft (by rw [wi_ix (n := 10001) rfl]; exact hv) c38 | exact absurd (by rw [wi_ix (n := 10001) rfl]; exact hv) c38 | exact absurd c38 (by rw [wi_ix (n := 10001) rfl]; exact hv))
  refine ss_aload_n dX8_line_45 0 rfl ?_
  refine ss_get (i := 105) dX8_line_46 flX8_13 (by omega) (sh_r105 _ _) rfl ?_
  refine ss_iload_n dX8_line_49 1 rfl ?_
  refine ss_zald (i := 107) dX8_line_50 (by omega) (sh_r107) (by omega) (by decide) ?_
  rw [hh]
  refine sy_if_ne 59 dX8_line_51 (by decide) (fun c51 => by first | exact kd_tf (rfl) c51 | exact kd_ft (rfl) c51 | exact absurd (rfl) c51 | exact absurd c51 (rfl)) (fun c51 => ?_)
  refine ss_iload_n dX8_line_54 2 rfl ?_
  refine ss_iload_n dX8_line_55 3 rfl ?_
  refine sz_icmp_ne 63 dX8_line_56 (by decide) (by omega) (by omega) (fun c56 => by omega) (fun c56 => ?_)
  refine ss_sipush (v := -1003) dX8_line_59 (by decide) ?_
  exact ss_iret dX8_line_62 rfl rfl (hQ)
set_option maxHeartbeats 1000000 in
set_option maxRecDepth 100000 in
theorem r_line_c {c : cx} {d : Nat} {X : nX} {Y : nY} {n : Nat} (hn : n ≤ 10) (h6 : X 105 0 = nI n) {m : Nat} (hm : m ≤ 12) (h7 : X 105 1 = nI m) {j : Nat} (hjm : j < m) {a b : Nat} (ha : a < n) (hb0 : b < n) {v : Int32} (hv : ix v 10001 = true) (hh : X 107 j = bI false) (hab : a ≠ b) (hkd : ¬ X 106 j = nI 1) : sc c mX8_line (d + 7) [.ref (c_ad c 105), .int (nI j), .int (nI a), .int (nI b), .int v] (X) (Y) (some (.int (nI 0))) (up2 X 105 19 (nI 5)) (Y) := by
  intro Q hQ
  show ss c mX8_line (d + 7) Q 0 [(0, .ref (c_ad c 105)), (1, .int (nI j)), (2, .int (nI a)), (3, .int (nI b)), (4, .int v)] [] (X) (Y)
  have hj : j < 12 := by omega
  have hwj : ix (nI j) m = true := ix_of hjm (by omega)
  have ha9 : ix (nI a) n = true := ix_of ha (by omega)
  have hb9 : ix (nI b) n = true := ix_of hb0 (by omega)
  refine ss_aload_n dX8_line_0 0 rfl ?_
  refine ss_iload_n dX8_line_1 1 rfl ?_
  refine ss_callV (As := [_]) (i := 105) dX8_line_2 vlX8_157 clX8_isWorth rfl rfl (by omega) (sh_r105 _ _) rfl (Nat.le_of_ble_eq_true rfl) (Nat.le_of_ble_eq_true rfl) (m_isWorth hm h7) ?_
  refine sy_if_eq 24 dX8_line_5 (by decide) (fun c5 => by first | exact kd_tf (hwj) c5 | exact kd_ft (hwj) c5 | exact absurd (hwj) c5 | exact absurd c5 (hwj)) (fun c5 => ?_)
  refine ss_aload_n dX8_line_8 0 rfl ?_
  refine ss_iload_n dX8_line_9 2 rfl ?_
  refine ss_callV (As := [_]) (i := 105) dX8_line_10 vlX8_180 clX8_isThing rfl rfl (by omega) (sh_r105 _ _) rfl (Nat.le_of_ble_eq_true rfl) (Nat.le_of_ble_eq_true rfl) (m_isThing hn h6) ?_
  refine sy_if_eq 24 dX8_line_13 (by decide) (fun c13 => by first | exact kd_tf (ha9) c13 | exact kd_ft (ha9) c13 | exact absurd (ha9) c13 | exact absurd c13 (ha9)) (fun c13 => ?_)
  refine ss_aload_n dX8_line_16 0 rfl ?_
  refine ss_iload_n dX8_line_17 3 rfl ?_
  refine ss_callV (As := [_]) (i := 105) dX8_line_18 vlX8_180 clX8_isThing rfl rfl (by omega) (sh_r105 _ _) rfl (Nat.le_of_ble_eq_true rfl) (Nat.le_of_ble_eq_true rfl) (m_isThing hn h6) ?_
  refine sy_if_ne 28 dX8_line_21 (by decide) (fun c21 => ?_) (fun c21 => by first | exact kd_tf (hb9) c21 | exact kd_ft (hb9) c21 | exact absurd (hb9) c21 | exact absurd c21 (hb9))
  refine ss_iload dX8_line_28 4 rfl ?_
  refine ss_i2l dX8_line_30 ?_
  refine ss_lconst (v := 0) dX8_line_31 (by decide) ?_
  refine ss_ldc2 dX8_line_32 kcX8_183 ?_
  refine ss_callS (As := [_, _, _]) dX8_line_35 vlX8_89 clX8_within rfl rfl (Nat.le_of_ble_eq_true rfl) (Nat.le_of_ble_eq_true rfl) (m_within) ?_
  refine sy_if_ne 45 dX8_line_38 (by decide) (fun c38 => ?_) (fun c38 => by first | exact kd_tf (by rw [wi_ix (n := 10001) rfl]; exact hv) c38 | exact kd_ft (by rw [wi_ix (n := 10001) rfl]; exact hv) c38 | exact absurd (by rw [wi_ix (n := 10001) rfl]; exact hv) c38 | exact absurd c38 (by rw [wi_ix (n := 10001) rfl]; exact hv))
  refine ss_aload_n dX8_line_45 0 rfl ?_
  refine ss_get (i := 105) dX8_line_46 flX8_13 (by omega) (sh_r105 _ _) rfl ?_
  refine ss_iload_n dX8_line_49 1 rfl ?_
  refine ss_zald (i := 107) dX8_line_50 (by omega) (sh_r107) (by omega) (by decide) ?_
  rw [hh]
  refine sy_if_ne 59 dX8_line_51 (by decide) (fun c51 => by first | exact kd_tf (rfl) c51 | exact kd_ft (rfl) c51 | exact absurd (rfl) c51 | exact absurd c51 (rfl)) (fun c51 => ?_)
  refine ss_iload_n dX8_line_54 2 rfl ?_
  refine ss_iload_n dX8_line_55 3 rfl ?_
  refine sz_icmp_ne 63 dX8_line_56 (by decide) (by omega) (by omega) (fun c56 => ?_) (fun c56 => by omega)
  refine ss_aload_n dX8_line_63 0 rfl ?_
  refine ss_get (i := 105) dX8_line_64 flX8_105 (by omega) (sh_r105 _ _) rfl ?_
  refine ss_istore (lv' := [(5, _), (0, _), (1, _), (2, _), (3, _), (4, _)]) dX8_line_67 (by decide) rfl ?_
  refine ss_aload_n dX8_line_69 1 rfl ?_
  refine ss_iload_n dX8_line_70 2 rfl ?_
  refine ss_iconst (v := nI 1) dX8_line_71 (by decide) ?_
  refine ss_callV (As := [_, _]) (i := 105) dX8_line_72 vlX8_176 clX8_isOf rfl rfl (by omega) (sh_r105 _ _) rfl (Nat.le_of_ble_eq_true rfl) (Nat.le_of_ble_eq_true rfl) (m_isOf_f hj hkd) ?_
  refine sy_if_ne 80 dX8_line_75 (by decide) (fun c75 => by first | exact kd_tf (rfl) c75 | exact kd_ft (rfl) c75 | exact absurd (rfl) c75 | exact absurd c75 (rfl)) (fun c75 => ?_)
  refine ss_iconst (v := nI 0) dX8_line_78 (by decide) ?_
  exact ss_iret dX8_line_79 rfl rfl (hQ)
set_option maxHeartbeats 1000000 in
set_option maxRecDepth 100000 in
theorem r_line_f {c : cx} {d : Nat} {X : nX} {Y : nY} {n : Nat} (hn : n ≤ 10) (h6 : X 105 0 = nI n) {m : Nat} (hm : m ≤ 12) (h7 : X 105 1 = nI m) {j : Nat} (hjm : j < m) {a b : Nat} (ha : a < n) (hb0 : b < n) {v : Int32} (hv : ix v 10001 = true) (hh : X 107 j = bI false) (hab : a ≠ b) (hkd : X 106 j = nI 1) {P : Nat} (hmy : X 109 j = nI P) (hP : P = 24) : sc c mX8_line (d + 7) [.ref (c_ad c 105), .int (nI j), .int (nI a), .int (nI b), .int v] (X) (Y) (some (.int (-1004))) (up2 (up2 X 105 19 (nI 0)) 105 19 (X 105 19)) (Y) := by
  intro Q hQ
  show ss c mX8_line (d + 7) Q 0 [(0, .ref (c_ad c 105)), (1, .int (nI j)), (2, .int (nI a)), (3, .int (nI b)), (4, .int v)] [] (X) (Y)
  have hj : j < 12 := by omega
  have hwj : ix (nI j) m = true := ix_of hjm (by omega)
  have ha9 : ix (nI a) n = true := ix_of ha (by omega)
  have hb9 : ix (nI b) n = true := ix_of hb0 (by omega)
  refine ss_aload_n dX8_line_0 0 rfl ?_
  refine ss_iload_n dX8_line_1 1 rfl ?_
  refine ss_callV (As := [_]) (i := 105) dX8_line_2 vlX8_157 clX8_isWorth rfl rfl (by omega) (sh_r105 _ _) rfl (Nat.le_of_ble_eq_true rfl) (Nat.le_of_ble_eq_true rfl) (m_isWorth hm h7) ?_
  refine sy_if_eq 24 dX8_line_5 (by decide) (fun c5 => by first | exact kd_tf (hwj) c5 | exact kd_ft (hwj) c5 | exact absurd (hwj) c5 | exact absurd c5 (hwj)) (fun c5 => ?_)
  refine ss_aload_n dX8_line_8 0 rfl ?_
  refine ss_iload_n dX8_line_9 2 rfl ?_
  refine ss_callV (As := [_]) (i := 105) dX8_line_10 vlX8_180 clX8_isThing rfl rfl (by omega) (sh_r105 _ _) rfl (Nat.le_of_ble_eq_true rfl) (Nat.le_of_ble_eq_true rfl) (m_isThing hn h6) ?_
  refine sy_if_eq 24 dX8_line_13 (by decide) (fun c13 => by first | exact kd_tf (ha9) c13 | exact kd_ft (ha9) c13 | exact absurd (ha9) c13 | exact absurd c13 (ha9)) (fun c13 => ?_)
  refine ss_aload_n dX8_line_16 0 rfl ?_
  refine ss_iload_n dX8_line_17 3 rfl ?_
  refine ss_callV (As := [_]) (i := 105) dX8_line_18 vlX8_180 clX8_isThing rfl rfl (by omega) (sh_r105 _ _) rfl (Nat.le_of_ble_eq_true rfl) (Nat.le_of_ble_eq_true rfl) (m_isThing hn h6) ?_
  refine sy_if_ne 28 dX8_line_21 (by decide) (fun c21 => ?_) (fun c21 => by first | exact kd_tf (hb9) c21 | exact kd_ft (hb9) c21 | exact absurd (hb9) c21 | exact absurd c21 (hb9))
  refine ss_iload dX8_line_28 4 rfl ?_
  refine ss_i2l dX8_line_30 ?_
  refine ss_lconst (v := 0) dX8_line_31 (by decide) ?_
  refine ss_ldc2 dX8_line_32 kcX8_183 ?_
  refine ss_callS (As := [_, _, _]) dX8_line_35 vlX8_89 clX8_within rfl rfl (Nat.le_of_ble_eq_true rfl) (Nat.le_of_ble_eq_true rfl) (m_within) ?_
  refine sy_if_ne 45 dX8_line_38 (by decide) (fun c38 => ?_) (fun c38 => by first | exact kd_tf (by rw [wi_ix (n := 10001) rfl]; exact hv) c38 | exact kd_ft (by rw [wi_ix (n := 10001) rfl]; exact hv) c38 | exact absurd (by rw [wi_ix (n := 10001) rfl]; exact hv) c38 | exact absurd c38 (by rw [wi_ix (n := 10001) rfl]; exact hv))
  refine ss_aload_n dX8_line_45 0 rfl ?_
  refine ss_get (i := 105) dX8_line_46 flX8_13 (by omega) (sh_r105 _ _) rfl ?_
  refine ss_iload_n dX8_line_49 1 rfl ?_
  refine ss_zald (i := 107) dX8_line_50 (by omega) (sh_r107) (by omega) (by decide) ?_
  rw [hh]
  refine sy_if_ne 59 dX8_line_51 (by decide) (fun c51 => by first | exact kd_tf (rfl) c51 | exact kd_ft (rfl) c51 | exact absurd (rfl) c51 | exact absurd c51 (rfl)) (fun c51 => ?_)
  refine ss_iload_n dX8_line_54 2 rfl ?_
  refine ss_iload_n dX8_line_55 3 rfl ?_
  refine sz_icmp_ne 63 dX8_line_56 (by decide) (by omega) (by omega) (fun c56 => ?_) (fun c56 => by omega)
  refine ss_aload_n dX8_line_63 0 rfl ?_
  refine ss_get (i := 105) dX8_line_64 flX8_105 (by omega) (sh_r105 _ _) rfl ?_
  refine ss_istore (lv' := [(5, _), (0, _), (1, _), (2, _), (3, _), (4, _)]) dX8_line_67 (by decide) rfl ?_
  refine ss_aload_n dX8_line_69 1 rfl ?_
  refine ss_iload_n dX8_line_70 2 rfl ?_
  refine ss_iconst (v := nI 1) dX8_line_71 (by decide) ?_
  refine ss_callV (As := [_, _]) (i := 105) dX8_line_72 vlX8_176 clX8_isOf rfl rfl (by omega) (sh_r105 _ _) rfl (Nat.le_of_ble_eq_true rfl) (Nat.le_of_ble_eq_true rfl) (m_isOf_t hj hkd) ?_
  refine sy_if_ne 80 dX8_line_75 (by decide) (fun c75 => ?_) (fun c75 => by first | exact kd_tf (rfl) c75 | exact kd_ft (rfl) c75 | exact absurd (rfl) c75 | exact absurd c75 (rfl))
  refine ss_aload_n dX8_line_80 1 rfl ?_
  refine ss_get (i := 105) dX8_line_81 flX8_21 (by omega) (sh_r105 _ _) rfl ?_
  refine ss_iload_n dX8_line_84 2 rfl ?_
  refine ss_iald (i := 109) dX8_line_85 (by omega) (sh_r109) (by omega) (by decide) ?_
  rw [up2_at, if_neg (by omega), hmy]
  refine ss_bipush (v := nI 24) dX8_line_86 (by decide) ?_
  refine sz_icmp_ne 103 dX8_line_88 (by decide) (by omega) (by omega) (fun c88 => by omega) (fun c88 => ?_)
  refine ss_aload_n dX8_line_91 1 rfl ?_
  refine ss_sipush (v := -1004) dX8_line_92 (by decide) ?_
  refine ss_iload dX8_line_95 0 rfl ?_
  refine ss_callV (As := [_, _]) (i := 105) dX8_line_97 vlX8_185 clX8_refuse rfl rfl (by omega) (sh_r105 _ _) rfl (Nat.le_of_ble_eq_true rfl) (Nat.le_of_ble_eq_true rfl) (m_refuse) ?_
  refine ss_goto 112 dX8_line_100 (by decide) ?_
  exact ss_iret dX8_line_112 rfl rfl (hQ)
set_option maxHeartbeats 1000000 in
set_option maxRecDepth 100000 in
theorem r_line_k {c : cx} {d : Nat} {X : nX} {Y : nY} {n : Nat} (hn : n ≤ 10) (h6 : X 105 0 = nI n) {m : Nat} (hm : m ≤ 12) (h7 : X 105 1 = nI m) {j : Nat} (hjm : j < m) {a b : Nat} (ha : a < n) (hb0 : b < n) {v : Int32} (hv : ix v 10001 = true) (hh : X 107 j = bI false) (hab : a ≠ b) (hkd : X 106 j = nI 1) {P : Nat} (hmy : X 109 j = nI P) (hP : P < 24) {g : Bool} {Y1 : nY} (hW : sc c mX8_work (d + 5) [.ref (c_ad c 105), .int (nI j)] (x_mo (up2 X 105 19 (nI 0)) j P (nI a) (nI b) v) Y (some (.int (bI g))) (x_mo (up2 X 105 19 (nI 0)) j P (nI a) (nI b) v) Y1) : sc c mX8_line (d + 7) [.ref (c_ad c 105), .int (nI j), .int (nI a), .int (nI b), .int v] (X) (Y) (some (.int (nI (P + 1)))) (x_mo (up2 X 105 19 (nI 0)) j P (nI a) (nI b) v) (Y1) := by
  intro Q hQ
  show ss c mX8_line (d + 7) Q 0 [(0, .ref (c_ad c 105)), (1, .int (nI j)), (2, .int (nI a)), (3, .int (nI b)), (4, .int v)] [] (X) (Y)
  have hj : j < 12 := by omega
  have hwj : ix (nI j) m = true := ix_of hjm (by omega)
  have ha9 : ix (nI a) n = true := ix_of ha (by omega)
  have hb9 : ix (nI b) n = true := ix_of hb0 (by omega)
  refine ss_aload_n dX8_line_0 0 rfl ?_
  refine ss_iload_n dX8_line_1 1 rfl ?_
  refine ss_callV (As := [_]) (i := 105) dX8_line_2 vlX8_157 clX8_isWorth rfl rfl (by omega) (sh_r105 _ _) rfl (Nat.le_of_ble_eq_true rfl) (Nat.le_of_ble_eq_true rfl) (m_isWorth hm h7) ?_
  refine sy_if_eq 24 dX8_line_5 (by decide) (fun c5 => by first | exact kd_tf (hwj) c5 | exact kd_ft (hwj) c5 | exact absurd (hwj) c5 | exact absurd c5 (hwj)) (fun c5 => ?_)
  refine ss_aload_n dX8_line_8 0 rfl ?_
  refine ss_iload_n dX8_line_9 2 rfl ?_
  refine ss_callV (As := [_]) (i := 105) dX8_line_10 vlX8_180 clX8_isThing rfl rfl (by omega) (sh_r105 _ _) rfl (Nat.le_of_ble_eq_true rfl) (Nat.le_of_ble_eq_true rfl) (m_isThing hn h6) ?_
  refine sy_if_eq 24 dX8_line_13 (by decide) (fun c13 => by first | exact kd_tf (ha9) c13 | exact kd_ft (ha9) c13 | exact absurd (ha9) c13 | exact absurd c13 (ha9)) (fun c13 => ?_)
  refine ss_aload_n dX8_line_16 0 rfl ?_
  refine ss_iload_n dX8_line_17 3 rfl ?_
  refine ss_callV (As := [_]) (i := 105) dX8_line_18 vlX8_180 clX8_isThing rfl rfl (by omega) (sh_r105 _ _) rfl (Nat.le_of_ble_eq_true rfl) (Nat.le_of_ble_eq_true rfl) (m_isThing hn h6) ?_
  refine sy_if_ne 28 dX8_line_21 (by decide) (fun c21 => ?_) (fun c21 => by first | exact kd_tf (hb9) c21 | exact kd_ft (hb9) c21 | exact absurd (hb9) c21 | exact absurd c21 (hb9))
  refine ss_iload dX8_line_28 4 rfl ?_
  refine ss_i2l dX8_line_30 ?_
  refine ss_lconst (v := 0) dX8_line_31 (by decide) ?_
  refine ss_ldc2 dX8_line_32 kcX8_183 ?_
  refine ss_callS (As := [_, _, _]) dX8_line_35 vlX8_89 clX8_within rfl rfl (Nat.le_of_ble_eq_true rfl) (Nat.le_of_ble_eq_true rfl) (m_within) ?_
  refine sy_if_ne 45 dX8_line_38 (by decide) (fun c38 => ?_) (fun c38 => by first | exact kd_tf (by rw [wi_ix (n := 10001) rfl]; exact hv) c38 | exact kd_ft (by rw [wi_ix (n := 10001) rfl]; exact hv) c38 | exact absurd (by rw [wi_ix (n := 10001) rfl]; exact hv) c38 | exact absurd c38 (by rw [wi_ix (n := 10001) rfl]; exact hv))
  refine ss_aload_n dX8_line_45 0 rfl ?_
  refine ss_get (i := 105) dX8_line_46 flX8_13 (by omega) (sh_r105 _ _) rfl ?_
  refine ss_iload_n dX8_line_49 1 rfl ?_
  refine ss_zald (i := 107) dX8_line_50 (by omega) (sh_r107) (by omega) (by decide) ?_
  rw [hh]
  refine sy_if_ne 59 dX8_line_51 (by decide) (fun c51 => by first | exact kd_tf (rfl) c51 | exact kd_ft (rfl) c51 | exact absurd (rfl) c51 | exact absurd c51 (rfl)) (fun c51 => ?_)
  refine ss_iload_n dX8_line_54 2 rfl ?_
  refine ss_iload_n dX8_line_55 3 rfl ?_
  refine sz_icmp_ne 63 dX8_line_56 (by decide) (by omega) (by omega) (fun c56 => ?_) (fun c56 => by omega)
  refine ss_aload_n dX8_line_63 0 rfl ?_
  refine ss_get (i := 105) dX8_line_64 flX8_105 (by omega) (sh_r105 _ _) rfl ?_
  refine ss_istore (lv' := [(5, _), (0, _), (1, _), (2, _), (3, _), (4, _)]) dX8_line_67 (by decide) rfl ?_
  refine ss_aload_n dX8_line_69 1 rfl ?_
  refine ss_iload_n dX8_line_70 2 rfl ?_
  refine ss_iconst (v := nI 1) dX8_line_71 (by decide) ?_
  refine ss_callV (As := [_, _]) (i := 105) dX8_line_72 vlX8_176 clX8_isOf rfl rfl (by omega) (sh_r105 _ _) rfl (Nat.le_of_ble_eq_true rfl) (Nat.le_of_ble_eq_true rfl) (m_isOf_t hj hkd) ?_
  refine sy_if_ne 80 dX8_line_75 (by decide) (fun c75 => ?_) (fun c75 => by first | exact kd_tf (rfl) c75 | exact kd_ft (rfl) c75 | exact absurd (rfl) c75 | exact absurd c75 (rfl))
  refine ss_aload_n dX8_line_80 1 rfl ?_
  refine ss_get (i := 105) dX8_line_81 flX8_21 (by omega) (sh_r105 _ _) rfl ?_
  refine ss_iload_n dX8_line_84 2 rfl ?_
  refine ss_iald (i := 109) dX8_line_85 (by omega) (sh_r109) (by omega) (by decide) ?_
  rw [up2_at, if_neg (by omega), hmy]
  refine ss_bipush (v := nI 24) dX8_line_86 (by decide) ?_
  refine sz_icmp_ne 103 dX8_line_88 (by decide) (by omega) (by omega) (fun c88 => ?_) (fun c88 => by omega)
  refine ss_aload_n dX8_line_103 1 rfl ?_
  refine ss_iload_n dX8_line_104 2 rfl ?_
  refine ss_iload_n dX8_line_105 3 rfl ?_
  refine ss_iload_n dX8_line_106 4 rfl ?_
  refine ss_iload dX8_line_107 5 rfl ?_
  refine ss_callV (As := [_, _, _, _]) (i := 105) dX8_line_109 vlX8_189 clX8_more rfl rfl (by omega) (sh_r105 _ _) rfl (Nat.le_of_ble_eq_true rfl) (Nat.le_of_ble_eq_true rfl) (m_more hj hP (by rw [up2_at, if_neg (by omega)]; exact hmy) hW) ?_
  exact ss_iret dX8_line_112 rfl rfl (hQ)
set_option maxHeartbeats 1000000 in
set_option maxRecDepth 100000 in
theorem r_spot_u {c : cx} {d : Nat} {X : nX} {Y : nY} {n : Nat} (hn : n ≤ 10) (h6 : X 105 0 = nI n) {m : Nat} (hm : m ≤ 12) (h7 : X 105 1 = nI m) {w s v : Int32} (hu : ix w m = false ∨ ix s (2 ^ n) = false) : sc c mX8_spot (d + 7) [.ref (c_ad c 105), .int w, .int v, .int s] (X) (Y) (some (.int (-1001))) (X) (Y) := by
  intro Q hQ
  show ss c mX8_spot (d + 7) Q 0 [(0, .ref (c_ad c 105)), (1, .int w), (2, .int v), (3, .int s)] [] (X) (Y)
  refine ss_aload_n dX8_spot_0 0 rfl ?_
  refine ss_iload_n dX8_spot_1 1 rfl ?_
  refine ss_callV (As := [_]) (i := 105) dX8_spot_2 vlX8_157 clX8_isWorth rfl rfl (by omega) (sh_r105 _ _) rfl (Nat.le_of_ble_eq_true rfl) (Nat.le_of_ble_eq_true rfl) (m_isWorth hm h7) ?_
  refine sy_if_eq 16 dX8_spot_5 (by decide) (fun c5 => ?_) (fun c5 => ?_)
  · skip
    refine ss_sipush (v := -1001) dX8_spot_16 (by decide) ?_
    exact ss_iret dX8_spot_19 rfl rfl (hQ)
  · skip
    refine ss_aload_n dX8_spot_8 0 rfl ?_
    refine ss_iload_n dX8_spot_9 3 rfl ?_
    refine ss_callV (As := [_]) (i := 105) dX8_spot_10 vlX8_160 clX8_isSet rfl rfl (by omega) (sh_r105 _ _) rfl (Nat.le_of_ble_eq_true rfl) (Nat.le_of_ble_eq_true rfl) (m_isSet hn h6) ?_
    refine sy_if_ne 20 dX8_spot_13 (by decide) (fun c13 => by rcases hu with h8 | h8; exact kd_tf c5 h8; exact kd_tf c13 h8) (fun c13 => ?_)
    refine ss_sipush (v := -1001) dX8_spot_16 (by decide) ?_
    exact ss_iret dX8_spot_19 rfl rfl (hQ)
set_option maxHeartbeats 1000000 in
set_option maxRecDepth 100000 in
theorem r_spot_o {c : cx} {d : Nat} {X : nX} {Y : nY} {n : Nat} (hn : n ≤ 10) (h6 : X 105 0 = nI n) {m : Nat} (hm : m ≤ 12) (h7 : X 105 1 = nI m) {j : Nat} (hjm : j < m) {s : Nat} (hs : s < 2 ^ n) {v : Int32} (hv : ix v 10001 = false) : sc c mX8_spot (d + 7) [.ref (c_ad c 105), .int (nI j), .int v, .int (nI s)] (X) (Y) (some (.int (-1002))) (X) (Y) := by
  intro Q hQ
  show ss c mX8_spot (d + 7) Q 0 [(0, .ref (c_ad c 105)), (1, .int (nI j)), (2, .int v), (3, .int (nI s))] [] (X) (Y)
  have hj : j < 12 := by omega
  have hwj : ix (nI j) m = true := ix_of hjm (by omega)
  have hs9 : ix (nI s) (2 ^ n) = true := ix_of hs (by have := p2_le hn; omega)
  have hs8 := ix_2p hs hn
  refine ss_aload_n dX8_spot_0 0 rfl ?_
  refine ss_iload_n dX8_spot_1 1 rfl ?_
  refine ss_callV (As := [_]) (i := 105) dX8_spot_2 vlX8_157 clX8_isWorth rfl rfl (by omega) (sh_r105 _ _) rfl (Nat.le_of_ble_eq_true rfl) (Nat.le_of_ble_eq_true rfl) (m_isWorth hm h7) ?_
  refine sy_if_eq 16 dX8_spot_5 (by decide) (fun c5 => by first | exact kd_tf (hwj) c5 | exact kd_ft (hwj) c5 | exact absurd (hwj) c5 | exact absurd c5 (hwj)) (fun c5 => ?_)
  refine ss_aload_n dX8_spot_8 0 rfl ?_
  refine ss_iload_n dX8_spot_9 3 rfl ?_
  refine ss_callV (As := [_]) (i := 105) dX8_spot_10 vlX8_160 clX8_isSet rfl rfl (by omega) (sh_r105 _ _) rfl (Nat.le_of_ble_eq_true rfl) (Nat.le_of_ble_eq_true rfl) (m_isSet hn h6) ?_
  refine sy_if_ne 20 dX8_spot_13 (by decide) (fun c13 => ?_) (fun c13 => by first | exact kd_tf (hs9) c13 | exact kd_ft (hs9) c13 | exact absurd (hs9) c13 | exact absurd c13 (hs9))
  refine ss_iload_n dX8_spot_20 2 rfl ?_
  refine ss_i2l dX8_spot_21 ?_
  refine ss_lconst (v := 0) dX8_spot_22 (by decide) ?_
  refine ss_ldc2 dX8_spot_23 kcX8_183 ?_
  refine ss_callS (As := [_, _, _]) dX8_spot_26 vlX8_89 clX8_within rfl rfl (Nat.le_of_ble_eq_true rfl) (Nat.le_of_ble_eq_true rfl) (m_within) ?_
  refine sy_if_ne 36 dX8_spot_29 (by decide) (fun c29 => by first | exact kd_tf (by rw [wi_ix (n := 10001) rfl]; exact hv) c29 | exact kd_ft (by rw [wi_ix (n := 10001) rfl]; exact hv) c29 | exact absurd (by rw [wi_ix (n := 10001) rfl]; exact hv) c29 | exact absurd c29 (by rw [wi_ix (n := 10001) rfl]; exact hv)) (fun c29 => ?_)
  refine ss_sipush (v := -1002) dX8_spot_32 (by decide) ?_
  exact ss_iret dX8_spot_35 rfl rfl (hQ)
set_option maxHeartbeats 1000000 in
set_option maxRecDepth 100000 in
theorem r_spot_n {c : cx} {d : Nat} {X : nX} {Y : nY} {n : Nat} (hn : n ≤ 10) (h6 : X 105 0 = nI n) {m : Nat} (hm : m ≤ 12) (h7 : X 105 1 = nI m) {j : Nat} (hjm : j < m) {s : Nat} (hs : s < 2 ^ n) {v : Int32} (hv : ix v 10001 = true) (hh : X 107 j = bI true) : sc c mX8_spot (d + 7) [.ref (c_ad c 105), .int (nI j), .int v, .int (nI s)] (X) (Y) (some (.int (-1003))) (X) (Y) := by
  intro Q hQ
  show ss c mX8_spot (d + 7) Q 0 [(0, .ref (c_ad c 105)), (1, .int (nI j)), (2, .int v), (3, .int (nI s))] [] (X) (Y)
  have hj : j < 12 := by omega
  have hwj : ix (nI j) m = true := ix_of hjm (by omega)
  have hs9 : ix (nI s) (2 ^ n) = true := ix_of hs (by have := p2_le hn; omega)
  have hs8 := ix_2p hs hn
  refine ss_aload_n dX8_spot_0 0 rfl ?_
  refine ss_iload_n dX8_spot_1 1 rfl ?_
  refine ss_callV (As := [_]) (i := 105) dX8_spot_2 vlX8_157 clX8_isWorth rfl rfl (by omega) (sh_r105 _ _) rfl (Nat.le_of_ble_eq_true rfl) (Nat.le_of_ble_eq_true rfl) (m_isWorth hm h7) ?_
  refine sy_if_eq 16 dX8_spot_5 (by decide) (fun c5 => by first | exact kd_tf (hwj) c5 | exact kd_ft (hwj) c5 | exact absurd (hwj) c5 | exact absurd c5 (hwj)) (fun c5 => ?_)
  refine ss_aload_n dX8_spot_8 0 rfl ?_
  refine ss_iload_n dX8_spot_9 3 rfl ?_
  refine ss_callV (As := [_]) (i := 105) dX8_spot_10 vlX8_160 clX8_isSet rfl rfl (by omega) (sh_r105 _ _) rfl (Nat.le_of_ble_eq_true rfl) (Nat.le_of_ble_eq_true rfl) (m_isSet hn h6) ?_
  refine sy_if_ne 20 dX8_spot_13 (by decide) (fun c13 => ?_) (fun c13 => by first | exact kd_tf (hs9) c13 | exact kd_ft (hs9) c13 | exact absurd (hs9) c13 | exact absurd c13 (hs9))
  refine ss_iload_n dX8_spot_20 2 rfl ?_
  refine ss_i2l dX8_spot_21 ?_
  refine ss_lconst (v := 0) dX8_spot_22 (by decide) ?_
  refine ss_ldc2 dX8_spot_23 kcX8_183 ?_
  refine ss_callS (As := [_, _, _]) dX8_spot_26 vlX8_89 clX8_within rfl rfl (Nat.le_of_ble_eq_true rfl) (Nat.le_of_ble_eq_true rfl) (m_within) ?_
  refine sy_if_ne 36 dX8_spot_29 (by decide) (fun c29 => ?_) (fun c29 => by first | exact kd_tf (by rw [wi_ix (n := 10001) rfl]; exact hv) c29 | exact kd_ft (by rw [wi_ix (n := 10001) rfl]; exact hv) c29 | exact absurd (by rw [wi_ix (n := 10001) rfl]; exact hv) c29 | exact absurd c29 (by rw [wi_ix (n := 10001) rfl]; exact hv))
  refine ss_aload_n dX8_spot_36 0 rfl ?_
  refine ss_get (i := 105) dX8_spot_37 flX8_13 (by omega) (sh_r105 _ _) rfl ?_
  refine ss_iload_n dX8_spot_40 1 rfl ?_
  refine ss_zald (i := 107) dX8_spot_41 (by omega) (sh_r107) (by omega) (by decide) ?_
  rw [hh]
  refine sy_if_eq 49 dX8_spot_42 (by decide) (fun c42 => by first | exact kd_tf (rfl) c42 | exact kd_ft (rfl) c42 | exact absurd (rfl) c42 | exact absurd c42 (rfl)) (fun c42 => ?_)
  refine ss_sipush (v := -1003) dX8_spot_45 (by decide) ?_
  exact ss_iret dX8_spot_48 rfl rfl (hQ)
set_option maxHeartbeats 1000000 in
set_option maxRecDepth 100000 in
theorem r_spot_c {c : cx} {d : Nat} {X : nX} {Y : nY} {n : Nat} (hn : n ≤ 10) (h6 : X 105 0 = nI n) {m : Nat} (hm : m ≤ 12) (h7 : X 105 1 = nI m) {j : Nat} (hjm : j < m) {s : Nat} (hs : s < 2 ^ n) {v : Int32} (hv : ix v 10001 = true) (hh : X 107 j = bI false) (hkd : ¬ X 106 j = nI 2) : sc c mX8_spot (d + 7) [.ref (c_ad c 105), .int (nI j), .int v, .int (nI s)] (X) (Y) (some (.int (nI 0))) (up2 X 105 19 (nI 5)) (Y) := by
  intro Q hQ
  show ss c mX8_spot (d + 7) Q 0 [(0, .ref (c_ad c 105)), (1, .int (nI j)), (2, .int v), (3, .int (nI s))] [] (X) (Y)
  have hj : j < 12 := by omega
  have hwj : ix (nI j) m = true := ix_of hjm (by omega)
  have hs9 : ix (nI s) (2 ^ n) = true := ix_of hs (by have := p2_le hn; omega)
  have hs8 := ix_2p hs hn
  refine ss_aload_n dX8_spot_0 0 rfl ?_
  refine ss_iload_n dX8_spot_1 1 rfl ?_
  refine ss_callV (As := [_]) (i := 105) dX8_spot_2 vlX8_157 clX8_isWorth rfl rfl (by omega) (sh_r105 _ _) rfl (Nat.le_of_ble_eq_true rfl) (Nat.le_of_ble_eq_true rfl) (m_isWorth hm h7) ?_
  refine sy_if_eq 16 dX8_spot_5 (by decide) (fun c5 => by first | exact kd_tf (hwj) c5 | exact kd_ft (hwj) c5 | exact absurd (hwj) c5 | exact absurd c5 (hwj)) (fun c5 => ?_)
  refine ss_aload_n dX8_spot_8 0 rfl ?_
  refine ss_iload_n dX8_spot_9 3 rfl ?_
  refine ss_callV (As := [_]) (i := 105) dX8_spot_10 vlX8_160 clX8_isSet rfl rfl (by omega) (sh_r105 _ _) rfl (Nat.le_of_ble_eq_true rfl) (Nat.le_of_ble_eq_true rfl) (m_isSet hn h6) ?_
  refine sy_if_ne 20 dX8_spot_13 (by decide) (fun c13 => ?_) (fun c13 => by first | exact kd_tf (hs9) c13 | exact kd_ft (hs9) c13 | exact absurd (hs9) c13 | exact absurd c13 (hs9))
  refine ss_iload_n dX8_spot_20 2 rfl ?_
  refine ss_i2l dX8_spot_21 ?_
  refine ss_lconst (v := 0) dX8_spot_22 (by decide) ?_
  refine ss_ldc2 dX8_spot_23 kcX8_183 ?_
  refine ss_callS (As := [_, _, _]) dX8_spot_26 vlX8_89 clX8_within rfl rfl (Nat.le_of_ble_eq_true rfl) (Nat.le_of_ble_eq_true rfl) (m_within) ?_
  refine sy_if_ne 36 dX8_spot_29 (by decide) (fun c29 => ?_) (fun c29 => by first | exact kd_tf (by rw [wi_ix (n := 10001) rfl]; exact hv) c29 | exact kd_ft (by rw [wi_ix (n := 10001) rfl]; exact hv) c29 | exact absurd (by rw [wi_ix (n := 10001) rfl]; exact hv) c29 | exact absurd c29 (by rw [wi_ix (n := 10001) rfl]; exact hv))
  refine ss_aload_n dX8_spot_36 0 rfl ?_
  refine ss_get (i := 105) dX8_spot_37 flX8_13 (by omega) (sh_r105 _ _) rfl ?_
  refine ss_iload_n dX8_spot_40 1 rfl ?_
  refine ss_zald (i := 107) dX8_spot_41 (by omega) (sh_r107) (by omega) (by decide) ?_
  rw [hh]
  refine sy_if_eq 49 dX8_spot_42 (by decide) (fun c42 => ?_) (fun c42 => by first | exact kd_tf (rfl) c42 | exact kd_ft (rfl) c42 | exact absurd (rfl) c42 | exact absurd c42 (rfl))
  refine ss_aload_n dX8_spot_49 0 rfl ?_
  refine ss_get (i := 105) dX8_spot_50 flX8_105 (by omega) (sh_r105 _ _) rfl ?_
  refine ss_istore (lv' := [(4, _), (0, _), (1, _), (2, _), (3, _)]) dX8_spot_53 (by decide) rfl ?_
  refine ss_aload_n dX8_spot_55 1 rfl ?_
  refine ss_iload_n dX8_spot_56 2 rfl ?_
  refine ss_iconst (v := nI 2) dX8_spot_57 (by decide) ?_
  refine ss_callV (As := [_, _]) (i := 105) dX8_spot_58 vlX8_176 clX8_isOf rfl rfl (by omega) (sh_r105 _ _) rfl (Nat.le_of_ble_eq_true rfl) (Nat.le_of_ble_eq_true rfl) (m_isOf_f hj hkd) ?_
  refine sy_if_ne 66 dX8_spot_61 (by decide) (fun c61 => by first | exact kd_tf (rfl) c61 | exact kd_ft (rfl) c61 | exact absurd (rfl) c61 | exact absurd c61 (rfl)) (fun c61 => ?_)
  refine ss_iconst (v := nI 0) dX8_spot_64 (by decide) ?_
  exact ss_iret dX8_spot_65 rfl rfl (hQ)
set_option maxHeartbeats 1000000 in
set_option maxRecDepth 100000 in
theorem r_spot_f {c : cx} {d : Nat} {X : nX} {Y : nY} {n : Nat} (hn : n ≤ 10) (h6 : X 105 0 = nI n) {m : Nat} (hm : m ≤ 12) (h7 : X 105 1 = nI m) {j : Nat} (hjm : j < m) {s : Nat} (hs : s < 2 ^ n) {v : Int32} (hv : ix v 10001 = true) (hh : X 107 j = bI false) (hkd : X 106 j = nI 2) {P : Nat} (hmy : X 109 j = nI P) (hP : P = 24) : sc c mX8_spot (d + 7) [.ref (c_ad c 105), .int (nI j), .int v, .int (nI s)] (X) (Y) (some (.int (-1004))) (up2 (up2 X 105 19 (nI 0)) 105 19 (X 105 19)) (Y) := by
  intro Q hQ
  show ss c mX8_spot (d + 7) Q 0 [(0, .ref (c_ad c 105)), (1, .int (nI j)), (2, .int v), (3, .int (nI s))] [] (X) (Y)
  have hj : j < 12 := by omega
  have hwj : ix (nI j) m = true := ix_of hjm (by omega)
  have hs9 : ix (nI s) (2 ^ n) = true := ix_of hs (by have := p2_le hn; omega)
  have hs8 := ix_2p hs hn
  refine ss_aload_n dX8_spot_0 0 rfl ?_
  refine ss_iload_n dX8_spot_1 1 rfl ?_
  refine ss_callV (As := [_]) (i := 105) dX8_spot_2 vlX8_157 clX8_isWorth rfl rfl (by omega) (sh_r105 _ _) rfl (Nat.le_of_ble_eq_true rfl) (Nat.le_of_ble_eq_true rfl) (m_isWorth hm h7) ?_
  refine sy_if_eq 16 dX8_spot_5 (by decide) (fun c5 => by first | exact kd_tf (hwj) c5 | exact kd_ft (hwj) c5 | exact absurd (hwj) c5 | exact absurd c5 (hwj)) (fun c5 => ?_)
  refine ss_aload_n dX8_spot_8 0 rfl ?_
  refine ss_iload_n dX8_spot_9 3 rfl ?_
  refine ss_callV (As := [_]) (i := 105) dX8_spot_10 vlX8_160 clX8_isSet rfl rfl (by omega) (sh_r105 _ _) rfl (Nat.le_of_ble_eq_true rfl) (Nat.le_of_ble_eq_true rfl) (m_isSet hn h6) ?_
  refine sy_if_ne 20 dX8_spot_13 (by decide) (fun c13 => ?_) (fun c13 => by first | exact kd_tf (hs9) c13 | exact kd_ft (hs9) c13 | exact absurd (hs9) c13 | exact absurd c13 (hs9))
  refine ss_iload_n dX8_spot_20 2 rfl ?_
  refine ss_i2l dX8_spot_21 ?_
  refine ss_lconst (v := 0) dX8_spot_22 (by decide) ?_
  refine ss_ldc2 dX8_spot_23 kcX8_183 ?_
  refine ss_callS (As := [_, _, _]) dX8_spot_26 vlX8_89 clX8_within rfl rfl (Nat.le_of_ble_eq_true rfl) (Nat.le_of_ble_eq_true rfl) (m_within) ?_
  refine sy_if_ne 36 dX8_spot_29 (by decide) (fun c29 => ?_) (fun c29 => by first | exact kd_tf (by rw [wi_ix (n := 10001) rfl]; exact hv) c29 | exact kd_ft (by rw [wi_ix (n := 10001) rfl]; exact hv) c29 | exact absurd (by rw [wi_ix (n := 10001) rfl]; exact hv) c29 | exact absurd c29 (by rw [wi_ix (n := 10001) rfl]; exact hv))
  refine ss_aload_n dX8_spot_36 0 rfl ?_
  refine ss_get (i := 105) dX8_spot_37 flX8_13 (by omega) (sh_r105 _ _) rfl ?_
  refine ss_iload_n dX8_spot_40 1 rfl ?_
  refine ss_zald (i := 107) dX8_spot_41 (by omega) (sh_r107) (by omega) (by decide) ?_
  rw [hh]
  refine sy_if_eq 49 dX8_spot_42 (by decide) (fun c42 => ?_) (fun c42 => by first | exact kd_tf (rfl) c42 | exact kd_ft (rfl) c42 | exact absurd (rfl) c42 | exact absurd c42 (rfl))
  refine ss_aload_n dX8_spot_49 0 rfl ?_
  refine ss_get (i := 105) dX8_spot_50 flX8_105 (by omega) (sh_r105 _ _) rfl ?_
  refine ss_istore (lv' := [(4, _), (0, _), (1, _), (2, _), (3, _)]) dX8_spot_53 (by decide) rfl ?_
  refine ss_aload_n dX8_spot_55 1 rfl ?_
  refine ss_iload_n dX8_spot_56 2 rfl ?_
  refine ss_iconst (v := nI 2) dX8_spot_57 (by decide) ?_
  refine ss_callV (As := [_, _]) (i := 105) dX8_spot_58 vlX8_176 clX8_isOf rfl rfl (by omega) (sh_r105 _ _) rfl (Nat.le_of_ble_eq_true rfl) (Nat.le_of_ble_eq_true rfl) (m_isOf_t hj hkd) ?_
  refine sy_if_ne 66 dX8_spot_61 (by decide) (fun c61 => ?_) (fun c61 => by first | exact kd_tf (rfl) c61 | exact kd_ft (rfl) c61 | exact absurd (rfl) c61 | exact absurd c61 (rfl))
  refine ss_aload_n dX8_spot_66 1 rfl ?_
  refine ss_get (i := 105) dX8_spot_67 flX8_21 (by omega) (sh_r105 _ _) rfl ?_
  refine ss_iload_n dX8_spot_70 2 rfl ?_
  refine ss_iald (i := 109) dX8_spot_71 (by omega) (sh_r109) (by omega) (by decide) ?_
  rw [up2_at, if_neg (by omega), hmy]
  refine ss_bipush (v := nI 24) dX8_spot_72 (by decide) ?_
  refine sz_icmp_ne 89 dX8_spot_74 (by decide) (by omega) (by omega) (fun c74 => by omega) (fun c74 => ?_)
  refine ss_aload_n dX8_spot_77 1 rfl ?_
  refine ss_sipush (v := -1004) dX8_spot_78 (by decide) ?_
  refine ss_iload dX8_spot_81 0 rfl ?_
  refine ss_callV (As := [_, _]) (i := 105) dX8_spot_83 vlX8_185 clX8_refuse rfl rfl (by omega) (sh_r105 _ _) rfl (Nat.le_of_ble_eq_true rfl) (Nat.le_of_ble_eq_true rfl) (m_refuse) ?_
  refine ss_goto 97 dX8_spot_86 (by decide) ?_
  exact ss_iret dX8_spot_97 rfl rfl (hQ)
set_option maxHeartbeats 1000000 in
set_option maxRecDepth 100000 in
theorem r_spot_k {c : cx} {d : Nat} {X : nX} {Y : nY} {n : Nat} (hn : n ≤ 10) (h6 : X 105 0 = nI n) {m : Nat} (hm : m ≤ 12) (h7 : X 105 1 = nI m) {j : Nat} (hjm : j < m) {s : Nat} (hs : s < 2 ^ n) {v : Int32} (hv : ix v 10001 = true) (hh : X 107 j = bI false) (hkd : X 106 j = nI 2) {P : Nat} (hmy : X 109 j = nI P) (hP : P < 24) {g : Bool} {Y1 : nY} (hW : sc c mX8_work (d + 5) [.ref (c_ad c 105), .int (nI j)] (x_mo (up2 X 105 19 (nI 0)) j P v (nI s) (nI 0)) Y (some (.int (bI g))) (x_mo (up2 X 105 19 (nI 0)) j P v (nI s) (nI 0)) Y1) : sc c mX8_spot (d + 7) [.ref (c_ad c 105), .int (nI j), .int v, .int (nI s)] (X) (Y) (some (.int (nI (P + 1)))) (x_mo (up2 X 105 19 (nI 0)) j P v (nI s) (nI 0)) (Y1) := by
  intro Q hQ
  show ss c mX8_spot (d + 7) Q 0 [(0, .ref (c_ad c 105)), (1, .int (nI j)), (2, .int v), (3, .int (nI s))] [] (X) (Y)
  have hj : j < 12 := by omega
  have hwj : ix (nI j) m = true := ix_of hjm (by omega)
  have hs9 : ix (nI s) (2 ^ n) = true := ix_of hs (by have := p2_le hn; omega)
  have hs8 := ix_2p hs hn
  refine ss_aload_n dX8_spot_0 0 rfl ?_
  refine ss_iload_n dX8_spot_1 1 rfl ?_
  refine ss_callV (As := [_]) (i := 105) dX8_spot_2 vlX8_157 clX8_isWorth rfl rfl (by omega) (sh_r105 _ _) rfl (Nat.le_of_ble_eq_true rfl) (Nat.le_of_ble_eq_true rfl) (m_isWorth hm h7) ?_
  refine sy_if_eq 16 dX8_spot_5 (by decide) (fun c5 => by first | exact kd_tf (hwj) c5 | exact kd_ft (hwj) c5 | exact absurd (hwj) c5 | exact absurd c5 (hwj)) (fun c5 => ?_)
  refine ss_aload_n dX8_spot_8 0 rfl ?_
  refine ss_iload_n dX8_spot_9 3 rfl ?_
  refine ss_callV (As := [_]) (i := 105) dX8_spot_10 vlX8_160 clX8_isSet rfl rfl (by omega) (sh_r105 _ _) rfl (Nat.le_of_ble_eq_true rfl) (Nat.le_of_ble_eq_true rfl) (m_isSet hn h6) ?_
  refine sy_if_ne 20 dX8_spot_13 (by decide) (fun c13 => ?_) (fun c13 => by first | exact kd_tf (hs9) c13 | exact kd_ft (hs9) c13 | exact absurd (hs9) c13 | exact absurd c13 (hs9))
  refine ss_iload_n dX8_spot_20 2 rfl ?_
  refine ss_i2l dX8_spot_21 ?_
  refine ss_lconst (v := 0) dX8_spot_22 (by decide) ?_
  refine ss_ldc2 dX8_spot_23 kcX8_183 ?_
  refine ss_callS (As := [_, _, _]) dX8_spot_26 vlX8_89 clX8_within rfl rfl (Nat.le_of_ble_eq_true rfl) (Nat.le_of_ble_eq_true rfl) (m_within) ?_
  refine sy_if_ne 36 dX8_spot_29 (by decide) (fun c29 => ?_) (fun c29 => by first | exact kd_tf (by rw [wi_ix (n := 10001) rfl]; exact hv) c29 | exact kd_ft (by rw [wi_ix (n := 10001) rfl]; exact hv) c29 | exact absurd (by rw [wi_ix (n := 10001) rfl]; exact hv) c29 | exact absurd c29 (by rw [wi_ix (n := 10001) rfl]; exact hv))
  refine ss_aload_n dX8_spot_36 0 rfl ?_
  refine ss_get (i := 105) dX8_spot_37 flX8_13 (by omega) (sh_r105 _ _) rfl ?_
  refine ss_iload_n dX8_spot_40 1 rfl ?_
  refine ss_zald (i := 107) dX8_spot_41 (by omega) (sh_r107) (by omega) (by decide) ?_
  rw [hh]
  refine sy_if_eq 49 dX8_spot_42 (by decide) (fun c42 => ?_) (fun c42 => by first | exact kd_tf (rfl) c42 | exact kd_ft (rfl) c42 | exact absurd (rfl) c42 | exact absurd c42 (rfl))
  refine ss_aload_n dX8_spot_49 0 rfl ?_
  refine ss_get (i := 105) dX8_spot_50 flX8_105 (by omega) (sh_r105 _ _) rfl ?_
  refine ss_istore (lv' := [(4, _), (0, _), (1, _), (2, _), (3, _)]) dX8_spot_53 (by decide) rfl ?_
  refine ss_aload_n dX8_spot_55 1 rfl ?_
  refine ss_iload_n dX8_spot_56 2 rfl ?_
  refine ss_iconst (v := nI 2) dX8_spot_57 (by decide) ?_
  refine ss_callV (As := [_, _]) (i := 105) dX8_spot_58 vlX8_176 clX8_isOf rfl rfl (by omega) (sh_r105 _ _) rfl (Nat.le_of_ble_eq_true rfl) (Nat.le_of_ble_eq_true rfl) (m_isOf_t hj hkd) ?_
  refine sy_if_ne 66 dX8_spot_61 (by decide) (fun c61 => ?_) (fun c61 => by first | exact kd_tf (rfl) c61 | exact kd_ft (rfl) c61 | exact absurd (rfl) c61 | exact absurd c61 (rfl))
  refine ss_aload_n dX8_spot_66 1 rfl ?_
  refine ss_get (i := 105) dX8_spot_67 flX8_21 (by omega) (sh_r105 _ _) rfl ?_
  refine ss_iload_n dX8_spot_70 2 rfl ?_
  refine ss_iald (i := 109) dX8_spot_71 (by omega) (sh_r109) (by omega) (by decide) ?_
  rw [up2_at, if_neg (by omega), hmy]
  refine ss_bipush (v := nI 24) dX8_spot_72 (by decide) ?_
  refine sz_icmp_ne 89 dX8_spot_74 (by decide) (by omega) (by omega) (fun c74 => ?_) (fun c74 => by omega)
  refine ss_aload_n dX8_spot_89 1 rfl ?_
  refine ss_iload_n dX8_spot_90 2 rfl ?_
  refine ss_iload_n dX8_spot_91 3 rfl ?_
  refine ss_iload_n dX8_spot_92 4 rfl ?_
  refine ss_iconst (v := nI 0) dX8_spot_93 (by decide) ?_
  refine ss_callV (As := [_, _, _, _]) (i := 105) dX8_spot_94 vlX8_189 clX8_more rfl rfl (by omega) (sh_r105 _ _) rfl (Nat.le_of_ble_eq_true rfl) (Nat.le_of_ble_eq_true rfl) (m_more hj hP (by rw [up2_at, if_neg (by omega)]; exact hmy) hW) ?_
  exact ss_iret dX8_spot_97 rfl rfl (hQ)
set_option maxHeartbeats 1000000 in
set_option maxRecDepth 100000 in
theorem r_row_u {c : cx} {d : Nat} {X : nX} {Y : nY} {n : Nat} (hn : n ≤ 10) (h6 : X 105 0 = nI n) {m : Nat} (hm : m ≤ 12) (h7 : X 105 1 = nI m) {w t : Int32} {a : Int32} {b : Int32} {e : Int32} {f : Int32} (hu : ix w m = false ∨ ix t n = false) : sc c mX8_row (d + 6) [.ref (c_ad c 105), .int w, .int t, .int a, .int b, .int e, .int f] (X) (Y) (some (.int (-1001))) (X) (Y) := by
  intro Q hQ
  show ss c mX8_row (d + 6) Q 0 [(0, .ref (c_ad c 105)), (1, .int w), (2, .int t), (3, .int a), (4, .int b), (5, .int e), (6, .int f)] [] (X) (Y)
  refine ss_aload_n dX8_row_0 0 rfl ?_
  refine ss_iload_n dX8_row_1 1 rfl ?_
  refine ss_callV (As := [_]) (i := 105) dX8_row_2 vlX8_157 clX8_isWorth rfl rfl (by omega) (sh_r105 _ _) rfl (Nat.le_of_ble_eq_true rfl) (Nat.le_of_ble_eq_true rfl) (m_isWorth hm h7) ?_
  refine sy_if_eq 16 dX8_row_5 (by decide) (fun c5 => ?_) (fun c5 => ?_)
  · skip
    refine ss_sipush (v := -1001) dX8_row_16 (by decide) ?_
    exact ss_iret dX8_row_19 rfl rfl (hQ)
  · skip
    refine ss_aload_n dX8_row_8 0 rfl ?_
    refine ss_iload_n dX8_row_9 2 rfl ?_
    refine ss_callV (As := [_]) (i := 105) dX8_row_10 vlX8_180 clX8_isThing rfl rfl (by omega) (sh_r105 _ _) rfl (Nat.le_of_ble_eq_true rfl) (Nat.le_of_ble_eq_true rfl) (m_isThing hn h6) ?_
    refine sy_if_ne 20 dX8_row_13 (by decide) (fun c13 => by rcases hu with h8 | h8; exact kd_tf c5 h8; exact kd_tf c13 h8) (fun c13 => ?_)
    refine ss_sipush (v := -1001) dX8_row_16 (by decide) ?_
    exact ss_iret dX8_row_19 rfl rfl (hQ)
set_option maxHeartbeats 1000000 in
set_option maxRecDepth 100000 in
theorem r_row_o {c : cx} {d : Nat} {X : nX} {Y : nY} {n : Nat} (hn : n ≤ 10) (h6 : X 105 0 = nI n) {m : Nat} (hm : m ≤ 12) (h7 : X 105 1 = nI m) {j : Nat} (hjm : j < m) {t : Nat} (ht : t < n) {a : Int32} {b : Int32} {e : Int32} {f : Int32} (hv : wi a.toInt64 (-99) 99 = false ∨ wi b.toInt64 (-99) 99 = false ∨ wi e.toInt64 (-99) 99 = false ∨ wi f.toInt64 (-99) 99 = false) : sc c mX8_row (d + 6) [.ref (c_ad c 105), .int (nI j), .int (nI t), .int a, .int b, .int e, .int f] (X) (Y) (some (.int (-1002))) (X) (Y) := by
  intro Q hQ
  show ss c mX8_row (d + 6) Q 0 [(0, .ref (c_ad c 105)), (1, .int (nI j)), (2, .int (nI t)), (3, .int a), (4, .int b), (5, .int e), (6, .int f)] [] (X) (Y)
  have hj : j < 12 := by omega
  have hwj : ix (nI j) m = true := ix_of hjm (by omega)
  have ht9 : ix (nI t) n = true := ix_of ht (by omega)
  refine ss_aload_n dX8_row_0 0 rfl ?_
  refine ss_iload_n dX8_row_1 1 rfl ?_
  refine ss_callV (As := [_]) (i := 105) dX8_row_2 vlX8_157 clX8_isWorth rfl rfl (by omega) (sh_r105 _ _) rfl (Nat.le_of_ble_eq_true rfl) (Nat.le_of_ble_eq_true rfl) (m_isWorth hm h7) ?_
  refine sy_if_eq 16 dX8_row_5 (by decide) (fun c5 => by first | exact kd_tf (hwj) c5 | exact kd_ft (hwj) c5 | exact absurd (hwj) c5 | exact absurd c5 (hwj)) (fun c5 => ?_)
  refine ss_aload_n dX8_row_8 0 rfl ?_
  refine ss_iload_n dX8_row_9 2 rfl ?_
  refine ss_callV (As := [_]) (i := 105) dX8_row_10 vlX8_180 clX8_isThing rfl rfl (by omega) (sh_r105 _ _) rfl (Nat.le_of_ble_eq_true rfl) (Nat.le_of_ble_eq_true rfl) (m_isThing hn h6) ?_
  refine sy_if_ne 20 dX8_row_13 (by decide) (fun c13 => ?_) (fun c13 => by first | exact kd_tf (ht9) c13 | exact kd_ft (ht9) c13 | exact absurd (ht9) c13 | exact absurd c13 (ht9))
  refine ss_iload_n dX8_row_20 3 rfl ?_
  refine ss_i2l dX8_row_21 ?_
  refine ss_ldc2 dX8_row_22 kcX8_193 ?_
  refine ss_ldc2 dX8_row_25 kcX8_195 ?_
  refine ss_callS (As := [_, _, _]) dX8_row_28 vlX8_89 clX8_within rfl rfl (Nat.le_of_ble_eq_true rfl) (Nat.le_of_ble_eq_true rfl) (m_within) ?_
  refine sy_if_eq 79 dX8_row_31 (by decide) (fun c31 => ?_) (fun c31 => ?_)
  · skip
    refine ss_sipush (v := -1002) dX8_row_79 (by decide) ?_
    exact ss_iret dX8_row_82 rfl rfl (hQ)
  · skip
    refine ss_iload dX8_row_34 4 rfl ?_
    refine ss_i2l dX8_row_36 ?_
    refine ss_ldc2 dX8_row_37 kcX8_193 ?_
    refine ss_ldc2 dX8_row_40 kcX8_195 ?_
    refine ss_callS (As := [_, _, _]) dX8_row_43 vlX8_89 clX8_within rfl rfl (Nat.le_of_ble_eq_true rfl) (Nat.le_of_ble_eq_true rfl) (m_within) ?_
    refine sy_if_eq 79 dX8_row_46 (by decide) (fun c46 => ?_) (fun c46 => ?_)
    · skip
      refine ss_sipush (v := -1002) dX8_row_79 (by decide) ?_
      exact ss_iret dX8_row_82 rfl rfl (hQ)
    · skip
      refine ss_iload dX8_row_49 5 rfl ?_
      refine ss_i2l dX8_row_51 ?_
      refine ss_ldc2 dX8_row_52 kcX8_193 ?_
      refine ss_ldc2 dX8_row_55 kcX8_195 ?_
      refine ss_callS (As := [_, _, _]) dX8_row_58 vlX8_89 clX8_within rfl rfl (Nat.le_of_ble_eq_true rfl) (Nat.le_of_ble_eq_true rfl) (m_within) ?_
      refine sy_if_eq 79 dX8_row_61 (by decide) (fun c61 => ?_) (fun c61 => ?_)
      · skip
        refine ss_sipush (v := -1002) dX8_row_79 (by decide) ?_
        exact ss_iret dX8_row_82 rfl rfl (hQ)
      · skip
        refine ss_iload dX8_row_64 6 rfl ?_
        refine ss_i2l dX8_row_66 ?_
        refine ss_ldc2 dX8_row_67 kcX8_193 ?_
        refine ss_ldc2 dX8_row_70 kcX8_195 ?_
        refine ss_callS (As := [_, _, _]) dX8_row_73 vlX8_89 clX8_within rfl rfl (Nat.le_of_ble_eq_true rfl) (Nat.le_of_ble_eq_true rfl) (m_within) ?_
        refine sy_if_ne 83 dX8_row_76 (by decide) (fun c76 => by rcases hv with h8 | h8 | h8 | h8; exact kd_tf c31 h8; exact kd_tf c46 h8; exact kd_tf c61 h8; exact kd_tf c76 h8) (fun c76 => ?_)
        refine ss_sipush (v := -1002) dX8_row_79 (by decide) ?_
        exact ss_iret dX8_row_82 rfl rfl (hQ)
set_option maxHeartbeats 1000000 in
set_option maxRecDepth 100000 in
theorem r_row_n {c : cx} {d : Nat} {X : nX} {Y : nY} {n : Nat} (hn : n ≤ 10) (h6 : X 105 0 = nI n) {m : Nat} (hm : m ≤ 12) (h7 : X 105 1 = nI m) {j : Nat} (hjm : j < m) {t : Nat} (ht : t < n) {a : Int32} {b : Int32} {e : Int32} {f : Int32} (hva : wi a.toInt64 (-99) 99 = true) (hvb : wi b.toInt64 (-99) 99 = true) (hve : wi e.toInt64 (-99) 99 = true) (hvf : wi f.toInt64 (-99) 99 = true) (hh : X 107 j = bI true) : sc c mX8_row (d + 6) [.ref (c_ad c 105), .int (nI j), .int (nI t), .int a, .int b, .int e, .int f] (X) (Y) (some (.int (-1003))) (X) (Y) := by
  intro Q hQ
  show ss c mX8_row (d + 6) Q 0 [(0, .ref (c_ad c 105)), (1, .int (nI j)), (2, .int (nI t)), (3, .int a), (4, .int b), (5, .int e), (6, .int f)] [] (X) (Y)
  have hj : j < 12 := by omega
  have hwj : ix (nI j) m = true := ix_of hjm (by omega)
  have ht9 : ix (nI t) n = true := ix_of ht (by omega)
  refine ss_aload_n dX8_row_0 0 rfl ?_
  refine ss_iload_n dX8_row_1 1 rfl ?_
  refine ss_callV (As := [_]) (i := 105) dX8_row_2 vlX8_157 clX8_isWorth rfl rfl (by omega) (sh_r105 _ _) rfl (Nat.le_of_ble_eq_true rfl) (Nat.le_of_ble_eq_true rfl) (m_isWorth hm h7) ?_
  refine sy_if_eq 16 dX8_row_5 (by decide) (fun c5 => by first | exact kd_tf (hwj) c5 | exact kd_ft (hwj) c5 | exact absurd (hwj) c5 | exact absurd c5 (hwj)) (fun c5 => ?_)
  refine ss_aload_n dX8_row_8 0 rfl ?_
  refine ss_iload_n dX8_row_9 2 rfl ?_
  refine ss_callV (As := [_]) (i := 105) dX8_row_10 vlX8_180 clX8_isThing rfl rfl (by omega) (sh_r105 _ _) rfl (Nat.le_of_ble_eq_true rfl) (Nat.le_of_ble_eq_true rfl) (m_isThing hn h6) ?_
  refine sy_if_ne 20 dX8_row_13 (by decide) (fun c13 => ?_) (fun c13 => by first | exact kd_tf (ht9) c13 | exact kd_ft (ht9) c13 | exact absurd (ht9) c13 | exact absurd c13 (ht9))
  refine ss_iload_n dX8_row_20 3 rfl ?_
  refine ss_i2l dX8_row_21 ?_
  refine ss_ldc2 dX8_row_22 kcX8_193 ?_
  refine ss_ldc2 dX8_row_25 kcX8_195 ?_
  refine ss_callS (As := [_, _, _]) dX8_row_28 vlX8_89 clX8_within rfl rfl (Nat.le_of_ble_eq_true rfl) (Nat.le_of_ble_eq_true rfl) (m_within) ?_
  refine sy_if_eq 79 dX8_row_31 (by decide) (fun c31 => by first | exact kd_tf (hva) c31 | exact kd_ft (hva) c31 | exact absurd (hva) c31 | exact absurd c31 (hva)) (fun c31 => ?_)
  refine ss_iload dX8_row_34 4 rfl ?_
  refine ss_i2l dX8_row_36 ?_
  refine ss_ldc2 dX8_row_37 kcX8_193 ?_
  refine ss_ldc2 dX8_row_40 kcX8_195 ?_
  refine ss_callS (As := [_, _, _]) dX8_row_43 vlX8_89 clX8_within rfl rfl (Nat.le_of_ble_eq_true rfl) (Nat.le_of_ble_eq_true rfl) (m_within) ?_
  refine sy_if_eq 79 dX8_row_46 (by decide) (fun c46 => by first | exact kd_tf (hvb) c46 | exact kd_ft (hvb) c46 | exact absurd (hvb) c46 | exact absurd c46 (hvb)) (fun c46 => ?_)
  refine ss_iload dX8_row_49 5 rfl ?_
  refine ss_i2l dX8_row_51 ?_
  refine ss_ldc2 dX8_row_52 kcX8_193 ?_
  refine ss_ldc2 dX8_row_55 kcX8_195 ?_
  refine ss_callS (As := [_, _, _]) dX8_row_58 vlX8_89 clX8_within rfl rfl (Nat.le_of_ble_eq_true rfl) (Nat.le_of_ble_eq_true rfl) (m_within) ?_
  refine sy_if_eq 79 dX8_row_61 (by decide) (fun c61 => by first | exact kd_tf (hve) c61 | exact kd_ft (hve) c61 | exact absurd (hve) c61 | exact absurd c61 (hve)) (fun c61 => ?_)
  refine ss_iload dX8_row_64 6 rfl ?_
  refine ss_i2l dX8_row_66 ?_
  refine ss_ldc2 dX8_row_67 kcX8_193 ?_
  refine ss_ldc2 dX8_row_70 kcX8_195 ?_
  refine ss_callS (As := [_, _, _]) dX8_row_73 vlX8_89 clX8_within rfl rfl (Nat.le_of_ble_eq_true rfl) (Nat.le_of_ble_eq_true rfl) (m_within) ?_
  refine sy_if_ne 83 dX8_row_76 (by decide) (fun c76 => ?_) (fun c76 => by first | exact kd_tf (hvf) c76 | exact kd_ft (hvf) c76 | exact absurd (hvf) c76 | exact absurd c76 (hvf))
  refine ss_aload_n dX8_row_83 0 rfl ?_
  refine ss_get (i := 105) dX8_row_84 flX8_13 (by omega) (sh_r105 _ _) rfl ?_
  refine ss_iload_n dX8_row_87 1 rfl ?_
  refine ss_zald (i := 107) dX8_row_88 (by omega) (sh_r107) (by omega) (by decide) ?_
  rw [hh]
  refine sy_if_eq 96 dX8_row_89 (by decide) (fun c89 => by first | exact kd_tf (rfl) c89 | exact kd_ft (rfl) c89 | exact absurd (rfl) c89 | exact absurd c89 (rfl)) (fun c89 => ?_)
  refine ss_sipush (v := -1003) dX8_row_92 (by decide) ?_
  exact ss_iret dX8_row_95 rfl rfl (hQ)
set_option maxHeartbeats 1000000 in
set_option maxRecDepth 100000 in
theorem r_row_c {c : cx} {d : Nat} {X : nX} {Y : nY} {n : Nat} (hn : n ≤ 10) (h6 : X 105 0 = nI n) {m : Nat} (hm : m ≤ 12) (h7 : X 105 1 = nI m) {j : Nat} (hjm : j < m) {t : Nat} (ht : t < n) {a : Int32} {b : Int32} {e : Int32} {f : Int32} (hva : wi a.toInt64 (-99) 99 = true) (hvb : wi b.toInt64 (-99) 99 = true) (hve : wi e.toInt64 (-99) 99 = true) (hvf : wi f.toInt64 (-99) 99 = true) (hh : X 107 j = bI false) (hkd : ¬ X 106 j = nI 3) : sc c mX8_row (d + 6) [.ref (c_ad c 105), .int (nI j), .int (nI t), .int a, .int b, .int e, .int f] (X) (Y) (some (.int (nI 0))) (up2 X 105 19 (nI 5)) (Y) := by
  intro Q hQ
  show ss c mX8_row (d + 6) Q 0 [(0, .ref (c_ad c 105)), (1, .int (nI j)), (2, .int (nI t)), (3, .int a), (4, .int b), (5, .int e), (6, .int f)] [] (X) (Y)
  have hj : j < 12 := by omega
  have hwj : ix (nI j) m = true := ix_of hjm (by omega)
  have ht9 : ix (nI t) n = true := ix_of ht (by omega)
  refine ss_aload_n dX8_row_0 0 rfl ?_
  refine ss_iload_n dX8_row_1 1 rfl ?_
  refine ss_callV (As := [_]) (i := 105) dX8_row_2 vlX8_157 clX8_isWorth rfl rfl (by omega) (sh_r105 _ _) rfl (Nat.le_of_ble_eq_true rfl) (Nat.le_of_ble_eq_true rfl) (m_isWorth hm h7) ?_
  refine sy_if_eq 16 dX8_row_5 (by decide) (fun c5 => by first | exact kd_tf (hwj) c5 | exact kd_ft (hwj) c5 | exact absurd (hwj) c5 | exact absurd c5 (hwj)) (fun c5 => ?_)
  refine ss_aload_n dX8_row_8 0 rfl ?_
  refine ss_iload_n dX8_row_9 2 rfl ?_
  refine ss_callV (As := [_]) (i := 105) dX8_row_10 vlX8_180 clX8_isThing rfl rfl (by omega) (sh_r105 _ _) rfl (Nat.le_of_ble_eq_true rfl) (Nat.le_of_ble_eq_true rfl) (m_isThing hn h6) ?_
  refine sy_if_ne 20 dX8_row_13 (by decide) (fun c13 => ?_) (fun c13 => by first | exact kd_tf (ht9) c13 | exact kd_ft (ht9) c13 | exact absurd (ht9) c13 | exact absurd c13 (ht9))
  refine ss_iload_n dX8_row_20 3 rfl ?_
  refine ss_i2l dX8_row_21 ?_
  refine ss_ldc2 dX8_row_22 kcX8_193 ?_
  refine ss_ldc2 dX8_row_25 kcX8_195 ?_
  refine ss_callS (As := [_, _, _]) dX8_row_28 vlX8_89 clX8_within rfl rfl (Nat.le_of_ble_eq_true rfl) (Nat.le_of_ble_eq_true rfl) (m_within) ?_
  refine sy_if_eq 79 dX8_row_31 (by decide) (fun c31 => by first | exact kd_tf (hva) c31 | exact kd_ft (hva) c31 | exact absurd (hva) c31 | exact absurd c31 (hva)) (fun c31 => ?_)
  refine ss_iload dX8_row_34 4 rfl ?_
  refine ss_i2l dX8_row_36 ?_
  refine ss_ldc2 dX8_row_37 kcX8_193 ?_
  refine ss_ldc2 dX8_row_40 kcX8_195 ?_
  refine ss_callS (As := [_, _, _]) dX8_row_43 vlX8_89 clX8_within rfl rfl (Nat.le_of_ble_eq_true rfl) (Nat.le_of_ble_eq_true rfl) (m_within) ?_
  refine sy_if_eq 79 dX8_row_46 (by decide) (fun c46 => by first | exact kd_tf (hvb) c46 | exact kd_ft (hvb) c46 | exact absurd (hvb) c46 | exact absurd c46 (hvb)) (fun c46 => ?_)
  refine ss_iload dX8_row_49 5 rfl ?_
  refine ss_i2l dX8_row_51 ?_
  refine ss_ldc2 dX8_row_52 kcX8_193 ?_
  refine ss_ldc2 dX8_row_55 kcX8_195 ?_
  refine ss_callS (As := [_, _, _]) dX8_row_58 vlX8_89 clX8_within rfl rfl (Nat.le_of_ble_eq_true rfl) (Nat.le_of_ble_eq_true rfl) (m_within) ?_
  refine sy_if_eq 79 dX8_row_61 (by decide) (fun c61 => by first | exact kd_tf (hve) c61 | exact kd_ft (hve) c61 | exact absurd (hve) c61 | exact absurd c61 (hve)) (fun c61 => ?_)
  refine ss_iload dX8_row_64 6 rfl ?_
  refine ss_i2l dX8_row_66 ?_
  refine ss_ldc2 dX8_row_67 kcX8_193 ?_
  refine ss_ldc2 dX8_row_70 kcX8_195 ?_
  refine ss_callS (As := [_, _, _]) dX8_row_73 vlX8_89 clX8_within rfl rfl (Nat.le_of_ble_eq_true rfl) (Nat.le_of_ble_eq_true rfl) (m_within) ?_
  refine sy_if_ne 83 dX8_row_76 (by decide) (fun c76 => ?_) (fun c76 => by first | exact kd_tf (hvf) c76 | exact kd_ft (hvf) c76 | exact absurd (hvf) c76 | exact absurd c76 (hvf))
  refine ss_aload_n dX8_row_83 0 rfl ?_
  refine ss_get (i := 105) dX8_row_84 flX8_13 (by omega) (sh_r105 _ _) rfl ?_
  refine ss_iload_n dX8_row_87 1 rfl ?_
  refine ss_zald (i := 107) dX8_row_88 (by omega) (sh_r107) (by omega) (by decide) ?_
  rw [hh]
  refine sy_if_eq 96 dX8_row_89 (by decide) (fun c89 => ?_) (fun c89 => by first | exact kd_tf (rfl) c89 | exact kd_ft (rfl) c89 | exact absurd (rfl) c89 | exact absurd c89 (rfl))
  refine ss_aload_n dX8_row_96 0 rfl ?_
  refine ss_iload_n dX8_row_97 1 rfl ?_
  refine ss_iconst (v := nI 3) dX8_row_98 (by decide) ?_
  refine ss_callV (As := [_, _]) (i := 105) dX8_row_99 vlX8_176 clX8_isOf rfl rfl (by omega) (sh_r105 _ _) rfl (Nat.le_of_ble_eq_true rfl) (Nat.le_of_ble_eq_true rfl) (m_isOf_f hj hkd) ?_
  refine sy_if_ne 107 dX8_row_102 (by decide) (fun c102 => by first | exact kd_tf (rfl) c102 | exact kd_ft (rfl) c102 | exact absurd (rfl) c102 | exact absurd c102 (rfl)) (fun c102 => ?_)
  refine ss_iconst (v := nI 0) dX8_row_105 (by decide) ?_
  exact ss_iret dX8_row_106 rfl rfl (hQ)
def x_mr (X : nX) (j t : Nat) (a b e f : Int32) : nX := up2 (up2 (up2 (up2 X 113 (40 * j + 4 * t) a) 113 (40 * j + 4 * t + 1) b) 113 (40 * j + 4 * t + 2) e) 113 (40 * j + 4 * t + 3) f
set_option maxHeartbeats 1000000 in
set_option maxRecDepth 100000 in
theorem r_row_k {c : cx} {d : Nat} {X : nX} {Y : nY} {n : Nat} (hn : n ≤ 10) (h6 : X 105 0 = nI n) {m : Nat} (hm : m ≤ 12) (h7 : X 105 1 = nI m) {j : Nat} (hjm : j < m) {t : Nat} (ht : t < n) {a : Int32} {b : Int32} {e : Int32} {f : Int32} (hva : wi a.toInt64 (-99) 99 = true) (hvb : wi b.toInt64 (-99) 99 = true) (hve : wi e.toInt64 (-99) 99 = true) (hvf : wi f.toInt64 (-99) 99 = true) (hh : X 107 j = bI false) (hkd : X 106 j = nI 3) {Y1 : nY} (hW : sc c mX8_work (d + 5) [.ref (c_ad c 105), .int (nI j)] (x_mr (up2 X 105 19 (nI 0)) j t a b e f) Y (some (.int (bI true))) (x_mr (up2 X 105 19 (nI 0)) j t a b e f) Y1) : sc c mX8_row (d + 6) [.ref (c_ad c 105), .int (nI j), .int (nI t), .int a, .int b, .int e, .int f] (X) (Y) (some (.int (nI 1))) (x_mr (up2 X 105 19 (nI 0)) j t a b e f) (Y1) := by
  intro Q hQ
  show ss c mX8_row (d + 6) Q 0 [(0, .ref (c_ad c 105)), (1, .int (nI j)), (2, .int (nI t)), (3, .int a), (4, .int b), (5, .int e), (6, .int f)] [] (X) (Y)
  have hj : j < 12 := by omega
  have hwj : ix (nI j) m = true := ix_of hjm (by omega)
  have ht9 : ix (nI t) n = true := ix_of ht (by omega)
  refine ss_aload_n dX8_row_0 0 rfl ?_
  refine ss_iload_n dX8_row_1 1 rfl ?_
  refine ss_callV (As := [_]) (i := 105) dX8_row_2 vlX8_157 clX8_isWorth rfl rfl (by omega) (sh_r105 _ _) rfl (Nat.le_of_ble_eq_true rfl) (Nat.le_of_ble_eq_true rfl) (m_isWorth hm h7) ?_
  refine sy_if_eq 16 dX8_row_5 (by decide) (fun c5 => by first | exact kd_tf (hwj) c5 | exact kd_ft (hwj) c5 | exact absurd (hwj) c5 | exact absurd c5 (hwj)) (fun c5 => ?_)
  refine ss_aload_n dX8_row_8 0 rfl ?_
  refine ss_iload_n dX8_row_9 2 rfl ?_
  refine ss_callV (As := [_]) (i := 105) dX8_row_10 vlX8_180 clX8_isThing rfl rfl (by omega) (sh_r105 _ _) rfl (Nat.le_of_ble_eq_true rfl) (Nat.le_of_ble_eq_true rfl) (m_isThing hn h6) ?_
  refine sy_if_ne 20 dX8_row_13 (by decide) (fun c13 => ?_) (fun c13 => by first | exact kd_tf (ht9) c13 | exact kd_ft (ht9) c13 | exact absurd (ht9) c13 | exact absurd c13 (ht9))
  refine ss_iload_n dX8_row_20 3 rfl ?_
  refine ss_i2l dX8_row_21 ?_
  refine ss_ldc2 dX8_row_22 kcX8_193 ?_
  refine ss_ldc2 dX8_row_25 kcX8_195 ?_
  refine ss_callS (As := [_, _, _]) dX8_row_28 vlX8_89 clX8_within rfl rfl (Nat.le_of_ble_eq_true rfl) (Nat.le_of_ble_eq_true rfl) (m_within) ?_
  refine sy_if_eq 79 dX8_row_31 (by decide) (fun c31 => by first | exact kd_tf (hva) c31 | exact kd_ft (hva) c31 | exact absurd (hva) c31 | exact absurd c31 (hva)) (fun c31 => ?_)
  refine ss_iload dX8_row_34 4 rfl ?_
  refine ss_i2l dX8_row_36 ?_
  refine ss_ldc2 dX8_row_37 kcX8_193 ?_
  refine ss_ldc2 dX8_row_40 kcX8_195 ?_
  refine ss_callS (As := [_, _, _]) dX8_row_43 vlX8_89 clX8_within rfl rfl (Nat.le_of_ble_eq_true rfl) (Nat.le_of_ble_eq_true rfl) (m_within) ?_
  refine sy_if_eq 79 dX8_row_46 (by decide) (fun c46 => by first | exact kd_tf (hvb) c46 | exact kd_ft (hvb) c46 | exact absurd (hvb) c46 | exact absurd c46 (hvb)) (fun c46 => ?_)
  refine ss_iload dX8_row_49 5 rfl ?_
  refine ss_i2l dX8_row_51 ?_
  refine ss_ldc2 dX8_row_52 kcX8_193 ?_
  refine ss_ldc2 dX8_row_55 kcX8_195 ?_
  refine ss_callS (As := [_, _, _]) dX8_row_58 vlX8_89 clX8_within rfl rfl (Nat.le_of_ble_eq_true rfl) (Nat.le_of_ble_eq_true rfl) (m_within) ?_
  refine sy_if_eq 79 dX8_row_61 (by decide) (fun c61 => by first | exact kd_tf (hve) c61 | exact kd_ft (hve) c61 | exact absurd (hve) c61 | exact absurd c61 (hve)) (fun c61 => ?_)
  refine ss_iload dX8_row_64 6 rfl ?_
  refine ss_i2l dX8_row_66 ?_
  refine ss_ldc2 dX8_row_67 kcX8_193 ?_
  refine ss_ldc2 dX8_row_70 kcX8_195 ?_
  refine ss_callS (As := [_, _, _]) dX8_row_73 vlX8_89 clX8_within rfl rfl (Nat.le_of_ble_eq_true rfl) (Nat.le_of_ble_eq_true rfl) (m_within) ?_
  refine sy_if_ne 83 dX8_row_76 (by decide) (fun c76 => ?_) (fun c76 => by first | exact kd_tf (hvf) c76 | exact kd_ft (hvf) c76 | exact absurd (hvf) c76 | exact absurd c76 (hvf))
  refine ss_aload_n dX8_row_83 0 rfl ?_
  refine ss_get (i := 105) dX8_row_84 flX8_13 (by omega) (sh_r105 _ _) rfl ?_
  refine ss_iload_n dX8_row_87 1 rfl ?_
  refine ss_zald (i := 107) dX8_row_88 (by omega) (sh_r107) (by omega) (by decide) ?_
  rw [hh]
  refine sy_if_eq 96 dX8_row_89 (by decide) (fun c89 => ?_) (fun c89 => by first | exact kd_tf (rfl) c89 | exact kd_ft (rfl) c89 | exact absurd (rfl) c89 | exact absurd c89 (rfl))
  refine ss_aload_n dX8_row_96 0 rfl ?_
  refine ss_iload_n dX8_row_97 1 rfl ?_
  refine ss_iconst (v := nI 3) dX8_row_98 (by decide) ?_
  refine ss_callV (As := [_, _]) (i := 105) dX8_row_99 vlX8_176 clX8_isOf rfl rfl (by omega) (sh_r105 _ _) rfl (Nat.le_of_ble_eq_true rfl) (Nat.le_of_ble_eq_true rfl) (m_isOf_t hj hkd) ?_
  refine sy_if_ne 107 dX8_row_102 (by decide) (fun c102 => ?_) (fun c102 => by first | exact kd_tf (rfl) c102 | exact kd_ft (rfl) c102 | exact absurd (rfl) c102 | exact absurd c102 (rfl))
  refine ss_bipush (v := nI 40) dX8_row_107 (by decide) ?_
  refine ss_iload_n dX8_row_109 1 rfl ?_
  refine sz_imul dX8_row_110 ?_
  refine ss_iconst (v := nI 4) dX8_row_111 (by decide) ?_
  refine ss_iload_n dX8_row_112 2 rfl ?_
  refine sz_imul dX8_row_113 ?_
  refine sz_iadd dX8_row_114 ?_
  refine ss_istore (lv' := [(7, _), (0, _), (1, _), (2, _), (3, _), (4, _), (5, _), (6, _)]) dX8_row_115 (by decide) rfl ?_
  refine ss_aload_n dX8_row_117 1 rfl ?_
  refine ss_get (i := 105) dX8_row_118 flX8_33 (by omega) (sh_r105 _ _) rfl ?_
  refine ss_iload dX8_row_121 0 rfl ?_
  refine ss_iload_n dX8_row_123 4 rfl ?_
  refine ss_iast (i := 113) dX8_row_124 (by omega) (sh_r113) (by omega) (by decide) ?_
  refine ss_aload_n dX8_row_125 1 rfl ?_
  refine ss_get (i := 105) dX8_row_126 flX8_33 (by omega) (sh_r105 _ _) rfl ?_
  refine ss_iload dX8_row_129 0 rfl ?_
  refine ss_iconst (v := nI 1) dX8_row_131 (by decide) ?_
  refine sz_iadd dX8_row_132 ?_
  refine ss_iload dX8_row_133 5 rfl ?_
  refine ss_iast (i := 113) dX8_row_135 (by omega) (sh_r113) (by omega) (by decide) ?_
  refine ss_aload_n dX8_row_136 1 rfl ?_
  refine ss_get (i := 105) dX8_row_137 flX8_33 (by omega) (sh_r105 _ _) rfl ?_
  refine ss_iload dX8_row_140 0 rfl ?_
  refine ss_iconst (v := nI 2) dX8_row_142 (by decide) ?_
  refine sz_iadd dX8_row_143 ?_
  refine ss_iload dX8_row_144 6 rfl ?_
  refine ss_iast (i := 113) dX8_row_146 (by omega) (sh_r113) (by omega) (by decide) ?_
  refine ss_aload_n dX8_row_147 1 rfl ?_
  refine ss_get (i := 105) dX8_row_148 flX8_33 (by omega) (sh_r105 _ _) rfl ?_
  refine ss_iload dX8_row_151 0 rfl ?_
  refine ss_iconst (v := nI 3) dX8_row_153 (by decide) ?_
  refine sz_iadd dX8_row_154 ?_
  refine ss_iload dX8_row_155 7 rfl ?_
  refine ss_iast (i := 113) dX8_row_157 (by omega) (sh_r113) (by omega) (by decide) ?_
  refine ss_aload_n dX8_row_158 1 rfl ?_
  refine ss_iload_n dX8_row_159 2 rfl ?_
  refine ss_callV (As := [_]) (i := 105) dX8_row_160 vlX8_163 clX8_work rfl rfl (by omega) (sh_r105 _ _) rfl (Nat.le_of_ble_eq_true rfl) (Nat.le_of_ble_eq_true rfl) (hW) ?_
  refine sy_if_eq 170 dX8_row_163 (by decide) (fun c163 => by first | exact kd_tf (rfl) c163 | exact kd_ft (rfl) c163 | exact absurd (rfl) c163 | exact absurd c163 (rfl)) (fun c163 => ?_)
  refine ss_iconst (v := nI 1) dX8_row_166 (by decide) ?_
  refine ss_goto 171 dX8_row_167 (by decide) ?_
  exact ss_iret dX8_row_171 rfl rfl (hQ)
set_option maxHeartbeats 1000000 in
set_option maxRecDepth 100000 in
theorem r_rise_u {c : cx} {d : Nat} {X : nX} {Y : nY} {m : Nat} (hm : m ≤ 12) (h7 : X 105 1 = nI m) {w v : Int32} (hw : ix w m = false) : sc c mX8_rise (d + 7) [.ref (c_ad c 105), .int w, .int v] (X) (Y) (some (.int (-1001))) (X) (Y) := by
  intro Q hQ
  show ss c mX8_rise (d + 7) Q 0 [(0, .ref (c_ad c 105)), (1, .int w), (2, .int v)] [] (X) (Y)
  refine ss_aload_n dX8_rise_0 0 rfl ?_
  refine ss_iload_n dX8_rise_1 1 rfl ?_
  refine ss_callV (As := [_]) (i := 105) dX8_rise_2 vlX8_157 clX8_isWorth rfl rfl (by omega) (sh_r105 _ _) rfl (Nat.le_of_ble_eq_true rfl) (Nat.le_of_ble_eq_true rfl) (m_isWorth hm h7) ?_
  refine sy_if_ne 12 dX8_rise_5 (by decide) (fun c5 => by first | exact kd_tf (hw) c5 | exact kd_ft (hw) c5 | exact absurd (hw) c5 | exact absurd c5 (hw)) (fun c5 => ?_)
  refine ss_sipush (v := -1001) dX8_rise_8 (by decide) ?_
  exact ss_iret dX8_rise_11 rfl rfl (hQ)
set_option maxHeartbeats 1000000 in
set_option maxRecDepth 100000 in
theorem r_rise_o {c : cx} {d : Nat} {X : nX} {Y : nY} {m : Nat} (hm : m ≤ 12) (h7 : X 105 1 = nI m) {j : Nat} (hjm : j < m) {v : Int32} (hv : wi v.toInt64 (-10000) 10000 = false) : sc c mX8_rise (d + 7) [.ref (c_ad c 105), .int (nI j), .int v] (X) (Y) (some (.int (-1002))) (X) (Y) := by
  intro Q hQ
  show ss c mX8_rise (d + 7) Q 0 [(0, .ref (c_ad c 105)), (1, .int (nI j)), (2, .int v)] [] (X) (Y)
  have hj : j < 12 := by omega
  have hwj : ix (nI j) m = true := ix_of hjm (by omega)
  refine ss_aload_n dX8_rise_0 0 rfl ?_
  refine ss_iload_n dX8_rise_1 1 rfl ?_
  refine ss_callV (As := [_]) (i := 105) dX8_rise_2 vlX8_157 clX8_isWorth rfl rfl (by omega) (sh_r105 _ _) rfl (Nat.le_of_ble_eq_true rfl) (Nat.le_of_ble_eq_true rfl) (m_isWorth hm h7) ?_
  refine sy_if_ne 12 dX8_rise_5 (by decide) (fun c5 => ?_) (fun c5 => by first | exact kd_tf (hwj) c5 | exact kd_ft (hwj) c5 | exact absurd (hwj) c5 | exact absurd c5 (hwj))
  refine ss_iload_n dX8_rise_12 2 rfl ?_
  refine ss_i2l dX8_rise_13 ?_
  refine ss_ldc2 dX8_rise_14 kcX8_197 ?_
  refine ss_ldc2 dX8_rise_17 kcX8_183 ?_
  refine ss_callS (As := [_, _, _]) dX8_rise_20 vlX8_89 clX8_within rfl rfl (Nat.le_of_ble_eq_true rfl) (Nat.le_of_ble_eq_true rfl) (m_within) ?_
  refine sy_if_ne 30 dX8_rise_23 (by decide) (fun c23 => by first | exact kd_tf (hv) c23 | exact kd_ft (hv) c23 | exact absurd (hv) c23 | exact absurd c23 (hv)) (fun c23 => ?_)
  refine ss_sipush (v := -1002) dX8_rise_26 (by decide) ?_
  exact ss_iret dX8_rise_29 rfl rfl (hQ)
set_option maxHeartbeats 1000000 in
set_option maxRecDepth 100000 in
theorem r_rise_n1 {c : cx} {d : Nat} {X : nX} {Y : nY} {n : Nat} (hn : n ≤ 10) (h6 : X 105 0 = nI n) {m : Nat} (hm : m ≤ 12) (h7 : X 105 1 = nI m) {j : Nat} (hjm : j < m) {v : Int32} (hv : wi v.toInt64 (-10000) 10000 = true) (hh : X 107 j = bI true) : sc c mX8_rise (d + 7) [.ref (c_ad c 105), .int (nI j), .int v] (X) (Y) (some (.int (-1003))) (X) (Y) := by
  intro Q hQ
  show ss c mX8_rise (d + 7) Q 0 [(0, .ref (c_ad c 105)), (1, .int (nI j)), (2, .int v)] [] (X) (Y)
  have hj : j < 12 := by omega
  have hwj : ix (nI j) m = true := ix_of hjm (by omega)
  refine ss_aload_n dX8_rise_0 0 rfl ?_
  refine ss_iload_n dX8_rise_1 1 rfl ?_
  refine ss_callV (As := [_]) (i := 105) dX8_rise_2 vlX8_157 clX8_isWorth rfl rfl (by omega) (sh_r105 _ _) rfl (Nat.le_of_ble_eq_true rfl) (Nat.le_of_ble_eq_true rfl) (m_isWorth hm h7) ?_
  refine sy_if_ne 12 dX8_rise_5 (by decide) (fun c5 => ?_) (fun c5 => by first | exact kd_tf (hwj) c5 | exact kd_ft (hwj) c5 | exact absurd (hwj) c5 | exact absurd c5 (hwj))
  refine ss_iload_n dX8_rise_12 2 rfl ?_
  refine ss_i2l dX8_rise_13 ?_
  refine ss_ldc2 dX8_rise_14 kcX8_197 ?_
  refine ss_ldc2 dX8_rise_17 kcX8_183 ?_
  refine ss_callS (As := [_, _, _]) dX8_rise_20 vlX8_89 clX8_within rfl rfl (Nat.le_of_ble_eq_true rfl) (Nat.le_of_ble_eq_true rfl) (m_within) ?_
  refine sy_if_ne 30 dX8_rise_23 (by decide) (fun c23 => ?_) (fun c23 => by first | exact kd_tf (hv) c23 | exact kd_ft (hv) c23 | exact absurd (hv) c23 | exact absurd c23 (hv))
  refine ss_aload_n dX8_rise_30 0 rfl ?_
  refine ss_get (i := 105) dX8_rise_31 flX8_13 (by omega) (sh_r105 _ _) rfl ?_
  refine ss_iload_n dX8_rise_34 1 rfl ?_
  refine ss_zald (i := 107) dX8_rise_35 (by omega) (sh_r107) (by omega) (by decide) ?_
  rw [hh]
  refine sy_if_eq 43 dX8_rise_36 (by decide) (fun c36 => by first | exact kd_tf (rfl) c36 | exact kd_ft (rfl) c36 | exact absurd (rfl) c36 | exact absurd c36 (rfl)) (fun c36 => ?_)
  refine ss_sipush (v := -1003) dX8_rise_39 (by decide) ?_
  exact ss_iret dX8_rise_42 rfl rfl (hQ)
set_option maxHeartbeats 1000000 in
set_option maxRecDepth 100000 in
theorem r_rise_c {c : cx} {d : Nat} {X : nX} {Y : nY} {n : Nat} (hn : n ≤ 10) (h6 : X 105 0 = nI n) {m : Nat} (hm : m ≤ 12) (h7 : X 105 1 = nI m) {j : Nat} (hjm : j < m) {v : Int32} (hv : wi v.toInt64 (-10000) 10000 = true) (hh : X 107 j = bI false) (hkd : ¬ X 106 j = nI 4) : sc c mX8_rise (d + 7) [.ref (c_ad c 105), .int (nI j), .int v] (X) (Y) (some (.int (nI 0))) (up2 X 105 19 (nI 5)) (Y) := by
  intro Q hQ
  show ss c mX8_rise (d + 7) Q 0 [(0, .ref (c_ad c 105)), (1, .int (nI j)), (2, .int v)] [] (X) (Y)
  have hj : j < 12 := by omega
  have hwj : ix (nI j) m = true := ix_of hjm (by omega)
  refine ss_aload_n dX8_rise_0 0 rfl ?_
  refine ss_iload_n dX8_rise_1 1 rfl ?_
  refine ss_callV (As := [_]) (i := 105) dX8_rise_2 vlX8_157 clX8_isWorth rfl rfl (by omega) (sh_r105 _ _) rfl (Nat.le_of_ble_eq_true rfl) (Nat.le_of_ble_eq_true rfl) (m_isWorth hm h7) ?_
  refine sy_if_ne 12 dX8_rise_5 (by decide) (fun c5 => ?_) (fun c5 => by first | exact kd_tf (hwj) c5 | exact kd_ft (hwj) c5 | exact absurd (hwj) c5 | exact absurd c5 (hwj))
  refine ss_iload_n dX8_rise_12 2 rfl ?_
  refine ss_i2l dX8_rise_13 ?_
  refine ss_ldc2 dX8_rise_14 kcX8_197 ?_
  refine ss_ldc2 dX8_rise_17 kcX8_183 ?_
  refine ss_callS (As := [_, _, _]) dX8_rise_20 vlX8_89 clX8_within rfl rfl (Nat.le_of_ble_eq_true rfl) (Nat.le_of_ble_eq_true rfl) (m_within) ?_
  refine sy_if_ne 30 dX8_rise_23 (by decide) (fun c23 => ?_) (fun c23 => by first | exact kd_tf (hv) c23 | exact kd_ft (hv) c23 | exact absurd (hv) c23 | exact absurd c23 (hv))
  refine ss_aload_n dX8_rise_30 0 rfl ?_
  refine ss_get (i := 105) dX8_rise_31 flX8_13 (by omega) (sh_r105 _ _) rfl ?_
  refine ss_iload_n dX8_rise_34 1 rfl ?_
  refine ss_zald (i := 107) dX8_rise_35 (by omega) (sh_r107) (by omega) (by decide) ?_
  rw [hh]
  refine sy_if_eq 43 dX8_rise_36 (by decide) (fun c36 => ?_) (fun c36 => by first | exact kd_tf (rfl) c36 | exact kd_ft (rfl) c36 | exact absurd (rfl) c36 | exact absurd c36 (rfl))
  refine ss_aload_n dX8_rise_43 0 rfl ?_
  refine ss_get (i := 105) dX8_rise_44 flX8_105 (by omega) (sh_r105 _ _) rfl ?_
  refine ss_istore_n (lv' := [(3, _), (0, _), (1, _), (2, _)]) dX8_rise_47 (by decide) rfl ?_
  refine ss_aload_n dX8_rise_48 1 rfl ?_
  refine ss_iload_n dX8_rise_49 2 rfl ?_
  refine ss_iconst (v := nI 4) dX8_rise_50 (by decide) ?_
  refine ss_callV (As := [_, _]) (i := 105) dX8_rise_51 vlX8_176 clX8_isOf rfl rfl (by omega) (sh_r105 _ _) rfl (Nat.le_of_ble_eq_true rfl) (Nat.le_of_ble_eq_true rfl) (m_isOf_f hj hkd) ?_
  refine sy_if_ne 59 dX8_rise_54 (by decide) (fun c54 => by first | exact kd_tf (rfl) c54 | exact kd_ft (rfl) c54 | exact absurd (rfl) c54 | exact absurd c54 (rfl)) (fun c54 => ?_)
  refine ss_iconst (v := nI 0) dX8_rise_57 (by decide) ?_
  exact ss_iret dX8_rise_58 rfl rfl (hQ)
set_option maxHeartbeats 1000000 in
set_option maxRecDepth 100000 in
theorem r_rise_f {c : cx} {d : Nat} {X : nX} {Y : nY} {n : Nat} (hn : n ≤ 10) (h6 : X 105 0 = nI n) {m : Nat} (hm : m ≤ 12) (h7 : X 105 1 = nI m) {j : Nat} (hjm : j < m) {v : Int32} (hv : wi v.toInt64 (-10000) 10000 = true) (hh : X 107 j = bI false) (hkd : X 106 j = nI 4) {P : Nat} (hmy : X 109 j = nI P) (hP : P = 10) : sc c mX8_rise (d + 7) [.ref (c_ad c 105), .int (nI j), .int v] (X) (Y) (some (.int (-1004))) (up2 (up2 X 105 19 (nI 0)) 105 19 (X 105 19)) (Y) := by
  intro Q hQ
  show ss c mX8_rise (d + 7) Q 0 [(0, .ref (c_ad c 105)), (1, .int (nI j)), (2, .int v)] [] (X) (Y)
  have hj : j < 12 := by omega
  have hwj : ix (nI j) m = true := ix_of hjm (by omega)
  refine ss_aload_n dX8_rise_0 0 rfl ?_
  refine ss_iload_n dX8_rise_1 1 rfl ?_
  refine ss_callV (As := [_]) (i := 105) dX8_rise_2 vlX8_157 clX8_isWorth rfl rfl (by omega) (sh_r105 _ _) rfl (Nat.le_of_ble_eq_true rfl) (Nat.le_of_ble_eq_true rfl) (m_isWorth hm h7) ?_
  refine sy_if_ne 12 dX8_rise_5 (by decide) (fun c5 => ?_) (fun c5 => by first | exact kd_tf (hwj) c5 | exact kd_ft (hwj) c5 | exact absurd (hwj) c5 | exact absurd c5 (hwj))
  refine ss_iload_n dX8_rise_12 2 rfl ?_
  refine ss_i2l dX8_rise_13 ?_
  refine ss_ldc2 dX8_rise_14 kcX8_197 ?_
  refine ss_ldc2 dX8_rise_17 kcX8_183 ?_
  refine ss_callS (As := [_, _, _]) dX8_rise_20 vlX8_89 clX8_within rfl rfl (Nat.le_of_ble_eq_true rfl) (Nat.le_of_ble_eq_true rfl) (m_within) ?_
  refine sy_if_ne 30 dX8_rise_23 (by decide) (fun c23 => ?_) (fun c23 => by first | exact kd_tf (hv) c23 | exact kd_ft (hv) c23 | exact absurd (hv) c23 | exact absurd c23 (hv))
  refine ss_aload_n dX8_rise_30 0 rfl ?_
  refine ss_get (i := 105) dX8_rise_31 flX8_13 (by omega) (sh_r105 _ _) rfl ?_
  refine ss_iload_n dX8_rise_34 1 rfl ?_
  refine ss_zald (i := 107) dX8_rise_35 (by omega) (sh_r107) (by omega) (by decide) ?_
  rw [hh]
  refine sy_if_eq 43 dX8_rise_36 (by decide) (fun c36 => ?_) (fun c36 => by first | exact kd_tf (rfl) c36 | exact kd_ft (rfl) c36 | exact absurd (rfl) c36 | exact absurd c36 (rfl))
  refine ss_aload_n dX8_rise_43 0 rfl ?_
  refine ss_get (i := 105) dX8_rise_44 flX8_105 (by omega) (sh_r105 _ _) rfl ?_
  refine ss_istore_n (lv' := [(3, _), (0, _), (1, _), (2, _)]) dX8_rise_47 (by decide) rfl ?_
  refine ss_aload_n dX8_rise_48 1 rfl ?_
  refine ss_iload_n dX8_rise_49 2 rfl ?_
  refine ss_iconst (v := nI 4) dX8_rise_50 (by decide) ?_
  refine ss_callV (As := [_, _]) (i := 105) dX8_rise_51 vlX8_176 clX8_isOf rfl rfl (by omega) (sh_r105 _ _) rfl (Nat.le_of_ble_eq_true rfl) (Nat.le_of_ble_eq_true rfl) (m_isOf_t hj hkd) ?_
  refine sy_if_ne 59 dX8_rise_54 (by decide) (fun c54 => ?_) (fun c54 => by first | exact kd_tf (rfl) c54 | exact kd_ft (rfl) c54 | exact absurd (rfl) c54 | exact absurd c54 (rfl))
  refine ss_aload_n dX8_rise_59 1 rfl ?_
  refine ss_get (i := 105) dX8_rise_60 flX8_21 (by omega) (sh_r105 _ _) rfl ?_
  refine ss_iload_n dX8_rise_63 2 rfl ?_
  refine ss_iald (i := 109) dX8_rise_64 (by omega) (sh_r109) (by omega) (by decide) ?_
  rw [up2_at, if_neg (by omega), hmy]
  refine ss_bipush (v := nI 10) dX8_rise_65 (by decide) ?_
  refine sz_icmp_ne 79 dX8_rise_67 (by decide) (by omega) (by omega) (fun c67 => by omega) (fun c67 => ?_)
  refine ss_aload_n dX8_rise_70 1 rfl ?_
  refine ss_sipush (v := -1004) dX8_rise_71 (by decide) ?_
  refine ss_iload_n dX8_rise_74 0 rfl ?_
  refine ss_callV (As := [_, _]) (i := 105) dX8_rise_75 vlX8_185 clX8_refuse rfl rfl (by omega) (sh_r105 _ _) rfl (Nat.le_of_ble_eq_true rfl) (Nat.le_of_ble_eq_true rfl) (m_refuse) ?_
  exact ss_iret dX8_rise_78 rfl rfl (hQ)
set_option maxHeartbeats 1000000 in
set_option maxRecDepth 100000 in
theorem r_rise_n2 {c : cx} {d : Nat} {X : nX} {Y : nY} {n : Nat} (hn : n ≤ 10) (h6 : X 105 0 = nI n) {m : Nat} (hm : m ≤ 12) (h7 : X 105 1 = nI m) {j : Nat} (hjm : j < m) {v : Int32} (hv : wi v.toInt64 (-10000) 10000 = true) (hh : X 107 j = bI false) (hkd : X 106 j = nI 4) {P : Nat} (hmy : X 109 j = nI P) (hP : P < 10) (hP0 : 0 < P) (hvr : ¬ v ≤ X 110 (24 * j + P - 1)) : sc c mX8_rise (d + 7) [.ref (c_ad c 105), .int (nI j), .int v] (X) (Y) (some (.int (-1003))) (up2 (up2 X 105 19 (nI 0)) 105 19 (X 105 19)) (Y) := by
  intro Q hQ
  show ss c mX8_rise (d + 7) Q 0 [(0, .ref (c_ad c 105)), (1, .int (nI j)), (2, .int v)] [] (X) (Y)
  have hj : j < 12 := by omega
  have hwj : ix (nI j) m = true := ix_of hjm (by omega)
  refine ss_aload_n dX8_rise_0 0 rfl ?_
  refine ss_iload_n dX8_rise_1 1 rfl ?_
  refine ss_callV (As := [_]) (i := 105) dX8_rise_2 vlX8_157 clX8_isWorth rfl rfl (by omega) (sh_r105 _ _) rfl (Nat.le_of_ble_eq_true rfl) (Nat.le_of_ble_eq_true rfl) (m_isWorth hm h7) ?_
  refine sy_if_ne 12 dX8_rise_5 (by decide) (fun c5 => ?_) (fun c5 => by first | exact kd_tf (hwj) c5 | exact kd_ft (hwj) c5 | exact absurd (hwj) c5 | exact absurd c5 (hwj))
  refine ss_iload_n dX8_rise_12 2 rfl ?_
  refine ss_i2l dX8_rise_13 ?_
  refine ss_ldc2 dX8_rise_14 kcX8_197 ?_
  refine ss_ldc2 dX8_rise_17 kcX8_183 ?_
  refine ss_callS (As := [_, _, _]) dX8_rise_20 vlX8_89 clX8_within rfl rfl (Nat.le_of_ble_eq_true rfl) (Nat.le_of_ble_eq_true rfl) (m_within) ?_
  refine sy_if_ne 30 dX8_rise_23 (by decide) (fun c23 => ?_) (fun c23 => by first | exact kd_tf (hv) c23 | exact kd_ft (hv) c23 | exact absurd (hv) c23 | exact absurd c23 (hv))
  refine ss_aload_n dX8_rise_30 0 rfl ?_
  refine ss_get (i := 105) dX8_rise_31 flX8_13 (by omega) (sh_r105 _ _) rfl ?_
  refine ss_iload_n dX8_rise_34 1 rfl ?_
  refine ss_zald (i := 107) dX8_rise_35 (by omega) (sh_r107) (by omega) (by decide) ?_
  rw [hh]
  refine sy_if_eq 43 dX8_rise_36 (by decide) (fun c36 => ?_) (fun c36 => by first | exact kd_tf (rfl) c36 | exact kd_ft (rfl) c36 | exact absurd (rfl) c36 | exact absurd c36 (rfl))
  refine ss_aload_n dX8_rise_43 0 rfl ?_
  refine ss_get (i := 105) dX8_rise_44 flX8_105 (by omega) (sh_r105 _ _) rfl ?_
  refine ss_istore_n (lv' := [(3, _), (0, _), (1, _), (2, _)]) dX8_rise_47 (by decide) rfl ?_
  refine ss_aload_n dX8_rise_48 1 rfl ?_
  refine ss_iload_n dX8_rise_49 2 rfl ?_
  refine ss_iconst (v := nI 4) dX8_rise_50 (by decide) ?_
  refine ss_callV (As := [_, _]) (i := 105) dX8_rise_51 vlX8_176 clX8_isOf rfl rfl (by omega) (sh_r105 _ _) rfl (Nat.le_of_ble_eq_true rfl) (Nat.le_of_ble_eq_true rfl) (m_isOf_t hj hkd) ?_
  refine sy_if_ne 59 dX8_rise_54 (by decide) (fun c54 => ?_) (fun c54 => by first | exact kd_tf (rfl) c54 | exact kd_ft (rfl) c54 | exact absurd (rfl) c54 | exact absurd c54 (rfl))
  refine ss_aload_n dX8_rise_59 1 rfl ?_
  refine ss_get (i := 105) dX8_rise_60 flX8_21 (by omega) (sh_r105 _ _) rfl ?_
  refine ss_iload_n dX8_rise_63 2 rfl ?_
  refine ss_iald (i := 109) dX8_rise_64 (by omega) (sh_r109) (by omega) (by decide) ?_
  rw [up2_at, if_neg (by omega), hmy]
  refine ss_bipush (v := nI 10) dX8_rise_65 (by decide) ?_
  refine sz_icmp_ne 79 dX8_rise_67 (by decide) (by omega) (by omega) (fun c67 => ?_) (fun c67 => by omega)
  refine ss_aload_n dX8_rise_79 1 rfl ?_
  refine ss_get (i := 105) dX8_rise_80 flX8_21 (by omega) (sh_r105 _ _) rfl ?_
  refine ss_iload_n dX8_rise_83 2 rfl ?_
  refine ss_iald (i := 109) dX8_rise_84 (by omega) (sh_r109) (by omega) (by decide) ?_
  rw [up2_at, if_neg (by omega), hmy]
  refine ss_if_le 119 dX8_rise_85 (by decide) (fun c85 => by first | exact kd_tf (nI_nle hP0 (by omega)) c85 | exact kd_ft (nI_nle hP0 (by omega)) c85 | exact absurd (nI_nle hP0 (by omega)) c85 | exact absurd c85 (nI_nle hP0 (by omega))) (fun c85 => ?_)
  refine ss_iload_n dX8_rise_88 3 rfl ?_
  refine ss_aload_n dX8_rise_89 1 rfl ?_
  refine ss_get (i := 105) dX8_rise_90 flX8_24 (by omega) (sh_r105 _ _) rfl ?_
  refine ss_bipush (v := nI 24) dX8_rise_93 (by decide) ?_
  refine ss_iload_n dX8_rise_95 2 rfl ?_
  refine sz_imul dX8_rise_96 ?_
  refine ss_aload_n dX8_rise_97 1 rfl ?_
  refine ss_get (i := 105) dX8_rise_98 flX8_21 (by omega) (sh_r105 _ _) rfl ?_
  refine ss_iload_n dX8_rise_101 2 rfl ?_
  refine ss_iald (i := 109) dX8_rise_102 (by omega) (sh_r109) (by omega) (by decide) ?_
  rw [up2_at, if_neg (by omega), hmy]
  refine sz_iadd dX8_rise_103 ?_
  refine ss_iconst (v := nI 1) dX8_rise_104 (by decide) ?_
  refine sz_isub dX8_rise_105 (by omega) ?_
  refine ss_iald (i := 110) dX8_rise_106 (by omega) (sh_r110) (by omega) (by decide) ?_
  rw [up2_at, if_neg (by omega)]
  refine ss_icmp_le 119 dX8_rise_107 (by decide) (fun c107 => by first | exact kd_tf (hvr) c107 | exact kd_ft (hvr) c107 | exact absurd (hvr) c107 | exact absurd c107 (hvr)) (fun c107 => ?_)
  refine ss_aload_n dX8_rise_110 1 rfl ?_
  refine ss_sipush (v := -1003) dX8_rise_111 (by decide) ?_
  refine ss_iload_n dX8_rise_114 0 rfl ?_
  refine ss_callV (As := [_, _]) (i := 105) dX8_rise_115 vlX8_185 clX8_refuse rfl rfl (by omega) (sh_r105 _ _) rfl (Nat.le_of_ble_eq_true rfl) (Nat.le_of_ble_eq_true rfl) (m_refuse) ?_
  exact ss_iret dX8_rise_118 rfl rfl (hQ)
set_option maxHeartbeats 1000000 in
set_option maxRecDepth 100000 in
theorem r_rise_k0 {c : cx} {d : Nat} {X : nX} {Y : nY} {n : Nat} (hn : n ≤ 10) (h6 : X 105 0 = nI n) {m : Nat} (hm : m ≤ 12) (h7 : X 105 1 = nI m) {j : Nat} (hjm : j < m) {v : Int32} (hv : wi v.toInt64 (-10000) 10000 = true) (hh : X 107 j = bI false) (hkd : X 106 j = nI 4) {P : Nat} (hmy : X 109 j = nI P) (hP0 : P = 0) {g : Bool} {Y1 : nY} (hW : sc c mX8_work (d + 5) [.ref (c_ad c 105), .int (nI j)] (x_mo (up2 X 105 19 (nI 0)) j P v (nI 0) (nI 0)) Y (some (.int (bI g))) (x_mo (up2 X 105 19 (nI 0)) j P v (nI 0) (nI 0)) Y1) : sc c mX8_rise (d + 7) [.ref (c_ad c 105), .int (nI j), .int v] (X) (Y) (some (.int (nI (P + 1)))) (x_mo (up2 X 105 19 (nI 0)) j P v (nI 0) (nI 0)) (Y1) := by
  intro Q hQ
  show ss c mX8_rise (d + 7) Q 0 [(0, .ref (c_ad c 105)), (1, .int (nI j)), (2, .int v)] [] (X) (Y)
  have hj : j < 12 := by omega
  have hwj : ix (nI j) m = true := ix_of hjm (by omega)
  refine ss_aload_n dX8_rise_0 0 rfl ?_
  refine ss_iload_n dX8_rise_1 1 rfl ?_
  refine ss_callV (As := [_]) (i := 105) dX8_rise_2 vlX8_157 clX8_isWorth rfl rfl (by omega) (sh_r105 _ _) rfl (Nat.le_of_ble_eq_true rfl) (Nat.le_of_ble_eq_true rfl) (m_isWorth hm h7) ?_
  refine sy_if_ne 12 dX8_rise_5 (by decide) (fun c5 => ?_) (fun c5 => by first | exact kd_tf (hwj) c5 | exact kd_ft (hwj) c5 | exact absurd (hwj) c5 | exact absurd c5 (hwj))
  refine ss_iload_n dX8_rise_12 2 rfl ?_
  refine ss_i2l dX8_rise_13 ?_
  refine ss_ldc2 dX8_rise_14 kcX8_197 ?_
  refine ss_ldc2 dX8_rise_17 kcX8_183 ?_
  refine ss_callS (As := [_, _, _]) dX8_rise_20 vlX8_89 clX8_within rfl rfl (Nat.le_of_ble_eq_true rfl) (Nat.le_of_ble_eq_true rfl) (m_within) ?_
  refine sy_if_ne 30 dX8_rise_23 (by decide) (fun c23 => ?_) (fun c23 => by first | exact kd_tf (hv) c23 | exact kd_ft (hv) c23 | exact absurd (hv) c23 | exact absurd c23 (hv))
  refine ss_aload_n dX8_rise_30 0 rfl ?_
  refine ss_get (i := 105) dX8_rise_31 flX8_13 (by omega) (sh_r105 _ _) rfl ?_
  refine ss_iload_n dX8_rise_34 1 rfl ?_
  refine ss_zald (i := 107) dX8_rise_35 (by omega) (sh_r107) (by omega) (by decide) ?_
  rw [hh]
  refine sy_if_eq 43 dX8_rise_36 (by decide) (fun c36 => ?_) (fun c36 => by first | exact kd_tf (rfl) c36 | exact kd_ft (rfl) c36 | exact absurd (rfl) c36 | exact absurd c36 (rfl))
  refine ss_aload_n dX8_rise_43 0 rfl ?_
  refine ss_get (i := 105) dX8_rise_44 flX8_105 (by omega) (sh_r105 _ _) rfl ?_
  refine ss_istore_n (lv' := [(3, _), (0, _), (1, _), (2, _)]) dX8_rise_47 (by decide) rfl ?_
  refine ss_aload_n dX8_rise_48 1 rfl ?_
  refine ss_iload_n dX8_rise_49 2 rfl ?_
  refine ss_iconst (v := nI 4) dX8_rise_50 (by decide) ?_
  refine ss_callV (As := [_, _]) (i := 105) dX8_rise_51 vlX8_176 clX8_isOf rfl rfl (by omega) (sh_r105 _ _) rfl (Nat.le_of_ble_eq_true rfl) (Nat.le_of_ble_eq_true rfl) (m_isOf_t hj hkd) ?_
  refine sy_if_ne 59 dX8_rise_54 (by decide) (fun c54 => ?_) (fun c54 => by first | exact kd_tf (rfl) c54 | exact kd_ft (rfl) c54 | exact absurd (rfl) c54 | exact absurd c54 (rfl))
  refine ss_aload_n dX8_rise_59 1 rfl ?_
  refine ss_get (i := 105) dX8_rise_60 flX8_21 (by omega) (sh_r105 _ _) rfl ?_
  refine ss_iload_n dX8_rise_63 2 rfl ?_
  refine ss_iald (i := 109) dX8_rise_64 (by omega) (sh_r109) (by omega) (by decide) ?_
  rw [up2_at, if_neg (by omega), hmy]
  refine ss_bipush (v := nI 10) dX8_rise_65 (by decide) ?_
  refine sz_icmp_ne 79 dX8_rise_67 (by decide) (by omega) (by omega) (fun c67 => ?_) (fun c67 => by omega)
  refine ss_aload_n dX8_rise_79 1 rfl ?_
  refine ss_get (i := 105) dX8_rise_80 flX8_21 (by omega) (sh_r105 _ _) rfl ?_
  refine ss_iload_n dX8_rise_83 2 rfl ?_
  refine ss_iald (i := 109) dX8_rise_84 (by omega) (sh_r109) (by omega) (by decide) ?_
  rw [up2_at, if_neg (by omega), hmy]
  refine ss_if_le 119 dX8_rise_85 (by decide) (fun c85 => ?_) (fun c85 => by first | exact kd_tf (nI_le0 hP0) c85 | exact kd_ft (nI_le0 hP0) c85 | exact absurd (nI_le0 hP0) c85 | exact absurd c85 (nI_le0 hP0))
  refine ss_aload_n dX8_rise_119 1 rfl ?_
  refine ss_iload_n dX8_rise_120 2 rfl ?_
  refine ss_iload_n dX8_rise_121 3 rfl ?_
  refine ss_iconst (v := nI 0) dX8_rise_122 (by decide) ?_
  refine ss_iconst (v := nI 0) dX8_rise_123 (by decide) ?_
  refine ss_callV (As := [_, _, _, _]) (i := 105) dX8_rise_124 vlX8_189 clX8_more rfl rfl (by omega) (sh_r105 _ _) rfl (Nat.le_of_ble_eq_true rfl) (Nat.le_of_ble_eq_true rfl) (m_more hj (by omega) (by rw [up2_at, if_neg (by omega)]; exact hmy) hW) ?_
  exact ss_iret dX8_rise_127 rfl rfl (hQ)
set_option maxHeartbeats 1000000 in
set_option maxRecDepth 100000 in
theorem r_rise_k1 {c : cx} {d : Nat} {X : nX} {Y : nY} {n : Nat} (hn : n ≤ 10) (h6 : X 105 0 = nI n) {m : Nat} (hm : m ≤ 12) (h7 : X 105 1 = nI m) {j : Nat} (hjm : j < m) {v : Int32} (hv : wi v.toInt64 (-10000) 10000 = true) (hh : X 107 j = bI false) (hkd : X 106 j = nI 4) {P : Nat} (hmy : X 109 j = nI P) (hP : P < 10) (hP0 : 0 < P) (hvr : v ≤ X 110 (24 * j + P - 1)) {g : Bool} {Y1 : nY} (hW : sc c mX8_work (d + 5) [.ref (c_ad c 105), .int (nI j)] (x_mo (up2 X 105 19 (nI 0)) j P v (nI 0) (nI 0)) Y (some (.int (bI g))) (x_mo (up2 X 105 19 (nI 0)) j P v (nI 0) (nI 0)) Y1) : sc c mX8_rise (d + 7) [.ref (c_ad c 105), .int (nI j), .int v] (X) (Y) (some (.int (nI (P + 1)))) (x_mo (up2 X 105 19 (nI 0)) j P v (nI 0) (nI 0)) (Y1) := by
  intro Q hQ
  show ss c mX8_rise (d + 7) Q 0 [(0, .ref (c_ad c 105)), (1, .int (nI j)), (2, .int v)] [] (X) (Y)
  have hj : j < 12 := by omega
  have hwj : ix (nI j) m = true := ix_of hjm (by omega)
  refine ss_aload_n dX8_rise_0 0 rfl ?_
  refine ss_iload_n dX8_rise_1 1 rfl ?_
  refine ss_callV (As := [_]) (i := 105) dX8_rise_2 vlX8_157 clX8_isWorth rfl rfl (by omega) (sh_r105 _ _) rfl (Nat.le_of_ble_eq_true rfl) (Nat.le_of_ble_eq_true rfl) (m_isWorth hm h7) ?_
  refine sy_if_ne 12 dX8_rise_5 (by decide) (fun c5 => ?_) (fun c5 => by first | exact kd_tf (hwj) c5 | exact kd_ft (hwj) c5 | exact absurd (hwj) c5 | exact absurd c5 (hwj))
  refine ss_iload_n dX8_rise_12 2 rfl ?_
  refine ss_i2l dX8_rise_13 ?_
  refine ss_ldc2 dX8_rise_14 kcX8_197 ?_
  refine ss_ldc2 dX8_rise_17 kcX8_183 ?_
  refine ss_callS (As := [_, _, _]) dX8_rise_20 vlX8_89 clX8_within rfl rfl (Nat.le_of_ble_eq_true rfl) (Nat.le_of_ble_eq_true rfl) (m_within) ?_
  refine sy_if_ne 30 dX8_rise_23 (by decide) (fun c23 => ?_) (fun c23 => by first | exact kd_tf (hv) c23 | exact kd_ft (hv) c23 | exact absurd (hv) c23 | exact absurd c23 (hv))
  refine ss_aload_n dX8_rise_30 0 rfl ?_
  refine ss_get (i := 105) dX8_rise_31 flX8_13 (by omega) (sh_r105 _ _) rfl ?_
  refine ss_iload_n dX8_rise_34 1 rfl ?_
  refine ss_zald (i := 107) dX8_rise_35 (by omega) (sh_r107) (by omega) (by decide) ?_
  rw [hh]
  refine sy_if_eq 43 dX8_rise_36 (by decide) (fun c36 => ?_) (fun c36 => by first | exact kd_tf (rfl) c36 | exact kd_ft (rfl) c36 | exact absurd (rfl) c36 | exact absurd c36 (rfl))
  refine ss_aload_n dX8_rise_43 0 rfl ?_
  refine ss_get (i := 105) dX8_rise_44 flX8_105 (by omega) (sh_r105 _ _) rfl ?_
  refine ss_istore_n (lv' := [(3, _), (0, _), (1, _), (2, _)]) dX8_rise_47 (by decide) rfl ?_
  refine ss_aload_n dX8_rise_48 1 rfl ?_
  refine ss_iload_n dX8_rise_49 2 rfl ?_
  refine ss_iconst (v := nI 4) dX8_rise_50 (by decide) ?_
  refine ss_callV (As := [_, _]) (i := 105) dX8_rise_51 vlX8_176 clX8_isOf rfl rfl (by omega) (sh_r105 _ _) rfl (Nat.le_of_ble_eq_true rfl) (Nat.le_of_ble_eq_true rfl) (m_isOf_t hj hkd) ?_
  refine sy_if_ne 59 dX8_rise_54 (by decide) (fun c54 => ?_) (fun c54 => by first | exact kd_tf (rfl) c54 | exact kd_ft (rfl) c54 | exact absurd (rfl) c54 | exact absurd c54 (rfl))
  refine ss_aload_n dX8_rise_59 1 rfl ?_
  refine ss_get (i := 105) dX8_rise_60 flX8_21 (by omega) (sh_r105 _ _) rfl ?_
  refine ss_iload_n dX8_rise_63 2 rfl ?_
  refine ss_iald (i := 109) dX8_rise_64 (by omega) (sh_r109) (by omega) (by decide) ?_
  rw [up2_at, if_neg (by omega), hmy]
  refine ss_bipush (v := nI 10) dX8_rise_65 (by decide) ?_
  refine sz_icmp_ne 79 dX8_rise_67 (by decide) (by omega) (by omega) (fun c67 => ?_) (fun c67 => by omega)
  refine ss_aload_n dX8_rise_79 1 rfl ?_
  refine ss_get (i := 105) dX8_rise_80 flX8_21 (by omega) (sh_r105 _ _) rfl ?_
  refine ss_iload_n dX8_rise_83 2 rfl ?_
  refine ss_iald (i := 109) dX8_rise_84 (by omega) (sh_r109) (by omega) (by decide) ?_
  rw [up2_at, if_neg (by omega), hmy]
  refine ss_if_le 119 dX8_rise_85 (by decide) (fun c85 => by first | exact kd_tf (nI_nle hP0 (by omega)) c85 | exact kd_ft (nI_nle hP0 (by omega)) c85 | exact absurd (nI_nle hP0 (by omega)) c85 | exact absurd c85 (nI_nle hP0 (by omega))) (fun c85 => ?_)
  refine ss_iload_n dX8_rise_88 3 rfl ?_
  refine ss_aload_n dX8_rise_89 1 rfl ?_
  refine ss_get (i := 105) dX8_rise_90 flX8_24 (by omega) (sh_r105 _ _) rfl ?_
  refine ss_bipush (v := nI 24) dX8_rise_93 (by decide) ?_
  refine ss_iload_n dX8_rise_95 2 rfl ?_
  refine sz_imul dX8_rise_96 ?_
  refine ss_aload_n dX8_rise_97 1 rfl ?_
  refine ss_get (i := 105) dX8_rise_98 flX8_21 (by omega) (sh_r105 _ _) rfl ?_
  refine ss_iload_n dX8_rise_101 2 rfl ?_
  refine ss_iald (i := 109) dX8_rise_102 (by omega) (sh_r109) (by omega) (by decide) ?_
  rw [up2_at, if_neg (by omega), hmy]
  refine sz_iadd dX8_rise_103 ?_
  refine ss_iconst (v := nI 1) dX8_rise_104 (by decide) ?_
  refine sz_isub dX8_rise_105 (by omega) ?_
  refine ss_iald (i := 110) dX8_rise_106 (by omega) (sh_r110) (by omega) (by decide) ?_
  rw [up2_at, if_neg (by omega)]
  refine ss_icmp_le 119 dX8_rise_107 (by decide) (fun c107 => ?_) (fun c107 => by first | exact kd_tf (hvr) c107 | exact kd_ft (hvr) c107 | exact absurd (hvr) c107 | exact absurd c107 (hvr))
  refine ss_aload_n dX8_rise_119 1 rfl ?_
  refine ss_iload_n dX8_rise_120 2 rfl ?_
  refine ss_iload_n dX8_rise_121 3 rfl ?_
  refine ss_iconst (v := nI 0) dX8_rise_122 (by decide) ?_
  refine ss_iconst (v := nI 0) dX8_rise_123 (by decide) ?_
  refine ss_callV (As := [_, _, _, _]) (i := 105) dX8_rise_124 vlX8_189 clX8_more rfl rfl (by omega) (sh_r105 _ _) rfl (Nat.le_of_ble_eq_true rfl) (Nat.le_of_ble_eq_true rfl) (m_more hj (by omega) (by rw [up2_at, if_neg (by omega)]; exact hmy) hW) ?_
  exact ss_iret dX8_rise_127 rfl rfl (hQ)
set_option maxHeartbeats 1000000 in
set_option maxRecDepth 100000 in
theorem r_add_u {c : cx} {d : Nat} {X : nX} {Y : nY} {m : Nat} (hm : m ≤ 12) (h7 : X 105 1 = nI m) {w q v : Int32} (hu : ix w m = false ∨ ix q m = false) : sc c mX8_add (d + 7) [.ref (c_ad c 105), .int w, .int q, .int v] (X) (Y) (some (.int (-1001))) (X) (Y) := by
  intro Q hQ
  show ss c mX8_add (d + 7) Q 0 [(0, .ref (c_ad c 105)), (1, .int w), (2, .int q), (3, .int v)] [] (X) (Y)
  refine ss_aload_n dX8_add_0 0 rfl ?_
  refine ss_iload_n dX8_add_1 1 rfl ?_
  refine ss_callV (As := [_]) (i := 105) dX8_add_2 vlX8_157 clX8_isWorth rfl rfl (by omega) (sh_r105 _ _) rfl (Nat.le_of_ble_eq_true rfl) (Nat.le_of_ble_eq_true rfl) (m_isWorth hm h7) ?_
  refine sy_if_eq 16 dX8_add_5 (by decide) (fun c5 => ?_) (fun c5 => ?_)
  · skip
    refine ss_sipush (v := -1001) dX8_add_16 (by decide) ?_
    exact ss_iret dX8_add_19 rfl rfl (hQ)
  · skip
    refine ss_aload_n dX8_add_8 0 rfl ?_
    refine ss_iload_n dX8_add_9 2 rfl ?_
    refine ss_callV (As := [_]) (i := 105) dX8_add_10 vlX8_157 clX8_isWorth rfl rfl (by omega) (sh_r105 _ _) rfl (Nat.le_of_ble_eq_true rfl) (Nat.le_of_ble_eq_true rfl) (m_isWorth hm h7) ?_
    refine sy_if_ne 20 dX8_add_13 (by decide) (fun c13 => by rcases hu with h8 | h8; exact kd_tf c5 h8; exact kd_tf c13 h8) (fun c13 => ?_)
    refine ss_sipush (v := -1001) dX8_add_16 (by decide) ?_
    exact ss_iret dX8_add_19 rfl rfl (hQ)
set_option maxHeartbeats 1000000 in
set_option maxRecDepth 100000 in
theorem r_add_o {c : cx} {d : Nat} {X : nX} {Y : nY} {n : Nat} (hn : n ≤ 10) (h6 : X 105 0 = nI n) {m : Nat} (hm : m ≤ 12) (h7 : X 105 1 = nI m) {j : Nat} (hjm : j < m) {p : Nat} (hpm : p < m) {v : Int32} (hv : ix v 101 = false) : sc c mX8_add (d + 7) [.ref (c_ad c 105), .int (nI j), .int (nI p), .int v] (X) (Y) (some (.int (-1002))) (X) (Y) := by
  intro Q hQ
  show ss c mX8_add (d + 7) Q 0 [(0, .ref (c_ad c 105)), (1, .int (nI j)), (2, .int (nI p)), (3, .int v)] [] (X) (Y)
  have hj : j < 12 := by omega
  have hwj : ix (nI j) m = true := ix_of hjm (by omega)
  have hp : p < 12 := by omega
  have hp9 : ix (nI p) m = true := ix_of hpm (by omega)
  refine ss_aload_n dX8_add_0 0 rfl ?_
  refine ss_iload_n dX8_add_1 1 rfl ?_
  refine ss_callV (As := [_]) (i := 105) dX8_add_2 vlX8_157 clX8_isWorth rfl rfl (by omega) (sh_r105 _ _) rfl (Nat.le_of_ble_eq_true rfl) (Nat.le_of_ble_eq_true rfl) (m_isWorth hm h7) ?_
  refine sy_if_eq 16 dX8_add_5 (by decide) (fun c5 => by first | exact kd_tf (hwj) c5 | exact kd_ft (hwj) c5 | exact absurd (hwj) c5 | exact absurd c5 (hwj)) (fun c5 => ?_)
  refine ss_aload_n dX8_add_8 0 rfl ?_
  refine ss_iload_n dX8_add_9 2 rfl ?_
  refine ss_callV (As := [_]) (i := 105) dX8_add_10 vlX8_157 clX8_isWorth rfl rfl (by omega) (sh_r105 _ _) rfl (Nat.le_of_ble_eq_true rfl) (Nat.le_of_ble_eq_true rfl) (m_isWorth hm h7) ?_
  refine sy_if_ne 20 dX8_add_13 (by decide) (fun c13 => ?_) (fun c13 => by first | exact kd_tf (hp9) c13 | exact kd_ft (hp9) c13 | exact absurd (hp9) c13 | exact absurd c13 (hp9))
  refine ss_iload_n dX8_add_20 3 rfl ?_
  refine ss_i2l dX8_add_21 ?_
  refine ss_lconst (v := 0) dX8_add_22 (by decide) ?_
  refine ss_ldc2 dX8_add_23 kcX8_199 ?_
  refine ss_callS (As := [_, _, _]) dX8_add_26 vlX8_89 clX8_within rfl rfl (Nat.le_of_ble_eq_true rfl) (Nat.le_of_ble_eq_true rfl) (m_within) ?_
  refine sy_if_ne 36 dX8_add_29 (by decide) (fun c29 => by first | exact kd_tf (by rw [wi_ix (n := 101) rfl]; exact hv) c29 | exact kd_ft (by rw [wi_ix (n := 101) rfl]; exact hv) c29 | exact absurd (by rw [wi_ix (n := 101) rfl]; exact hv) c29 | exact absurd c29 (by rw [wi_ix (n := 101) rfl]; exact hv)) (fun c29 => ?_)
  refine ss_sipush (v := -1002) dX8_add_32 (by decide) ?_
  exact ss_iret dX8_add_35 rfl rfl (hQ)
set_option maxHeartbeats 1000000 in
set_option maxRecDepth 100000 in
theorem r_add_n1 {c : cx} {d : Nat} {X : nX} {Y : nY} {n : Nat} (hn : n ≤ 10) (h6 : X 105 0 = nI n) {m : Nat} (hm : m ≤ 12) (h7 : X 105 1 = nI m) {j : Nat} (hjm : j < m) {p : Nat} (hpm : p < m) {v : Int32} (hv : ix v 101 = true) (hh : X 107 j = bI true) : sc c mX8_add (d + 7) [.ref (c_ad c 105), .int (nI j), .int (nI p), .int v] (X) (Y) (some (.int (-1003))) (X) (Y) := by
  intro Q hQ
  show ss c mX8_add (d + 7) Q 0 [(0, .ref (c_ad c 105)), (1, .int (nI j)), (2, .int (nI p)), (3, .int v)] [] (X) (Y)
  have hj : j < 12 := by omega
  have hwj : ix (nI j) m = true := ix_of hjm (by omega)
  have hp : p < 12 := by omega
  have hp9 : ix (nI p) m = true := ix_of hpm (by omega)
  refine ss_aload_n dX8_add_0 0 rfl ?_
  refine ss_iload_n dX8_add_1 1 rfl ?_
  refine ss_callV (As := [_]) (i := 105) dX8_add_2 vlX8_157 clX8_isWorth rfl rfl (by omega) (sh_r105 _ _) rfl (Nat.le_of_ble_eq_true rfl) (Nat.le_of_ble_eq_true rfl) (m_isWorth hm h7) ?_
  refine sy_if_eq 16 dX8_add_5 (by decide) (fun c5 => by first | exact kd_tf (hwj) c5 | exact kd_ft (hwj) c5 | exact absurd (hwj) c5 | exact absurd c5 (hwj)) (fun c5 => ?_)
  refine ss_aload_n dX8_add_8 0 rfl ?_
  refine ss_iload_n dX8_add_9 2 rfl ?_
  refine ss_callV (As := [_]) (i := 105) dX8_add_10 vlX8_157 clX8_isWorth rfl rfl (by omega) (sh_r105 _ _) rfl (Nat.le_of_ble_eq_true rfl) (Nat.le_of_ble_eq_true rfl) (m_isWorth hm h7) ?_
  refine sy_if_ne 20 dX8_add_13 (by decide) (fun c13 => ?_) (fun c13 => by first | exact kd_tf (hp9) c13 | exact kd_ft (hp9) c13 | exact absurd (hp9) c13 | exact absurd c13 (hp9))
  refine ss_iload_n dX8_add_20 3 rfl ?_
  refine ss_i2l dX8_add_21 ?_
  refine ss_lconst (v := 0) dX8_add_22 (by decide) ?_
  refine ss_ldc2 dX8_add_23 kcX8_199 ?_
  refine ss_callS (As := [_, _, _]) dX8_add_26 vlX8_89 clX8_within rfl rfl (Nat.le_of_ble_eq_true rfl) (Nat.le_of_ble_eq_true rfl) (m_within) ?_
  refine sy_if_ne 36 dX8_add_29 (by decide) (fun c29 => ?_) (fun c29 => by first | exact kd_tf (by rw [wi_ix (n := 101) rfl]; exact hv) c29 | exact kd_ft (by rw [wi_ix (n := 101) rfl]; exact hv) c29 | exact absurd (by rw [wi_ix (n := 101) rfl]; exact hv) c29 | exact absurd c29 (by rw [wi_ix (n := 101) rfl]; exact hv))
  refine ss_aload_n dX8_add_36 0 rfl ?_
  refine ss_get (i := 105) dX8_add_37 flX8_13 (by omega) (sh_r105 _ _) rfl ?_
  refine ss_iload_n dX8_add_40 1 rfl ?_
  refine ss_zald (i := 107) dX8_add_41 (by omega) (sh_r107) (by omega) (by decide) ?_
  rw [hh]
  refine sy_if_ne 50 dX8_add_42 (by decide) (fun c42 => ?_) (fun c42 => by first | exact kd_tf (rfl) c42 | exact kd_ft (rfl) c42 | exact absurd (rfl) c42 | exact absurd c42 (rfl))
  refine ss_sipush (v := -1003) dX8_add_50 (by decide) ?_
  exact ss_iret dX8_add_53 rfl rfl (hQ)
set_option maxHeartbeats 1000000 in
set_option maxRecDepth 100000 in
theorem r_add_n2 {c : cx} {d : Nat} {X : nX} {Y : nY} {n : Nat} (hn : n ≤ 10) (h6 : X 105 0 = nI n) {m : Nat} (hm : m ≤ 12) (h7 : X 105 1 = nI m) {j : Nat} (hjm : j < m) {p : Nat} (hpm : p < m) {v : Int32} (hv : ix v 101 = true) (hh : X 107 j = bI false) (hpj : j ≤ p) : sc c mX8_add (d + 7) [.ref (c_ad c 105), .int (nI j), .int (nI p), .int v] (X) (Y) (some (.int (-1003))) (X) (Y) := by
  intro Q hQ
  show ss c mX8_add (d + 7) Q 0 [(0, .ref (c_ad c 105)), (1, .int (nI j)), (2, .int (nI p)), (3, .int v)] [] (X) (Y)
  have hj : j < 12 := by omega
  have hwj : ix (nI j) m = true := ix_of hjm (by omega)
  have hp : p < 12 := by omega
  have hp9 : ix (nI p) m = true := ix_of hpm (by omega)
  refine ss_aload_n dX8_add_0 0 rfl ?_
  refine ss_iload_n dX8_add_1 1 rfl ?_
  refine ss_callV (As := [_]) (i := 105) dX8_add_2 vlX8_157 clX8_isWorth rfl rfl (by omega) (sh_r105 _ _) rfl (Nat.le_of_ble_eq_true rfl) (Nat.le_of_ble_eq_true rfl) (m_isWorth hm h7) ?_
  refine sy_if_eq 16 dX8_add_5 (by decide) (fun c5 => by first | exact kd_tf (hwj) c5 | exact kd_ft (hwj) c5 | exact absurd (hwj) c5 | exact absurd c5 (hwj)) (fun c5 => ?_)
  refine ss_aload_n dX8_add_8 0 rfl ?_
  refine ss_iload_n dX8_add_9 2 rfl ?_
  refine ss_callV (As := [_]) (i := 105) dX8_add_10 vlX8_157 clX8_isWorth rfl rfl (by omega) (sh_r105 _ _) rfl (Nat.le_of_ble_eq_true rfl) (Nat.le_of_ble_eq_true rfl) (m_isWorth hm h7) ?_
  refine sy_if_ne 20 dX8_add_13 (by decide) (fun c13 => ?_) (fun c13 => by first | exact kd_tf (hp9) c13 | exact kd_ft (hp9) c13 | exact absurd (hp9) c13 | exact absurd c13 (hp9))
  refine ss_iload_n dX8_add_20 3 rfl ?_
  refine ss_i2l dX8_add_21 ?_
  refine ss_lconst (v := 0) dX8_add_22 (by decide) ?_
  refine ss_ldc2 dX8_add_23 kcX8_199 ?_
  refine ss_callS (As := [_, _, _]) dX8_add_26 vlX8_89 clX8_within rfl rfl (Nat.le_of_ble_eq_true rfl) (Nat.le_of_ble_eq_true rfl) (m_within) ?_
  refine sy_if_ne 36 dX8_add_29 (by decide) (fun c29 => ?_) (fun c29 => by first | exact kd_tf (by rw [wi_ix (n := 101) rfl]; exact hv) c29 | exact kd_ft (by rw [wi_ix (n := 101) rfl]; exact hv) c29 | exact absurd (by rw [wi_ix (n := 101) rfl]; exact hv) c29 | exact absurd c29 (by rw [wi_ix (n := 101) rfl]; exact hv))
  refine ss_aload_n dX8_add_36 0 rfl ?_
  refine ss_get (i := 105) dX8_add_37 flX8_13 (by omega) (sh_r105 _ _) rfl ?_
  refine ss_iload_n dX8_add_40 1 rfl ?_
  refine ss_zald (i := 107) dX8_add_41 (by omega) (sh_r107) (by omega) (by decide) ?_
  rw [hh]
  refine sy_if_ne 50 dX8_add_42 (by decide) (fun c42 => by first | exact kd_tf (rfl) c42 | exact kd_ft (rfl) c42 | exact absurd (rfl) c42 | exact absurd c42 (rfl)) (fun c42 => ?_)
  refine ss_iload_n dX8_add_45 2 rfl ?_
  refine ss_iload_n dX8_add_46 1 rfl ?_
  refine sz_icmp_lt 54 dX8_add_47 (by decide) (by omega) (by omega) (fun c47 => by omega) (fun c47 => ?_)
  refine ss_sipush (v := -1003) dX8_add_50 (by decide) ?_
  exact ss_iret dX8_add_53 rfl rfl (hQ)
set_option maxHeartbeats 1000000 in
set_option maxRecDepth 100000 in
theorem r_add_c {c : cx} {d : Nat} {X : nX} {Y : nY} {n : Nat} (hn : n ≤ 10) (h6 : X 105 0 = nI n) {m : Nat} (hm : m ≤ 12) (h7 : X 105 1 = nI m) {j : Nat} (hjm : j < m) {p : Nat} (hpm : p < m) {v : Int32} (hv : ix v 101 = true) (hh : X 107 j = bI false) (hpj : p < j) (hkd : ¬ X 106 j = nI 5) : sc c mX8_add (d + 7) [.ref (c_ad c 105), .int (nI j), .int (nI p), .int v] (X) (Y) (some (.int (nI 0))) (up2 X 105 19 (nI 5)) (Y) := by
  intro Q hQ
  show ss c mX8_add (d + 7) Q 0 [(0, .ref (c_ad c 105)), (1, .int (nI j)), (2, .int (nI p)), (3, .int v)] [] (X) (Y)
  have hj : j < 12 := by omega
  have hwj : ix (nI j) m = true := ix_of hjm (by omega)
  have hp : p < 12 := by omega
  have hp9 : ix (nI p) m = true := ix_of hpm (by omega)
  refine ss_aload_n dX8_add_0 0 rfl ?_
  refine ss_iload_n dX8_add_1 1 rfl ?_
  refine ss_callV (As := [_]) (i := 105) dX8_add_2 vlX8_157 clX8_isWorth rfl rfl (by omega) (sh_r105 _ _) rfl (Nat.le_of_ble_eq_true rfl) (Nat.le_of_ble_eq_true rfl) (m_isWorth hm h7) ?_
  refine sy_if_eq 16 dX8_add_5 (by decide) (fun c5 => by first | exact kd_tf (hwj) c5 | exact kd_ft (hwj) c5 | exact absurd (hwj) c5 | exact absurd c5 (hwj)) (fun c5 => ?_)
  refine ss_aload_n dX8_add_8 0 rfl ?_
  refine ss_iload_n dX8_add_9 2 rfl ?_
  refine ss_callV (As := [_]) (i := 105) dX8_add_10 vlX8_157 clX8_isWorth rfl rfl (by omega) (sh_r105 _ _) rfl (Nat.le_of_ble_eq_true rfl) (Nat.le_of_ble_eq_true rfl) (m_isWorth hm h7) ?_
  refine sy_if_ne 20 dX8_add_13 (by decide) (fun c13 => ?_) (fun c13 => by first | exact kd_tf (hp9) c13 | exact kd_ft (hp9) c13 | exact absurd (hp9) c13 | exact absurd c13 (hp9))
  refine ss_iload_n dX8_add_20 3 rfl ?_
  refine ss_i2l dX8_add_21 ?_
  refine ss_lconst (v := 0) dX8_add_22 (by decide) ?_
  refine ss_ldc2 dX8_add_23 kcX8_199 ?_
  refine ss_callS (As := [_, _, _]) dX8_add_26 vlX8_89 clX8_within rfl rfl (Nat.le_of_ble_eq_true rfl) (Nat.le_of_ble_eq_true rfl) (m_within) ?_
  refine sy_if_ne 36 dX8_add_29 (by decide) (fun c29 => ?_) (fun c29 => by first | exact kd_tf (by rw [wi_ix (n := 101) rfl]; exact hv) c29 | exact kd_ft (by rw [wi_ix (n := 101) rfl]; exact hv) c29 | exact absurd (by rw [wi_ix (n := 101) rfl]; exact hv) c29 | exact absurd c29 (by rw [wi_ix (n := 101) rfl]; exact hv))
  refine ss_aload_n dX8_add_36 0 rfl ?_
  refine ss_get (i := 105) dX8_add_37 flX8_13 (by omega) (sh_r105 _ _) rfl ?_
  refine ss_iload_n dX8_add_40 1 rfl ?_
  refine ss_zald (i := 107) dX8_add_41 (by omega) (sh_r107) (by omega) (by decide) ?_
  rw [hh]
  refine sy_if_ne 50 dX8_add_42 (by decide) (fun c42 => by first | exact kd_tf (rfl) c42 | exact kd_ft (rfl) c42 | exact absurd (rfl) c42 | exact absurd c42 (rfl)) (fun c42 => ?_)
  refine ss_iload_n dX8_add_45 2 rfl ?_
  refine ss_iload_n dX8_add_46 1 rfl ?_
  refine sz_icmp_lt 54 dX8_add_47 (by decide) (by omega) (by omega) (fun c47 => ?_) (fun c47 => by omega)
  refine ss_aload_n dX8_add_54 0 rfl ?_
  refine ss_get (i := 105) dX8_add_55 flX8_105 (by omega) (sh_r105 _ _) rfl ?_
  refine ss_istore (lv' := [(4, _), (0, _), (1, _), (2, _), (3, _)]) dX8_add_58 (by decide) rfl ?_
  refine ss_aload_n dX8_add_60 1 rfl ?_
  refine ss_iload_n dX8_add_61 2 rfl ?_
  refine ss_iconst (v := nI 5) dX8_add_62 (by decide) ?_
  refine ss_callV (As := [_, _]) (i := 105) dX8_add_63 vlX8_176 clX8_isOf rfl rfl (by omega) (sh_r105 _ _) rfl (Nat.le_of_ble_eq_true rfl) (Nat.le_of_ble_eq_true rfl) (m_isOf_f hj hkd) ?_
  refine sy_if_ne 71 dX8_add_66 (by decide) (fun c66 => by first | exact kd_tf (rfl) c66 | exact kd_ft (rfl) c66 | exact absurd (rfl) c66 | exact absurd c66 (rfl)) (fun c66 => ?_)
  refine ss_iconst (v := nI 0) dX8_add_69 (by decide) ?_
  exact ss_iret dX8_add_70 rfl rfl (hQ)
set_option maxHeartbeats 1000000 in
set_option maxRecDepth 100000 in
theorem r_add_f {c : cx} {d : Nat} {X : nX} {Y : nY} {n : Nat} (hn : n ≤ 10) (h6 : X 105 0 = nI n) {m : Nat} (hm : m ≤ 12) (h7 : X 105 1 = nI m) {j : Nat} (hjm : j < m) {p : Nat} (hpm : p < m) {v : Int32} (hv : ix v 101 = true) (hh : X 107 j = bI false) (hpj : p < j) (hkd : X 106 j = nI 5) {P : Nat} (hmy : X 109 j = nI P) (hP : P = 4) : sc c mX8_add (d + 7) [.ref (c_ad c 105), .int (nI j), .int (nI p), .int v] (X) (Y) (some (.int (-1004))) (up2 (up2 X 105 19 (nI 0)) 105 19 (X 105 19)) (Y) := by
  intro Q hQ
  show ss c mX8_add (d + 7) Q 0 [(0, .ref (c_ad c 105)), (1, .int (nI j)), (2, .int (nI p)), (3, .int v)] [] (X) (Y)
  have hj : j < 12 := by omega
  have hwj : ix (nI j) m = true := ix_of hjm (by omega)
  have hp : p < 12 := by omega
  have hp9 : ix (nI p) m = true := ix_of hpm (by omega)
  refine ss_aload_n dX8_add_0 0 rfl ?_
  refine ss_iload_n dX8_add_1 1 rfl ?_
  refine ss_callV (As := [_]) (i := 105) dX8_add_2 vlX8_157 clX8_isWorth rfl rfl (by omega) (sh_r105 _ _) rfl (Nat.le_of_ble_eq_true rfl) (Nat.le_of_ble_eq_true rfl) (m_isWorth hm h7) ?_
  refine sy_if_eq 16 dX8_add_5 (by decide) (fun c5 => by first | exact kd_tf (hwj) c5 | exact kd_ft (hwj) c5 | exact absurd (hwj) c5 | exact absurd c5 (hwj)) (fun c5 => ?_)
  refine ss_aload_n dX8_add_8 0 rfl ?_
  refine ss_iload_n dX8_add_9 2 rfl ?_
  refine ss_callV (As := [_]) (i := 105) dX8_add_10 vlX8_157 clX8_isWorth rfl rfl (by omega) (sh_r105 _ _) rfl (Nat.le_of_ble_eq_true rfl) (Nat.le_of_ble_eq_true rfl) (m_isWorth hm h7) ?_
  refine sy_if_ne 20 dX8_add_13 (by decide) (fun c13 => ?_) (fun c13 => by first | exact kd_tf (hp9) c13 | exact kd_ft (hp9) c13 | exact absurd (hp9) c13 | exact absurd c13 (hp9))
  refine ss_iload_n dX8_add_20 3 rfl ?_
  refine ss_i2l dX8_add_21 ?_
  refine ss_lconst (v := 0) dX8_add_22 (by decide) ?_
  refine ss_ldc2 dX8_add_23 kcX8_199 ?_
  refine ss_callS (As := [_, _, _]) dX8_add_26 vlX8_89 clX8_within rfl rfl (Nat.le_of_ble_eq_true rfl) (Nat.le_of_ble_eq_true rfl) (m_within) ?_
  refine sy_if_ne 36 dX8_add_29 (by decide) (fun c29 => ?_) (fun c29 => by first | exact kd_tf (by rw [wi_ix (n := 101) rfl]; exact hv) c29 | exact kd_ft (by rw [wi_ix (n := 101) rfl]; exact hv) c29 | exact absurd (by rw [wi_ix (n := 101) rfl]; exact hv) c29 | exact absurd c29 (by rw [wi_ix (n := 101) rfl]; exact hv))
  refine ss_aload_n dX8_add_36 0 rfl ?_
  refine ss_get (i := 105) dX8_add_37 flX8_13 (by omega) (sh_r105 _ _) rfl ?_
  refine ss_iload_n dX8_add_40 1 rfl ?_
  refine ss_zald (i := 107) dX8_add_41 (by omega) (sh_r107) (by omega) (by decide) ?_
  rw [hh]
  refine sy_if_ne 50 dX8_add_42 (by decide) (fun c42 => by first | exact kd_tf (rfl) c42 | exact kd_ft (rfl) c42 | exact absurd (rfl) c42 | exact absurd c42 (rfl)) (fun c42 => ?_)
  refine ss_iload_n dX8_add_45 2 rfl ?_
  refine ss_iload_n dX8_add_46 1 rfl ?_
  refine sz_icmp_lt 54 dX8_add_47 (by decide) (by omega) (by omega) (fun c47 => ?_) (fun c47 => by omega)
  refine ss_aload_n dX8_add_54 0 rfl ?_
  refine ss_get (i := 105) dX8_add_55 flX8_105 (by omega) (sh_r105 _ _) rfl ?_
  refine ss_istore (lv' := [(4, _), (0, _), (1, _), (2, _), (3, _)]) dX8_add_58 (by decide) rfl ?_
  refine ss_aload_n dX8_add_60 1 rfl ?_
  refine ss_iload_n dX8_add_61 2 rfl ?_
  refine ss_iconst (v := nI 5) dX8_add_62 (by decide) ?_
  refine ss_callV (As := [_, _]) (i := 105) dX8_add_63 vlX8_176 clX8_isOf rfl rfl (by omega) (sh_r105 _ _) rfl (Nat.le_of_ble_eq_true rfl) (Nat.le_of_ble_eq_true rfl) (m_isOf_t hj hkd) ?_
  refine sy_if_ne 71 dX8_add_66 (by decide) (fun c66 => ?_) (fun c66 => by first | exact kd_tf (rfl) c66 | exact kd_ft (rfl) c66 | exact absurd (rfl) c66 | exact absurd c66 (rfl))
  refine ss_aload_n dX8_add_71 1 rfl ?_
  refine ss_get (i := 105) dX8_add_72 flX8_21 (by omega) (sh_r105 _ _) rfl ?_
  refine ss_iload_n dX8_add_75 2 rfl ?_
  refine ss_iald (i := 109) dX8_add_76 (by omega) (sh_r109) (by omega) (by decide) ?_
  rw [up2_at, if_neg (by omega), hmy]
  refine ss_iconst (v := nI 4) dX8_add_77 (by decide) ?_
  refine sz_icmp_ne 91 dX8_add_78 (by decide) (by omega) (by omega) (fun c78 => by omega) (fun c78 => ?_)
  refine ss_aload_n dX8_add_81 1 rfl ?_
  refine ss_sipush (v := -1004) dX8_add_82 (by decide) ?_
  refine ss_iload dX8_add_85 0 rfl ?_
  refine ss_callV (As := [_, _]) (i := 105) dX8_add_87 vlX8_185 clX8_refuse rfl rfl (by omega) (sh_r105 _ _) rfl (Nat.le_of_ble_eq_true rfl) (Nat.le_of_ble_eq_true rfl) (m_refuse) ?_
  exact ss_iret dX8_add_90 rfl rfl (hQ)
set_option maxHeartbeats 1000000 in
set_option maxRecDepth 100000 in
theorem r_add_l {c : cx} {d : Nat} {X : nX} {Y : nY} {n : Nat} (hn : n ≤ 10) (h6 : X 105 0 = nI n) {m : Nat} (hm : m ≤ 12) (h7 : X 105 1 = nI m) {j : Nat} (hjm : j < m) {p : Nat} (hpm : p < m) {v : Int32} (hv : ix v 101 = true) (hh : X 107 j = bI false) (hpj : p < j) (hkd : X 106 j = nI 5) {P : Nat} (hmy : X 109 j = nI P) (hP : P < 4) {g g3 : Bool} {Y1 Y2 Y3 : nY} (hW : sc c mX8_work (d + 5) [.ref (c_ad c 105), .int (nI j)] (x_mo (up2 X 105 19 (nI 0)) j P (nI p) v (nI 0)) Y (some (.int (bI g))) (x_mo (up2 X 105 19 (nI 0)) j P (nI p) v (nI 0)) Y1) (hW2 : sc c mX8_work (d + 6) [.ref (c_ad c 105), .int (nI j)] (x_mo (up2 X 105 19 (nI 0)) j P (nI p) v (nI 0)) Y1 (some (.int (bI false))) (x_mo (up2 X 105 19 (nI 0)) j P (nI p) v (nI 0)) Y2) (hW3 : sc c mX8_work (d + 6) [.ref (c_ad c 105), .int (nI j)] (up2 (x_mo (up2 X 105 19 (nI 0)) j P (nI p) v (nI 0)) 109 j (nI (P + 1 - 1))) Y2 (some (.int (bI g3))) (up2 (x_mo (up2 X 105 19 (nI 0)) j P (nI p) v (nI 0)) 109 j (nI (P + 1 - 1))) Y3) : sc c mX8_add (d + 7) [.ref (c_ad c 105), .int (nI j), .int (nI p), .int v] (X) (Y) (some (.int (-1005))) (up2 (up2 (x_mo (up2 X 105 19 (nI 0)) j P (nI p) v (nI 0)) 109 j (nI (P + 1 - 1))) 105 19 (X 105 19)) (Y3) := by
  intro Q hQ
  show ss c mX8_add (d + 7) Q 0 [(0, .ref (c_ad c 105)), (1, .int (nI j)), (2, .int (nI p)), (3, .int v)] [] (X) (Y)
  have hj : j < 12 := by omega
  have hwj : ix (nI j) m = true := ix_of hjm (by omega)
  have hp : p < 12 := by omega
  have hp9 : ix (nI p) m = true := ix_of hpm (by omega)
  refine ss_aload_n dX8_add_0 0 rfl ?_
  refine ss_iload_n dX8_add_1 1 rfl ?_
  refine ss_callV (As := [_]) (i := 105) dX8_add_2 vlX8_157 clX8_isWorth rfl rfl (by omega) (sh_r105 _ _) rfl (Nat.le_of_ble_eq_true rfl) (Nat.le_of_ble_eq_true rfl) (m_isWorth hm h7) ?_
  refine sy_if_eq 16 dX8_add_5 (by decide) (fun c5 => by first | exact kd_tf (hwj) c5 | exact kd_ft (hwj) c5 | exact absurd (hwj) c5 | exact absurd c5 (hwj)) (fun c5 => ?_)
  refine ss_aload_n dX8_add_8 0 rfl ?_
  refine ss_iload_n dX8_add_9 2 rfl ?_
  refine ss_callV (As := [_]) (i := 105) dX8_add_10 vlX8_157 clX8_isWorth rfl rfl (by omega) (sh_r105 _ _) rfl (Nat.le_of_ble_eq_true rfl) (Nat.le_of_ble_eq_true rfl) (m_isWorth hm h7) ?_
  refine sy_if_ne 20 dX8_add_13 (by decide) (fun c13 => ?_) (fun c13 => by first | exact kd_tf (hp9) c13 | exact kd_ft (hp9) c13 | exact absurd (hp9) c13 | exact absurd c13 (hp9))
  refine ss_iload_n dX8_add_20 3 rfl ?_
  refine ss_i2l dX8_add_21 ?_
  refine ss_lconst (v := 0) dX8_add_22 (by decide) ?_
  refine ss_ldc2 dX8_add_23 kcX8_199 ?_
  refine ss_callS (As := [_, _, _]) dX8_add_26 vlX8_89 clX8_within rfl rfl (Nat.le_of_ble_eq_true rfl) (Nat.le_of_ble_eq_true rfl) (m_within) ?_
  refine sy_if_ne 36 dX8_add_29 (by decide) (fun c29 => ?_) (fun c29 => by first | exact kd_tf (by rw [wi_ix (n := 101) rfl]; exact hv) c29 | exact kd_ft (by rw [wi_ix (n := 101) rfl]; exact hv) c29 | exact absurd (by rw [wi_ix (n := 101) rfl]; exact hv) c29 | exact absurd c29 (by rw [wi_ix (n := 101) rfl]; exact hv))
  refine ss_aload_n dX8_add_36 0 rfl ?_
  refine ss_get (i := 105) dX8_add_37 flX8_13 (by omega) (sh_r105 _ _) rfl ?_
  refine ss_iload_n dX8_add_40 1 rfl ?_
  refine ss_zald (i := 107) dX8_add_41 (by omega) (sh_r107) (by omega) (by decide) ?_
  rw [hh]
  refine sy_if_ne 50 dX8_add_42 (by decide) (fun c42 => by first | exact kd_tf (rfl) c42 | exact kd_ft (rfl) c42 | exact absurd (rfl) c42 | exact absurd c42 (rfl)) (fun c42 => ?_)
  refine ss_iload_n dX8_add_45 2 rfl ?_
  refine ss_iload_n dX8_add_46 1 rfl ?_
  refine sz_icmp_lt 54 dX8_add_47 (by decide) (by omega) (by omega) (fun c47 => ?_) (fun c47 => by omega)
  refine ss_aload_n dX8_add_54 0 rfl ?_
  refine ss_get (i := 105) dX8_add_55 flX8_105 (by omega) (sh_r105 _ _) rfl ?_
  refine ss_istore (lv' := [(4, _), (0, _), (1, _), (2, _), (3, _)]) dX8_add_58 (by decide) rfl ?_
  refine ss_aload_n dX8_add_60 1 rfl ?_
  refine ss_iload_n dX8_add_61 2 rfl ?_
  refine ss_iconst (v := nI 5) dX8_add_62 (by decide) ?_
  refine ss_callV (As := [_, _]) (i := 105) dX8_add_63 vlX8_176 clX8_isOf rfl rfl (by omega) (sh_r105 _ _) rfl (Nat.le_of_ble_eq_true rfl) (Nat.le_of_ble_eq_true rfl) (m_isOf_t hj hkd) ?_
  refine sy_if_ne 71 dX8_add_66 (by decide) (fun c66 => ?_) (fun c66 => by first | exact kd_tf (rfl) c66 | exact kd_ft (rfl) c66 | exact absurd (rfl) c66 | exact absurd c66 (rfl))
  refine ss_aload_n dX8_add_71 1 rfl ?_
  refine ss_get (i := 105) dX8_add_72 flX8_21 (by omega) (sh_r105 _ _) rfl ?_
  refine ss_iload_n dX8_add_75 2 rfl ?_
  refine ss_iald (i := 109) dX8_add_76 (by omega) (sh_r109) (by omega) (by decide) ?_
  rw [up2_at, if_neg (by omega), hmy]
  refine ss_iconst (v := nI 4) dX8_add_77 (by decide) ?_
  refine sz_icmp_ne 91 dX8_add_78 (by decide) (by omega) (by omega) (fun c78 => ?_) (fun c78 => by omega)
  refine ss_aload_n dX8_add_91 1 rfl ?_
  refine ss_iload_n dX8_add_92 2 rfl ?_
  refine ss_iload_n dX8_add_93 3 rfl ?_
  refine ss_iload_n dX8_add_94 4 rfl ?_
  refine ss_iconst (v := nI 0) dX8_add_95 (by decide) ?_
  refine ss_callV (As := [_, _, _, _]) (i := 105) dX8_add_96 vlX8_189 clX8_more rfl rfl (by omega) (sh_r105 _ _) rfl (Nat.le_of_ble_eq_true rfl) (Nat.le_of_ble_eq_true rfl) (m_more hj (by omega) (by rw [up2_at, if_neg (by omega)]; exact hmy) hW) ?_
  refine ss_istore (lv' := [(5, _), (4, _), (0, _), (1, _), (2, _), (3, _)]) dX8_add_99 (by decide) rfl ?_
  refine ss_aload_n dX8_add_101 2 rfl ?_
  refine ss_iload_n dX8_add_102 3 rfl ?_
  refine ss_callV (As := [_]) (i := 105) dX8_add_103 vlX8_163 clX8_work rfl rfl (by omega) (sh_r105 _ _) rfl (Nat.le_of_ble_eq_true rfl) (Nat.le_of_ble_eq_true rfl) (hW2) ?_
  refine sy_if_ne 136 dX8_add_106 (by decide) (fun c106 => by first | exact kd_tf (rfl) c106 | exact kd_ft (rfl) c106 | exact absurd (rfl) c106 | exact absurd c106 (rfl)) (fun c106 => ?_)
  refine ss_aload_n dX8_add_109 2 rfl ?_
  refine ss_get (i := 105) dX8_add_110 flX8_21 (by omega) (sh_r105 _ _) rfl ?_
  refine ss_iload_n dX8_add_113 3 rfl ?_
  refine ss_dup2 dX8_add_114 rfl rfl ?_
  refine ss_iald (i := 109) dX8_add_115 (by omega) (sh_r109) (by omega) (by decide) ?_
  rw [show x_mo (up2 X 105 19 (nI 0)) j P (nI p) v (nI 0) 109 j = nI (P + 1) from by unfold x_mo; rw [up2_at, if_pos ⟨rfl, rfl⟩]]
  refine ss_iconst (v := nI 1) dX8_add_116 (by decide) ?_
  refine sz_isub dX8_add_117 (by omega) ?_
  refine ss_iast (i := 109) dX8_add_118 (by omega) (sh_r109) (by omega) (by decide) ?_
  refine ss_aload_n dX8_add_119 2 rfl ?_
  refine ss_iload_n dX8_add_120 3 rfl ?_
  refine ss_callV (As := [_]) (i := 105) dX8_add_121 vlX8_163 clX8_work rfl rfl (by omega) (sh_r105 _ _) rfl (Nat.le_of_ble_eq_true rfl) (Nat.le_of_ble_eq_true rfl) (hW3) ?_
  refine ss_istore (lv' := [(6, _), (5, _), (4, _), (0, _), (1, _), (2, _), (3, _)]) dX8_add_124 (by decide) rfl ?_
  refine ss_aload_n dX8_add_126 3 rfl ?_
  refine ss_sipush (v := -1005) dX8_add_127 (by decide) ?_
  refine ss_iload dX8_add_130 2 rfl ?_
  refine ss_callV (As := [_, _]) (i := 105) dX8_add_132 vlX8_185 clX8_refuse rfl rfl (by omega) (sh_r105 _ _) rfl (Nat.le_of_ble_eq_true rfl) (Nat.le_of_ble_eq_true rfl) (m_refuse) ?_
  exact ss_iret dX8_add_135 rfl rfl (hQ)
set_option maxHeartbeats 1000000 in
set_option maxRecDepth 100000 in
theorem r_add_k {c : cx} {d : Nat} {X : nX} {Y : nY} {n : Nat} (hn : n ≤ 10) (h6 : X 105 0 = nI n) {m : Nat} (hm : m ≤ 12) (h7 : X 105 1 = nI m) {j : Nat} (hjm : j < m) {p : Nat} (hpm : p < m) {v : Int32} (hv : ix v 101 = true) (hh : X 107 j = bI false) (hpj : p < j) (hkd : X 106 j = nI 5) {P : Nat} (hmy : X 109 j = nI P) (hP : P < 4) {g : Bool} {Y1 Y2 : nY} (hW : sc c mX8_work (d + 5) [.ref (c_ad c 105), .int (nI j)] (x_mo (up2 X 105 19 (nI 0)) j P (nI p) v (nI 0)) Y (some (.int (bI g))) (x_mo (up2 X 105 19 (nI 0)) j P (nI p) v (nI 0)) Y1) (hW2 : sc c mX8_work (d + 6) [.ref (c_ad c 105), .int (nI j)] (x_mo (up2 X 105 19 (nI 0)) j P (nI p) v (nI 0)) Y1 (some (.int (bI true))) (x_mo (up2 X 105 19 (nI 0)) j P (nI p) v (nI 0)) Y2) : sc c mX8_add (d + 7) [.ref (c_ad c 105), .int (nI j), .int (nI p), .int v] (X) (Y) (some (.int (nI (P + 1)))) (up2 (x_mo (up2 X 105 19 (nI 0)) j P (nI p) v (nI 0)) 107 p (nI 1)) (Y2) := by
  intro Q hQ
  show ss c mX8_add (d + 7) Q 0 [(0, .ref (c_ad c 105)), (1, .int (nI j)), (2, .int (nI p)), (3, .int v)] [] (X) (Y)
  have hj : j < 12 := by omega
  have hwj : ix (nI j) m = true := ix_of hjm (by omega)
  have hp : p < 12 := by omega
  have hp9 : ix (nI p) m = true := ix_of hpm (by omega)
  refine ss_aload_n dX8_add_0 0 rfl ?_
  refine ss_iload_n dX8_add_1 1 rfl ?_
  refine ss_callV (As := [_]) (i := 105) dX8_add_2 vlX8_157 clX8_isWorth rfl rfl (by omega) (sh_r105 _ _) rfl (Nat.le_of_ble_eq_true rfl) (Nat.le_of_ble_eq_true rfl) (m_isWorth hm h7) ?_
  refine sy_if_eq 16 dX8_add_5 (by decide) (fun c5 => by first | exact kd_tf (hwj) c5 | exact kd_ft (hwj) c5 | exact absurd (hwj) c5 | exact absurd c5 (hwj)) (fun c5 => ?_)
  refine ss_aload_n dX8_add_8 0 rfl ?_
  refine ss_iload_n dX8_add_9 2 rfl ?_
  refine ss_callV (As := [_]) (i := 105) dX8_add_10 vlX8_157 clX8_isWorth rfl rfl (by omega) (sh_r105 _ _) rfl (Nat.le_of_ble_eq_true rfl) (Nat.le_of_ble_eq_true rfl) (m_isWorth hm h7) ?_
  refine sy_if_ne 20 dX8_add_13 (by decide) (fun c13 => ?_) (fun c13 => by first | exact kd_tf (hp9) c13 | exact kd_ft (hp9) c13 | exact absurd (hp9) c13 | exact absurd c13 (hp9))
  refine ss_iload_n dX8_add_20 3 rfl ?_
  refine ss_i2l dX8_add_21 ?_
  refine ss_lconst (v := 0) dX8_add_22 (by decide) ?_
  refine ss_ldc2 dX8_add_23 kcX8_199 ?_
  refine ss_callS (As := [_, _, _]) dX8_add_26 vlX8_89 clX8_within rfl rfl (Nat.le_of_ble_eq_true rfl) (Nat.le_of_ble_eq_true rfl) (m_within) ?_
  refine sy_if_ne 36 dX8_add_29 (by decide) (fun c29 => ?_) (fun c29 => by first | exact kd_tf (by rw [wi_ix (n := 101) rfl]; exact hv) c29 | exact kd_ft (by rw [wi_ix (n := 101) rfl]; exact hv) c29 | exact absurd (by rw [wi_ix (n := 101) rfl]; exact hv) c29 | exact absurd c29 (by rw [wi_ix (n := 101) rfl]; exact hv))
  refine ss_aload_n dX8_add_36 0 rfl ?_
  refine ss_get (i := 105) dX8_add_37 flX8_13 (by omega) (sh_r105 _ _) rfl ?_
  refine ss_iload_n dX8_add_40 1 rfl ?_
  refine ss_zald (i := 107) dX8_add_41 (by omega) (sh_r107) (by omega) (by decide) ?_
  rw [hh]
  refine sy_if_ne 50 dX8_add_42 (by decide) (fun c42 => by first | exact kd_tf (rfl) c42 | exact kd_ft (rfl) c42 | exact absurd (rfl) c42 | exact absurd c42 (rfl)) (fun c42 => ?_)
  refine ss_iload_n dX8_add_45 2 rfl ?_
  refine ss_iload_n dX8_add_46 1 rfl ?_
  refine sz_icmp_lt 54 dX8_add_47 (by decide) (by omega) (by omega) (fun c47 => ?_) (fun c47 => by omega)
  refine ss_aload_n dX8_add_54 0 rfl ?_
  refine ss_get (i := 105) dX8_add_55 flX8_105 (by omega) (sh_r105 _ _) rfl ?_
  refine ss_istore (lv' := [(4, _), (0, _), (1, _), (2, _), (3, _)]) dX8_add_58 (by decide) rfl ?_
  refine ss_aload_n dX8_add_60 1 rfl ?_
  refine ss_iload_n dX8_add_61 2 rfl ?_
  refine ss_iconst (v := nI 5) dX8_add_62 (by decide) ?_
  refine ss_callV (As := [_, _]) (i := 105) dX8_add_63 vlX8_176 clX8_isOf rfl rfl (by omega) (sh_r105 _ _) rfl (Nat.le_of_ble_eq_true rfl) (Nat.le_of_ble_eq_true rfl) (m_isOf_t hj hkd) ?_
  refine sy_if_ne 71 dX8_add_66 (by decide) (fun c66 => ?_) (fun c66 => by first | exact kd_tf (rfl) c66 | exact kd_ft (rfl) c66 | exact absurd (rfl) c66 | exact absurd c66 (rfl))
  refine ss_aload_n dX8_add_71 1 rfl ?_
  refine ss_get (i := 105) dX8_add_72 flX8_21 (by omega) (sh_r105 _ _) rfl ?_
  refine ss_iload_n dX8_add_75 2 rfl ?_
  refine ss_iald (i := 109) dX8_add_76 (by omega) (sh_r109) (by omega) (by decide) ?_
  rw [up2_at, if_neg (by omega), hmy]
  refine ss_iconst (v := nI 4) dX8_add_77 (by decide) ?_
  refine sz_icmp_ne 91 dX8_add_78 (by decide) (by omega) (by omega) (fun c78 => ?_) (fun c78 => by omega)
  refine ss_aload_n dX8_add_91 1 rfl ?_
  refine ss_iload_n dX8_add_92 2 rfl ?_
  refine ss_iload_n dX8_add_93 3 rfl ?_
  refine ss_iload_n dX8_add_94 4 rfl ?_
  refine ss_iconst (v := nI 0) dX8_add_95 (by decide) ?_
  refine ss_callV (As := [_, _, _, _]) (i := 105) dX8_add_96 vlX8_189 clX8_more rfl rfl (by omega) (sh_r105 _ _) rfl (Nat.le_of_ble_eq_true rfl) (Nat.le_of_ble_eq_true rfl) (m_more hj (by omega) (by rw [up2_at, if_neg (by omega)]; exact hmy) hW) ?_
  refine ss_istore (lv' := [(5, _), (4, _), (0, _), (1, _), (2, _), (3, _)]) dX8_add_99 (by decide) rfl ?_
  refine ss_aload_n dX8_add_101 2 rfl ?_
  refine ss_iload_n dX8_add_102 3 rfl ?_
  refine ss_callV (As := [_]) (i := 105) dX8_add_103 vlX8_163 clX8_work rfl rfl (by omega) (sh_r105 _ _) rfl (Nat.le_of_ble_eq_true rfl) (Nat.le_of_ble_eq_true rfl) (hW2) ?_
  refine sy_if_ne 136 dX8_add_106 (by decide) (fun c106 => ?_) (fun c106 => by first | exact kd_tf (rfl) c106 | exact kd_ft (rfl) c106 | exact absurd (rfl) c106 | exact absurd c106 (rfl))
  refine ss_aload_n dX8_add_136 2 rfl ?_
  refine ss_get (i := 105) dX8_add_137 flX8_13 (by omega) (sh_r105 _ _) rfl ?_
  refine ss_iload_n dX8_add_140 4 rfl ?_
  refine ss_iconst (v := nI 1) dX8_add_141 (by decide) ?_
  refine ss_zast (i := 107) dX8_add_142 (by omega) (sh_r107) (by omega) (by decide) rfl ?_
  refine ss_iload dX8_add_143 0 rfl ?_
  exact ss_iret dX8_add_145 rfl rfl (hQ)
set_option maxHeartbeats 1000000 in
set_option maxRecDepth 100000 in
theorem r_price_u {c : cx} {d : Nat} {X : nX} {Y : nY} {n : Nat} (hn : n ≤ 10) (h6 : X 105 0 = nI n) {m : Nat} (hm : m ≤ 12) (h7 : X 105 1 = nI m) {w t v : Int32} (hu : ix w m = false ∨ ix t n = false) : sc c mX8_price (d + 6) [.ref (c_ad c 105), .int w, .int t, .int v] (X) (Y) (some (.int (-1001))) (X) (Y) := by
  intro Q hQ
  show ss c mX8_price (d + 6) Q 0 [(0, .ref (c_ad c 105)), (1, .int w), (2, .int t), (3, .int v)] [] (X) (Y)
  refine ss_aload_n dX8_price_0 0 rfl ?_
  refine ss_iload_n dX8_price_1 1 rfl ?_
  refine ss_callV (As := [_]) (i := 105) dX8_price_2 vlX8_157 clX8_isWorth rfl rfl (by omega) (sh_r105 _ _) rfl (Nat.le_of_ble_eq_true rfl) (Nat.le_of_ble_eq_true rfl) (m_isWorth hm h7) ?_
  refine sy_if_eq 16 dX8_price_5 (by decide) (fun c5 => ?_) (fun c5 => ?_)
  · skip
    refine ss_sipush (v := -1001) dX8_price_16 (by decide) ?_
    exact ss_iret dX8_price_19 rfl rfl (hQ)
  · skip
    refine ss_aload_n dX8_price_8 0 rfl ?_
    refine ss_iload_n dX8_price_9 2 rfl ?_
    refine ss_callV (As := [_]) (i := 105) dX8_price_10 vlX8_180 clX8_isThing rfl rfl (by omega) (sh_r105 _ _) rfl (Nat.le_of_ble_eq_true rfl) (Nat.le_of_ble_eq_true rfl) (m_isThing hn h6) ?_
    refine sy_if_ne 20 dX8_price_13 (by decide) (fun c13 => by rcases hu with h8 | h8; exact kd_tf c5 h8; exact kd_tf c13 h8) (fun c13 => ?_)
    refine ss_sipush (v := -1001) dX8_price_16 (by decide) ?_
    exact ss_iret dX8_price_19 rfl rfl (hQ)
set_option maxHeartbeats 1000000 in
set_option maxRecDepth 100000 in
theorem r_price_o {c : cx} {d : Nat} {X : nX} {Y : nY} {n : Nat} (hn : n ≤ 10) (h6 : X 105 0 = nI n) {m : Nat} (hm : m ≤ 12) (h7 : X 105 1 = nI m) {j : Nat} (hjm : j < m) {t : Nat} (ht : t < n) {v : Int32} (hv : wi v.toInt64 (-100000) 100000 = false) : sc c mX8_price (d + 6) [.ref (c_ad c 105), .int (nI j), .int (nI t), .int v] (X) (Y) (some (.int (-1002))) (X) (Y) := by
  intro Q hQ
  show ss c mX8_price (d + 6) Q 0 [(0, .ref (c_ad c 105)), (1, .int (nI j)), (2, .int (nI t)), (3, .int v)] [] (X) (Y)
  have hj : j < 12 := by omega
  have hwj : ix (nI j) m = true := ix_of hjm (by omega)
  have ht9 : ix (nI t) n = true := ix_of ht (by omega)
  refine ss_aload_n dX8_price_0 0 rfl ?_
  refine ss_iload_n dX8_price_1 1 rfl ?_
  refine ss_callV (As := [_]) (i := 105) dX8_price_2 vlX8_157 clX8_isWorth rfl rfl (by omega) (sh_r105 _ _) rfl (Nat.le_of_ble_eq_true rfl) (Nat.le_of_ble_eq_true rfl) (m_isWorth hm h7) ?_
  refine sy_if_eq 16 dX8_price_5 (by decide) (fun c5 => by first | exact kd_tf (hwj) c5 | exact kd_ft (hwj) c5 | exact absurd (hwj) c5 | exact absurd c5 (hwj)) (fun c5 => ?_)
  refine ss_aload_n dX8_price_8 0 rfl ?_
  refine ss_iload_n dX8_price_9 2 rfl ?_
  refine ss_callV (As := [_]) (i := 105) dX8_price_10 vlX8_180 clX8_isThing rfl rfl (by omega) (sh_r105 _ _) rfl (Nat.le_of_ble_eq_true rfl) (Nat.le_of_ble_eq_true rfl) (m_isThing hn h6) ?_
  refine sy_if_ne 20 dX8_price_13 (by decide) (fun c13 => ?_) (fun c13 => by first | exact kd_tf (ht9) c13 | exact kd_ft (ht9) c13 | exact absurd (ht9) c13 | exact absurd c13 (ht9))
  refine ss_iload_n dX8_price_20 3 rfl ?_
  refine ss_i2l dX8_price_21 ?_
  refine ss_ldc2 dX8_price_22 kcX8_201 ?_
  refine ss_ldc2 dX8_price_25 kcX8_203 ?_
  refine ss_callS (As := [_, _, _]) dX8_price_28 vlX8_89 clX8_within rfl rfl (Nat.le_of_ble_eq_true rfl) (Nat.le_of_ble_eq_true rfl) (m_within) ?_
  refine sy_if_ne 38 dX8_price_31 (by decide) (fun c31 => by first | exact kd_tf (hv) c31 | exact kd_ft (hv) c31 | exact absurd (hv) c31 | exact absurd c31 (hv)) (fun c31 => ?_)
  refine ss_sipush (v := -1002) dX8_price_34 (by decide) ?_
  exact ss_iret dX8_price_37 rfl rfl (hQ)
set_option maxHeartbeats 1000000 in
set_option maxRecDepth 100000 in
theorem r_price_n {c : cx} {d : Nat} {X : nX} {Y : nY} {n : Nat} (hn : n ≤ 10) (h6 : X 105 0 = nI n) {m : Nat} (hm : m ≤ 12) (h7 : X 105 1 = nI m) {j : Nat} (hjm : j < m) {t : Nat} (ht : t < n) {v : Int32} (hv : wi v.toInt64 (-100000) 100000 = true) (hh : X 107 j = bI true) : sc c mX8_price (d + 6) [.ref (c_ad c 105), .int (nI j), .int (nI t), .int v] (X) (Y) (some (.int (-1003))) (X) (Y) := by
  intro Q hQ
  show ss c mX8_price (d + 6) Q 0 [(0, .ref (c_ad c 105)), (1, .int (nI j)), (2, .int (nI t)), (3, .int v)] [] (X) (Y)
  have hj : j < 12 := by omega
  have hwj : ix (nI j) m = true := ix_of hjm (by omega)
  have ht9 : ix (nI t) n = true := ix_of ht (by omega)
  refine ss_aload_n dX8_price_0 0 rfl ?_
  refine ss_iload_n dX8_price_1 1 rfl ?_
  refine ss_callV (As := [_]) (i := 105) dX8_price_2 vlX8_157 clX8_isWorth rfl rfl (by omega) (sh_r105 _ _) rfl (Nat.le_of_ble_eq_true rfl) (Nat.le_of_ble_eq_true rfl) (m_isWorth hm h7) ?_
  refine sy_if_eq 16 dX8_price_5 (by decide) (fun c5 => by first | exact kd_tf (hwj) c5 | exact kd_ft (hwj) c5 | exact absurd (hwj) c5 | exact absurd c5 (hwj)) (fun c5 => ?_)
  refine ss_aload_n dX8_price_8 0 rfl ?_
  refine ss_iload_n dX8_price_9 2 rfl ?_
  refine ss_callV (As := [_]) (i := 105) dX8_price_10 vlX8_180 clX8_isThing rfl rfl (by omega) (sh_r105 _ _) rfl (Nat.le_of_ble_eq_true rfl) (Nat.le_of_ble_eq_true rfl) (m_isThing hn h6) ?_
  refine sy_if_ne 20 dX8_price_13 (by decide) (fun c13 => ?_) (fun c13 => by first | exact kd_tf (ht9) c13 | exact kd_ft (ht9) c13 | exact absurd (ht9) c13 | exact absurd c13 (ht9))
  refine ss_iload_n dX8_price_20 3 rfl ?_
  refine ss_i2l dX8_price_21 ?_
  refine ss_ldc2 dX8_price_22 kcX8_201 ?_
  refine ss_ldc2 dX8_price_25 kcX8_203 ?_
  refine ss_callS (As := [_, _, _]) dX8_price_28 vlX8_89 clX8_within rfl rfl (Nat.le_of_ble_eq_true rfl) (Nat.le_of_ble_eq_true rfl) (m_within) ?_
  refine sy_if_ne 38 dX8_price_31 (by decide) (fun c31 => ?_) (fun c31 => by first | exact kd_tf (hv) c31 | exact kd_ft (hv) c31 | exact absurd (hv) c31 | exact absurd c31 (hv))
  refine ss_aload_n dX8_price_38 0 rfl ?_
  refine ss_get (i := 105) dX8_price_39 flX8_13 (by omega) (sh_r105 _ _) rfl ?_
  refine ss_iload_n dX8_price_42 1 rfl ?_
  refine ss_zald (i := 107) dX8_price_43 (by omega) (sh_r107) (by omega) (by decide) ?_
  rw [hh]
  refine sy_if_eq 51 dX8_price_44 (by decide) (fun c44 => by first | exact kd_tf (rfl) c44 | exact kd_ft (rfl) c44 | exact absurd (rfl) c44 | exact absurd c44 (rfl)) (fun c44 => ?_)
  refine ss_sipush (v := -1003) dX8_price_47 (by decide) ?_
  exact ss_iret dX8_price_50 rfl rfl (hQ)
set_option maxHeartbeats 1000000 in
set_option maxRecDepth 100000 in
theorem r_price_c {c : cx} {d : Nat} {X : nX} {Y : nY} {n : Nat} (hn : n ≤ 10) (h6 : X 105 0 = nI n) {m : Nat} (hm : m ≤ 12) (h7 : X 105 1 = nI m) {j : Nat} (hjm : j < m) {t : Nat} (ht : t < n) {v : Int32} (hv : wi v.toInt64 (-100000) 100000 = true) (hh : X 107 j = bI false) (hkd : ¬ X 106 j = nI 5) : sc c mX8_price (d + 6) [.ref (c_ad c 105), .int (nI j), .int (nI t), .int v] (X) (Y) (some (.int (nI 0))) (up2 X 105 19 (nI 5)) (Y) := by
  intro Q hQ
  show ss c mX8_price (d + 6) Q 0 [(0, .ref (c_ad c 105)), (1, .int (nI j)), (2, .int (nI t)), (3, .int v)] [] (X) (Y)
  have hj : j < 12 := by omega
  have hwj : ix (nI j) m = true := ix_of hjm (by omega)
  have ht9 : ix (nI t) n = true := ix_of ht (by omega)
  refine ss_aload_n dX8_price_0 0 rfl ?_
  refine ss_iload_n dX8_price_1 1 rfl ?_
  refine ss_callV (As := [_]) (i := 105) dX8_price_2 vlX8_157 clX8_isWorth rfl rfl (by omega) (sh_r105 _ _) rfl (Nat.le_of_ble_eq_true rfl) (Nat.le_of_ble_eq_true rfl) (m_isWorth hm h7) ?_
  refine sy_if_eq 16 dX8_price_5 (by decide) (fun c5 => by first | exact kd_tf (hwj) c5 | exact kd_ft (hwj) c5 | exact absurd (hwj) c5 | exact absurd c5 (hwj)) (fun c5 => ?_)
  refine ss_aload_n dX8_price_8 0 rfl ?_
  refine ss_iload_n dX8_price_9 2 rfl ?_
  refine ss_callV (As := [_]) (i := 105) dX8_price_10 vlX8_180 clX8_isThing rfl rfl (by omega) (sh_r105 _ _) rfl (Nat.le_of_ble_eq_true rfl) (Nat.le_of_ble_eq_true rfl) (m_isThing hn h6) ?_
  refine sy_if_ne 20 dX8_price_13 (by decide) (fun c13 => ?_) (fun c13 => by first | exact kd_tf (ht9) c13 | exact kd_ft (ht9) c13 | exact absurd (ht9) c13 | exact absurd c13 (ht9))
  refine ss_iload_n dX8_price_20 3 rfl ?_
  refine ss_i2l dX8_price_21 ?_
  refine ss_ldc2 dX8_price_22 kcX8_201 ?_
  refine ss_ldc2 dX8_price_25 kcX8_203 ?_
  refine ss_callS (As := [_, _, _]) dX8_price_28 vlX8_89 clX8_within rfl rfl (Nat.le_of_ble_eq_true rfl) (Nat.le_of_ble_eq_true rfl) (m_within) ?_
  refine sy_if_ne 38 dX8_price_31 (by decide) (fun c31 => ?_) (fun c31 => by first | exact kd_tf (hv) c31 | exact kd_ft (hv) c31 | exact absurd (hv) c31 | exact absurd c31 (hv))
  refine ss_aload_n dX8_price_38 0 rfl ?_
  refine ss_get (i := 105) dX8_price_39 flX8_13 (by omega) (sh_r105 _ _) rfl ?_
  refine ss_iload_n dX8_price_42 1 rfl ?_
  refine ss_zald (i := 107) dX8_price_43 (by omega) (sh_r107) (by omega) (by decide) ?_
  rw [hh]
  refine sy_if_eq 51 dX8_price_44 (by decide) (fun c44 => ?_) (fun c44 => by first | exact kd_tf (rfl) c44 | exact kd_ft (rfl) c44 | exact absurd (rfl) c44 | exact absurd c44 (rfl))
  refine ss_aload_n dX8_price_51 0 rfl ?_
  refine ss_get (i := 105) dX8_price_52 flX8_105 (by omega) (sh_r105 _ _) rfl ?_
  refine ss_istore (lv' := [(4, _), (0, _), (1, _), (2, _), (3, _)]) dX8_price_55 (by decide) rfl ?_
  refine ss_aload_n dX8_price_57 1 rfl ?_
  refine ss_iload_n dX8_price_58 2 rfl ?_
  refine ss_iconst (v := nI 5) dX8_price_59 (by decide) ?_
  refine ss_callV (As := [_, _]) (i := 105) dX8_price_60 vlX8_176 clX8_isOf rfl rfl (by omega) (sh_r105 _ _) rfl (Nat.le_of_ble_eq_true rfl) (Nat.le_of_ble_eq_true rfl) (m_isOf_f hj hkd) ?_
  refine sy_if_ne 68 dX8_price_63 (by decide) (fun c63 => by first | exact kd_tf (rfl) c63 | exact kd_ft (rfl) c63 | exact absurd (rfl) c63 | exact absurd c63 (rfl)) (fun c63 => ?_)
  refine ss_iconst (v := nI 0) dX8_price_66 (by decide) ?_
  exact ss_iret dX8_price_67 rfl rfl (hQ)
set_option maxHeartbeats 1000000 in
set_option maxRecDepth 100000 in
theorem r_price_l {c : cx} {d : Nat} {X : nX} {Y : nY} {n : Nat} (hn : n ≤ 10) (h6 : X 105 0 = nI n) {m : Nat} (hm : m ≤ 12) (h7 : X 105 1 = nI m) {j : Nat} (hjm : j < m) {t : Nat} (ht : t < n) {v : Int32} (hv : wi v.toInt64 (-100000) 100000 = true) (hh : X 107 j = bI false) (hkd : X 106 j = nI 5) {g2 : Bool} {Y1 Y2 : nY} (hW : sc c mX8_work (d + 5) [.ref (c_ad c 105), .int (nI j)] (up2 (up2 X 105 19 (nI 0)) 114 (10 * j + t) v) Y (some (.int (bI false))) (up2 (up2 X 105 19 (nI 0)) 114 (10 * j + t) v) Y1) (hW2 : sc c mX8_work (d + 5) [.ref (c_ad c 105), .int (nI j)] (up2 (up2 (up2 X 105 19 (nI 0)) 114 (10 * j + t) v) 114 (10 * j + t) (X 114 (10 * j + t))) Y1 (some (.int (bI g2))) (up2 (up2 (up2 X 105 19 (nI 0)) 114 (10 * j + t) v) 114 (10 * j + t) (X 114 (10 * j + t))) Y2) : sc c mX8_price (d + 6) [.ref (c_ad c 105), .int (nI j), .int (nI t), .int v] (X) (Y) (some (.int (-1005))) (up2 (up2 (up2 (up2 X 105 19 (nI 0)) 114 (10 * j + t) v) 114 (10 * j + t) (X 114 (10 * j + t))) 105 19 (X 105 19)) (Y2) := by
  intro Q hQ
  show ss c mX8_price (d + 6) Q 0 [(0, .ref (c_ad c 105)), (1, .int (nI j)), (2, .int (nI t)), (3, .int v)] [] (X) (Y)
  have hj : j < 12 := by omega
  have hwj : ix (nI j) m = true := ix_of hjm (by omega)
  have ht9 : ix (nI t) n = true := ix_of ht (by omega)
  refine ss_aload_n dX8_price_0 0 rfl ?_
  refine ss_iload_n dX8_price_1 1 rfl ?_
  refine ss_callV (As := [_]) (i := 105) dX8_price_2 vlX8_157 clX8_isWorth rfl rfl (by omega) (sh_r105 _ _) rfl (Nat.le_of_ble_eq_true rfl) (Nat.le_of_ble_eq_true rfl) (m_isWorth hm h7) ?_
  refine sy_if_eq 16 dX8_price_5 (by decide) (fun c5 => by first | exact kd_tf (hwj) c5 | exact kd_ft (hwj) c5 | exact absurd (hwj) c5 | exact absurd c5 (hwj)) (fun c5 => ?_)
  refine ss_aload_n dX8_price_8 0 rfl ?_
  refine ss_iload_n dX8_price_9 2 rfl ?_
  refine ss_callV (As := [_]) (i := 105) dX8_price_10 vlX8_180 clX8_isThing rfl rfl (by omega) (sh_r105 _ _) rfl (Nat.le_of_ble_eq_true rfl) (Nat.le_of_ble_eq_true rfl) (m_isThing hn h6) ?_
  refine sy_if_ne 20 dX8_price_13 (by decide) (fun c13 => ?_) (fun c13 => by first | exact kd_tf (ht9) c13 | exact kd_ft (ht9) c13 | exact absurd (ht9) c13 | exact absurd c13 (ht9))
  refine ss_iload_n dX8_price_20 3 rfl ?_
  refine ss_i2l dX8_price_21 ?_
  refine ss_ldc2 dX8_price_22 kcX8_201 ?_
  refine ss_ldc2 dX8_price_25 kcX8_203 ?_
  refine ss_callS (As := [_, _, _]) dX8_price_28 vlX8_89 clX8_within rfl rfl (Nat.le_of_ble_eq_true rfl) (Nat.le_of_ble_eq_true rfl) (m_within) ?_
  refine sy_if_ne 38 dX8_price_31 (by decide) (fun c31 => ?_) (fun c31 => by first | exact kd_tf (hv) c31 | exact kd_ft (hv) c31 | exact absurd (hv) c31 | exact absurd c31 (hv))
  refine ss_aload_n dX8_price_38 0 rfl ?_
  refine ss_get (i := 105) dX8_price_39 flX8_13 (by omega) (sh_r105 _ _) rfl ?_
  refine ss_iload_n dX8_price_42 1 rfl ?_
  refine ss_zald (i := 107) dX8_price_43 (by omega) (sh_r107) (by omega) (by decide) ?_
  rw [hh]
  refine sy_if_eq 51 dX8_price_44 (by decide) (fun c44 => ?_) (fun c44 => by first | exact kd_tf (rfl) c44 | exact kd_ft (rfl) c44 | exact absurd (rfl) c44 | exact absurd c44 (rfl))
  refine ss_aload_n dX8_price_51 0 rfl ?_
  refine ss_get (i := 105) dX8_price_52 flX8_105 (by omega) (sh_r105 _ _) rfl ?_
  refine ss_istore (lv' := [(4, _), (0, _), (1, _), (2, _), (3, _)]) dX8_price_55 (by decide) rfl ?_
  refine ss_aload_n dX8_price_57 1 rfl ?_
  refine ss_iload_n dX8_price_58 2 rfl ?_
  refine ss_iconst (v := nI 5) dX8_price_59 (by decide) ?_
  refine ss_callV (As := [_, _]) (i := 105) dX8_price_60 vlX8_176 clX8_isOf rfl rfl (by omega) (sh_r105 _ _) rfl (Nat.le_of_ble_eq_true rfl) (Nat.le_of_ble_eq_true rfl) (m_isOf_t hj hkd) ?_
  refine sy_if_ne 68 dX8_price_63 (by decide) (fun c63 => ?_) (fun c63 => by first | exact kd_tf (rfl) c63 | exact kd_ft (rfl) c63 | exact absurd (rfl) c63 | exact absurd c63 (rfl))
  refine ss_aload_n dX8_price_68 1 rfl ?_
  refine ss_get (i := 105) dX8_price_69 flX8_36 (by omega) (sh_r105 _ _) rfl ?_
  refine ss_bipush (v := nI 10) dX8_price_72 (by decide) ?_
  refine ss_iload_n dX8_price_74 2 rfl ?_
  refine sz_imul dX8_price_75 ?_
  refine ss_iload_n dX8_price_76 3 rfl ?_
  refine sz_iadd dX8_price_77 ?_
  refine ss_iald (i := 114) dX8_price_78 (by omega) (sh_r114) (by omega) (by decide) ?_
  rw [up2_at, if_neg (by omega)]
  refine ss_istore (lv' := [(5, _), (4, _), (0, _), (1, _), (2, _), (3, _)]) dX8_price_79 (by decide) rfl ?_
  refine ss_aload_n dX8_price_81 2 rfl ?_
  refine ss_get (i := 105) dX8_price_82 flX8_36 (by omega) (sh_r105 _ _) rfl ?_
  refine ss_bipush (v := nI 10) dX8_price_85 (by decide) ?_
  refine ss_iload_n dX8_price_87 3 rfl ?_
  refine sz_imul dX8_price_88 ?_
  refine ss_iload_n dX8_price_89 4 rfl ?_
  refine sz_iadd dX8_price_90 ?_
  refine ss_iload_n dX8_price_91 5 rfl ?_
  refine ss_iast (i := 114) dX8_price_92 (by omega) (sh_r114) (by omega) (by decide) ?_
  refine ss_aload_n dX8_price_93 2 rfl ?_
  refine ss_iload_n dX8_price_94 3 rfl ?_
  refine ss_callV (As := [_]) (i := 105) dX8_price_95 vlX8_163 clX8_work rfl rfl (by omega) (sh_r105 _ _) rfl (Nat.le_of_ble_eq_true rfl) (Nat.le_of_ble_eq_true rfl) (hW) ?_
  refine sy_if_ne 131 dX8_price_98 (by decide) (fun c98 => by first | exact kd_tf (rfl) c98 | exact kd_ft (rfl) c98 | exact absurd (rfl) c98 | exact absurd c98 (rfl)) (fun c98 => ?_)
  refine ss_aload_n dX8_price_101 2 rfl ?_
  refine ss_get (i := 105) dX8_price_102 flX8_36 (by omega) (sh_r105 _ _) rfl ?_
  refine ss_bipush (v := nI 10) dX8_price_105 (by decide) ?_
  refine ss_iload_n dX8_price_107 3 rfl ?_
  refine sz_imul dX8_price_108 ?_
  refine ss_iload_n dX8_price_109 4 rfl ?_
  refine sz_iadd dX8_price_110 ?_
  refine ss_iload dX8_price_111 0 rfl ?_
  refine ss_iast (i := 114) dX8_price_113 (by omega) (sh_r114) (by omega) (by decide) ?_
  refine ss_aload_n dX8_price_114 2 rfl ?_
  refine ss_iload_n dX8_price_115 3 rfl ?_
  refine ss_callV (As := [_]) (i := 105) dX8_price_116 vlX8_163 clX8_work rfl rfl (by omega) (sh_r105 _ _) rfl (Nat.le_of_ble_eq_true rfl) (Nat.le_of_ble_eq_true rfl) (hW2) ?_
  refine ss_istore (lv' := [(6, _), (5, _), (4, _), (0, _), (1, _), (2, _), (3, _)]) dX8_price_119 (by decide) rfl ?_
  refine ss_aload_n dX8_price_121 3 rfl ?_
  refine ss_sipush (v := -1005) dX8_price_122 (by decide) ?_
  refine ss_iload dX8_price_125 2 rfl ?_
  refine ss_callV (As := [_, _]) (i := 105) dX8_price_127 vlX8_185 clX8_refuse rfl rfl (by omega) (sh_r105 _ _) rfl (Nat.le_of_ble_eq_true rfl) (Nat.le_of_ble_eq_true rfl) (m_refuse) ?_
  exact ss_iret dX8_price_130 rfl rfl (hQ)
set_option maxHeartbeats 1000000 in
set_option maxRecDepth 100000 in
theorem r_price_k {c : cx} {d : Nat} {X : nX} {Y : nY} {n : Nat} (hn : n ≤ 10) (h6 : X 105 0 = nI n) {m : Nat} (hm : m ≤ 12) (h7 : X 105 1 = nI m) {j : Nat} (hjm : j < m) {t : Nat} (ht : t < n) {v : Int32} (hv : wi v.toInt64 (-100000) 100000 = true) (hh : X 107 j = bI false) (hkd : X 106 j = nI 5) {Y1 : nY} (hW : sc c mX8_work (d + 5) [.ref (c_ad c 105), .int (nI j)] (up2 (up2 X 105 19 (nI 0)) 114 (10 * j + t) v) Y (some (.int (bI true))) (up2 (up2 X 105 19 (nI 0)) 114 (10 * j + t) v) Y1) : sc c mX8_price (d + 6) [.ref (c_ad c 105), .int (nI j), .int (nI t), .int v] (X) (Y) (some (.int (X 114 (10 * j + t)))) (up2 (up2 X 105 19 (nI 0)) 114 (10 * j + t) v) (Y1) := by
  intro Q hQ
  show ss c mX8_price (d + 6) Q 0 [(0, .ref (c_ad c 105)), (1, .int (nI j)), (2, .int (nI t)), (3, .int v)] [] (X) (Y)
  have hj : j < 12 := by omega
  have hwj : ix (nI j) m = true := ix_of hjm (by omega)
  have ht9 : ix (nI t) n = true := ix_of ht (by omega)
  refine ss_aload_n dX8_price_0 0 rfl ?_
  refine ss_iload_n dX8_price_1 1 rfl ?_
  refine ss_callV (As := [_]) (i := 105) dX8_price_2 vlX8_157 clX8_isWorth rfl rfl (by omega) (sh_r105 _ _) rfl (Nat.le_of_ble_eq_true rfl) (Nat.le_of_ble_eq_true rfl) (m_isWorth hm h7) ?_
  refine sy_if_eq 16 dX8_price_5 (by decide) (fun c5 => by first | exact kd_tf (hwj) c5 | exact kd_ft (hwj) c5 | exact absurd (hwj) c5 | exact absurd c5 (hwj)) (fun c5 => ?_)
  refine ss_aload_n dX8_price_8 0 rfl ?_
  refine ss_iload_n dX8_price_9 2 rfl ?_
  refine ss_callV (As := [_]) (i := 105) dX8_price_10 vlX8_180 clX8_isThing rfl rfl (by omega) (sh_r105 _ _) rfl (Nat.le_of_ble_eq_true rfl) (Nat.le_of_ble_eq_true rfl) (m_isThing hn h6) ?_
  refine sy_if_ne 20 dX8_price_13 (by decide) (fun c13 => ?_) (fun c13 => by first | exact kd_tf (ht9) c13 | exact kd_ft (ht9) c13 | exact absurd (ht9) c13 | exact absurd c13 (ht9))
  refine ss_iload_n dX8_price_20 3 rfl ?_
  refine ss_i2l dX8_price_21 ?_
  refine ss_ldc2 dX8_price_22 kcX8_201 ?_
  refine ss_ldc2 dX8_price_25 kcX8_203 ?_
  refine ss_callS (As := [_, _, _]) dX8_price_28 vlX8_89 clX8_within rfl rfl (Nat.le_of_ble_eq_true rfl) (Nat.le_of_ble_eq_true rfl) (m_within) ?_
  refine sy_if_ne 38 dX8_price_31 (by decide) (fun c31 => ?_) (fun c31 => by first | exact kd_tf (hv) c31 | exact kd_ft (hv) c31 | exact absurd (hv) c31 | exact absurd c31 (hv))
  refine ss_aload_n dX8_price_38 0 rfl ?_
  refine ss_get (i := 105) dX8_price_39 flX8_13 (by omega) (sh_r105 _ _) rfl ?_
  refine ss_iload_n dX8_price_42 1 rfl ?_
  refine ss_zald (i := 107) dX8_price_43 (by omega) (sh_r107) (by omega) (by decide) ?_
  rw [hh]
  refine sy_if_eq 51 dX8_price_44 (by decide) (fun c44 => ?_) (fun c44 => by first | exact kd_tf (rfl) c44 | exact kd_ft (rfl) c44 | exact absurd (rfl) c44 | exact absurd c44 (rfl))
  refine ss_aload_n dX8_price_51 0 rfl ?_
  refine ss_get (i := 105) dX8_price_52 flX8_105 (by omega) (sh_r105 _ _) rfl ?_
  refine ss_istore (lv' := [(4, _), (0, _), (1, _), (2, _), (3, _)]) dX8_price_55 (by decide) rfl ?_
  refine ss_aload_n dX8_price_57 1 rfl ?_
  refine ss_iload_n dX8_price_58 2 rfl ?_
  refine ss_iconst (v := nI 5) dX8_price_59 (by decide) ?_
  refine ss_callV (As := [_, _]) (i := 105) dX8_price_60 vlX8_176 clX8_isOf rfl rfl (by omega) (sh_r105 _ _) rfl (Nat.le_of_ble_eq_true rfl) (Nat.le_of_ble_eq_true rfl) (m_isOf_t hj hkd) ?_
  refine sy_if_ne 68 dX8_price_63 (by decide) (fun c63 => ?_) (fun c63 => by first | exact kd_tf (rfl) c63 | exact kd_ft (rfl) c63 | exact absurd (rfl) c63 | exact absurd c63 (rfl))
  refine ss_aload_n dX8_price_68 1 rfl ?_
  refine ss_get (i := 105) dX8_price_69 flX8_36 (by omega) (sh_r105 _ _) rfl ?_
  refine ss_bipush (v := nI 10) dX8_price_72 (by decide) ?_
  refine ss_iload_n dX8_price_74 2 rfl ?_
  refine sz_imul dX8_price_75 ?_
  refine ss_iload_n dX8_price_76 3 rfl ?_
  refine sz_iadd dX8_price_77 ?_
  refine ss_iald (i := 114) dX8_price_78 (by omega) (sh_r114) (by omega) (by decide) ?_
  rw [up2_at, if_neg (by omega)]
  refine ss_istore (lv' := [(5, _), (4, _), (0, _), (1, _), (2, _), (3, _)]) dX8_price_79 (by decide) rfl ?_
  refine ss_aload_n dX8_price_81 2 rfl ?_
  refine ss_get (i := 105) dX8_price_82 flX8_36 (by omega) (sh_r105 _ _) rfl ?_
  refine ss_bipush (v := nI 10) dX8_price_85 (by decide) ?_
  refine ss_iload_n dX8_price_87 3 rfl ?_
  refine sz_imul dX8_price_88 ?_
  refine ss_iload_n dX8_price_89 4 rfl ?_
  refine sz_iadd dX8_price_90 ?_
  refine ss_iload_n dX8_price_91 5 rfl ?_
  refine ss_iast (i := 114) dX8_price_92 (by omega) (sh_r114) (by omega) (by decide) ?_
  refine ss_aload_n dX8_price_93 2 rfl ?_
  refine ss_iload_n dX8_price_94 3 rfl ?_
  refine ss_callV (As := [_]) (i := 105) dX8_price_95 vlX8_163 clX8_work rfl rfl (by omega) (sh_r105 _ _) rfl (Nat.le_of_ble_eq_true rfl) (Nat.le_of_ble_eq_true rfl) (hW) ?_
  refine sy_if_ne 131 dX8_price_98 (by decide) (fun c98 => ?_) (fun c98 => by first | exact kd_tf (rfl) c98 | exact kd_ft (rfl) c98 | exact absurd (rfl) c98 | exact absurd c98 (rfl))
  refine ss_iload dX8_price_131 0 rfl ?_
  exact ss_iret dX8_price_133 rfl rfl (hQ)
set_option maxHeartbeats 1000000 in
set_option maxRecDepth 100000 in
theorem r_code {c : cx} {d : Nat} {X : nX} {Y : nY}  : sc c mX8_code d [.ref (c_ad c 105)] (X) (Y) (some (.int (X 105 19))) (X) (Y) := by
  intro Q hQ
  show ss c mX8_code d Q 0 [(0, .ref (c_ad c 105))] [] (X) (Y)
  refine ss_aload_n dX8_code_0 0 rfl ?_
  refine ss_get (i := 105) dX8_code_1 flX8_105 (by omega) (sh_r105 _ _) rfl ?_
  exact ss_iret dX8_code_4 rfl rfl (hQ)
