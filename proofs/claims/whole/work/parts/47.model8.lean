set_option maxHeartbeats 1000000 in
set_option maxRecDepth 100000 in
theorem r_read_u {c : cx} {d : Nat} {X : nX} {Y : nY} {m : Nat} (hm : m ≤ 12) (h7 : X 105 1 = nI m) {w s : Int32} (hu : ix w m = false ∨ ix s 4 = false) : sc c mX8_read (d + 3) [.ref (c_ad c 105), .int w, .int s] (X) (Y) (some (.int (-1001))) (X) (Y) := by
  intro Q hQ
  show ss c mX8_read (d + 3) Q 0 [(0, .ref (c_ad c 105)), (1, .int w), (2, .int s)] [] (X) (Y)
  refine ss_aload_n dX8_read_0 0 rfl ?_
  refine ss_iload_n dX8_read_1 1 rfl ?_
  refine ss_callV (As := [_]) (i := 105) dX8_read_2 vlX8_157 clX8_isWorth rfl rfl (by omega) (sh_r105 _ _) rfl (Nat.le_of_ble_eq_true rfl) (Nat.le_of_ble_eq_true rfl) (m_isWorth hm h7) ?_
  refine sy_if_eq 15 dX8_read_5 (by decide) (fun c5 => ?_) (fun c5 => ?_)
  · skip
    refine ss_sipush (v := -1001) dX8_read_15 (by decide) ?_
    exact ss_iret dX8_read_18 rfl rfl (hQ)
  · skip
    refine ss_iload_n dX8_read_8 2 rfl ?_
    refine ss_callS (As := [_]) dX8_read_9 vlX8_99 clX8_isSheet rfl rfl (Nat.le_of_ble_eq_true rfl) (Nat.le_of_ble_eq_true rfl) (m_isSheet) ?_
    refine sy_if_ne 19 dX8_read_12 (by decide) (fun c12 => by rcases hu with h8 | h8; exact kd_tf c5 h8; exact kd_tf c12 h8) (fun c12 => ?_)
    refine ss_sipush (v := -1001) dX8_read_15 (by decide) ?_
    exact ss_iret dX8_read_18 rfl rfl (hQ)
set_option maxHeartbeats 1000000 in
set_option maxRecDepth 100000 in
theorem r_read_n {c : cx} {d : Nat} {X : nX} {Y : nY} {n : Nat} (hn : n ≤ 10) (h6 : X 105 0 = nI n) {m : Nat} (hm : m ≤ 12) (h7 : X 105 1 = nI m) {j : Nat} (hjm : j < m) {s : Nat} (hs : s < 4) (hh : X 107 j = bI true) : sc c mX8_read (d + 3) [.ref (c_ad c 105), .int (nI j), .int (nI s)] (X) (Y) (some (.int (-1003))) (X) (Y) := by
  intro Q hQ
  show ss c mX8_read (d + 3) Q 0 [(0, .ref (c_ad c 105)), (1, .int (nI j)), (2, .int (nI s))] [] (X) (Y)
  have hj : j < 12 := by omega
  have hwj : ix (nI j) m = true := ix_of hjm (by omega)
  have hs9 : ix (nI s) 4 = true := ix_of hs (by decide)
  refine ss_aload_n dX8_read_0 0 rfl ?_
  refine ss_iload_n dX8_read_1 1 rfl ?_
  refine ss_callV (As := [_]) (i := 105) dX8_read_2 vlX8_157 clX8_isWorth rfl rfl (by omega) (sh_r105 _ _) rfl (Nat.le_of_ble_eq_true rfl) (Nat.le_of_ble_eq_true rfl) (m_isWorth hm h7) ?_
  refine sy_if_eq 15 dX8_read_5 (by decide) (fun c5 => by first | exact kd_tf (hwj) c5 | exact kd_ft (hwj) c5 | exact absurd (hwj) c5 | exact absurd c5 (hwj)) (fun c5 => ?_)
  refine ss_iload_n dX8_read_8 2 rfl ?_
  refine ss_callS (As := [_]) dX8_read_9 vlX8_99 clX8_isSheet rfl rfl (Nat.le_of_ble_eq_true rfl) (Nat.le_of_ble_eq_true rfl) (m_isSheet) ?_
  refine sy_if_ne 19 dX8_read_12 (by decide) (fun c12 => ?_) (fun c12 => by first | exact kd_tf (hs9) c12 | exact kd_ft (hs9) c12 | exact absurd (hs9) c12 | exact absurd c12 (hs9))
  refine ss_aload_n dX8_read_19 0 rfl ?_
  refine ss_get (i := 105) dX8_read_20 flX8_13 (by omega) (sh_r105 _ _) rfl ?_
  refine ss_iload_n dX8_read_23 1 rfl ?_
  refine ss_zald (i := 107) dX8_read_24 (by omega) (sh_r107) (by omega) (by decide) ?_
  rw [hh]
  refine sy_if_eq 32 dX8_read_25 (by decide) (fun c25 => by first | exact kd_tf (rfl) c25 | exact kd_ft (rfl) c25 | exact absurd (rfl) c25 | exact absurd c25 (rfl)) (fun c25 => ?_)
  refine ss_sipush (v := -1003) dX8_read_28 (by decide) ?_
  exact ss_iret dX8_read_31 rfl rfl (hQ)
set_option maxHeartbeats 1000000 in
set_option maxRecDepth 100000 in
theorem r_read_c5 {c : cx} {d : Nat} {X : nX} {Y : nY} {n : Nat} (hn : n ≤ 10) (h6 : X 105 0 = nI n) {m : Nat} (hm : m ≤ 12) (h7 : X 105 1 = nI m) {j : Nat} (hjm : j < m) {s : Nat} (hs : s < 4) (hh : X 107 j = bI false) (hkd : ¬ X 106 j = 0) : sc c mX8_read (d + 3) [.ref (c_ad c 105), .int (nI j), .int (nI s)] (X) (Y) (some (.int (nI 0))) (up2 X 105 19 (nI 5)) (Y) := by
  intro Q hQ
  show ss c mX8_read (d + 3) Q 0 [(0, .ref (c_ad c 105)), (1, .int (nI j)), (2, .int (nI s))] [] (X) (Y)
  have hj : j < 12 := by omega
  have hwj : ix (nI j) m = true := ix_of hjm (by omega)
  have hs9 : ix (nI s) 4 = true := ix_of hs (by decide)
  refine ss_aload_n dX8_read_0 0 rfl ?_
  refine ss_iload_n dX8_read_1 1 rfl ?_
  refine ss_callV (As := [_]) (i := 105) dX8_read_2 vlX8_157 clX8_isWorth rfl rfl (by omega) (sh_r105 _ _) rfl (Nat.le_of_ble_eq_true rfl) (Nat.le_of_ble_eq_true rfl) (m_isWorth hm h7) ?_
  refine sy_if_eq 15 dX8_read_5 (by decide) (fun c5 => by first | exact kd_tf (hwj) c5 | exact kd_ft (hwj) c5 | exact absurd (hwj) c5 | exact absurd c5 (hwj)) (fun c5 => ?_)
  refine ss_iload_n dX8_read_8 2 rfl ?_
  refine ss_callS (As := [_]) dX8_read_9 vlX8_99 clX8_isSheet rfl rfl (Nat.le_of_ble_eq_true rfl) (Nat.le_of_ble_eq_true rfl) (m_isSheet) ?_
  refine sy_if_ne 19 dX8_read_12 (by decide) (fun c12 => ?_) (fun c12 => by first | exact kd_tf (hs9) c12 | exact kd_ft (hs9) c12 | exact absurd (hs9) c12 | exact absurd c12 (hs9))
  refine ss_aload_n dX8_read_19 0 rfl ?_
  refine ss_get (i := 105) dX8_read_20 flX8_13 (by omega) (sh_r105 _ _) rfl ?_
  refine ss_iload_n dX8_read_23 1 rfl ?_
  refine ss_zald (i := 107) dX8_read_24 (by omega) (sh_r107) (by omega) (by decide) ?_
  rw [hh]
  refine sy_if_eq 32 dX8_read_25 (by decide) (fun c25 => ?_) (fun c25 => by first | exact kd_tf (rfl) c25 | exact kd_ft (rfl) c25 | exact absurd (rfl) c25 | exact absurd c25 (rfl))
  refine ss_aload_n dX8_read_32 0 rfl ?_
  refine ss_get (i := 105) dX8_read_33 flX8_7 (by omega) (sh_r105 _ _) rfl ?_
  refine ss_iload_n dX8_read_36 1 rfl ?_
  refine ss_iald (i := 106) dX8_read_37 (by omega) (sh_r106) (by omega) (by decide) ?_
  refine ss_if_eq 45 dX8_read_38 (by decide) (fun c38 => by first | exact kd_tf (hkd) c38 | exact kd_ft (hkd) c38 | exact absurd (hkd) c38 | exact absurd c38 (hkd)) (fun c38 => ?_)
  refine ss_iconst (v := 5) dX8_read_41 (by decide) ?_
  refine ss_goto 83 dX8_read_42 (by decide) ?_
  refine ss_istore_n (lv' := [(3, _), (0, _), (1, _), (2, _)]) dX8_read_83 (by decide) rfl ?_
  refine ss_iload_n dX8_read_84 0 rfl ?_
  refine ss_if_le 95 dX8_read_85 (by decide) (fun c85 => by first | exact kd_tf (by decide) c85 | exact kd_ft (by decide) c85 | exact absurd (by decide) c85 | exact absurd c85 (by decide)) (fun c85 => ?_)
  refine ss_aload_n dX8_read_88 1 rfl ?_
  refine ss_iload_n dX8_read_89 0 rfl ?_
  refine ss_put (i := 105) dX8_read_90 fwX8_105 (by omega) (sh_r105 _ _) rfl rfl (Nat.le_of_ble_eq_true rfl) (sh_r105 _ _) ?_
  refine ss_iconst (v := nI 0) dX8_read_93 (by decide) ?_
  exact ss_iret dX8_read_94 rfl rfl (hQ)
set_option maxHeartbeats 1000000 in
set_option maxRecDepth 100000 in
theorem r_read_c1 {c : cx} {d : Nat} {X : nX} {Y : nY} {n : Nat} (hn : n ≤ 10) (h6 : X 105 0 = nI n) {m : Nat} (hm : m ≤ 12) (h7 : X 105 1 = nI m) {j : Nat} (hjm : j < m) {s : Nat} (hs : s < 4) (hh : X 107 j = bI false) (hkd : X 106 j = 0) (ht : X 119 s = -1) : sc c mX8_read (d + 3) [.ref (c_ad c 105), .int (nI j), .int (nI s)] (X) (Y) (some (.int (nI 0))) (up2 X 105 19 (nI 1)) (Y) := by
  intro Q hQ
  show ss c mX8_read (d + 3) Q 0 [(0, .ref (c_ad c 105)), (1, .int (nI j)), (2, .int (nI s))] [] (X) (Y)
  have hj : j < 12 := by omega
  have hwj : ix (nI j) m = true := ix_of hjm (by omega)
  have hs9 : ix (nI s) 4 = true := ix_of hs (by decide)
  refine ss_aload_n dX8_read_0 0 rfl ?_
  refine ss_iload_n dX8_read_1 1 rfl ?_
  refine ss_callV (As := [_]) (i := 105) dX8_read_2 vlX8_157 clX8_isWorth rfl rfl (by omega) (sh_r105 _ _) rfl (Nat.le_of_ble_eq_true rfl) (Nat.le_of_ble_eq_true rfl) (m_isWorth hm h7) ?_
  refine sy_if_eq 15 dX8_read_5 (by decide) (fun c5 => by first | exact kd_tf (hwj) c5 | exact kd_ft (hwj) c5 | exact absurd (hwj) c5 | exact absurd c5 (hwj)) (fun c5 => ?_)
  refine ss_iload_n dX8_read_8 2 rfl ?_
  refine ss_callS (As := [_]) dX8_read_9 vlX8_99 clX8_isSheet rfl rfl (Nat.le_of_ble_eq_true rfl) (Nat.le_of_ble_eq_true rfl) (m_isSheet) ?_
  refine sy_if_ne 19 dX8_read_12 (by decide) (fun c12 => ?_) (fun c12 => by first | exact kd_tf (hs9) c12 | exact kd_ft (hs9) c12 | exact absurd (hs9) c12 | exact absurd c12 (hs9))
  refine ss_aload_n dX8_read_19 0 rfl ?_
  refine ss_get (i := 105) dX8_read_20 flX8_13 (by omega) (sh_r105 _ _) rfl ?_
  refine ss_iload_n dX8_read_23 1 rfl ?_
  refine ss_zald (i := 107) dX8_read_24 (by omega) (sh_r107) (by omega) (by decide) ?_
  rw [hh]
  refine sy_if_eq 32 dX8_read_25 (by decide) (fun c25 => ?_) (fun c25 => by first | exact kd_tf (rfl) c25 | exact kd_ft (rfl) c25 | exact absurd (rfl) c25 | exact absurd c25 (rfl))
  refine ss_aload_n dX8_read_32 0 rfl ?_
  refine ss_get (i := 105) dX8_read_33 flX8_7 (by omega) (sh_r105 _ _) rfl ?_
  refine ss_iload_n dX8_read_36 1 rfl ?_
  refine ss_iald (i := 106) dX8_read_37 (by omega) (sh_r106) (by omega) (by decide) ?_
  refine ss_if_eq 45 dX8_read_38 (by decide) (fun c38 => ?_) (fun c38 => by first | exact kd_tf (hkd) c38 | exact kd_ft (hkd) c38 | exact absurd (hkd) c38 | exact absurd c38 (hkd))
  refine ss_aload_n dX8_read_45 0 rfl ?_
  refine ss_get (i := 105) dX8_read_46 flX8_55 (by omega) (sh_r105 _ _) rfl ?_
  refine ss_iload_n dX8_read_49 2 rfl ?_
  refine ss_iald (i := 119) dX8_read_50 (by omega) (sh_r119) (by omega) (by decide) ?_
  rw [ht]
  refine ss_if_ge 58 dX8_read_51 (by decide) (fun c51 => by first | exact kd_tf (by decide) c51 | exact kd_ft (by decide) c51 | exact absurd (by decide) c51 | exact absurd c51 (by decide)) (fun c51 => ?_)
  refine ss_iconst (v := nI 1) dX8_read_54 (by decide) ?_
  refine ss_goto 83 dX8_read_55 (by decide) ?_
  refine ss_istore_n (lv' := [(3, _), (0, _), (1, _), (2, _)]) dX8_read_83 (by decide) rfl ?_
  refine ss_iload_n dX8_read_84 0 rfl ?_
  refine ss_if_le 95 dX8_read_85 (by decide) (fun c85 => by first | exact kd_tf (by decide) c85 | exact kd_ft (by decide) c85 | exact absurd (by decide) c85 | exact absurd c85 (by decide)) (fun c85 => ?_)
  refine ss_aload_n dX8_read_88 1 rfl ?_
  refine ss_iload_n dX8_read_89 0 rfl ?_
  refine ss_put (i := 105) dX8_read_90 fwX8_105 (by omega) (sh_r105 _ _) rfl rfl (Nat.le_of_ble_eq_true rfl) (sh_r105 _ _) ?_
  refine ss_iconst (v := nI 0) dX8_read_93 (by decide) ?_
  exact ss_iret dX8_read_94 rfl rfl (hQ)
set_option maxHeartbeats 1000000 in
set_option maxRecDepth 100000 in
theorem r_read_c3 {c : cx} {d : Nat} {X : nX} {Y : nY} {n : Nat} (hn : n ≤ 10) (h6 : X 105 0 = nI n) {m : Nat} (hm : m ≤ 12) (h7 : X 105 1 = nI m) {j : Nat} (hjm : j < m) {s : Nat} (hs : s < 4) (hh : X 107 j = bI false) (hkd : X 106 j = 0) {k : Nat} (hk : k ≤ 1100) (ht : X 119 s = nI k) (h1 : 1 < 2 ^ n) (hlk : k < 2 ^ n) : sc c mX8_read (d + 3) [.ref (c_ad c 105), .int (nI j), .int (nI s)] (X) (Y) (some (.int (nI 0))) (up2 X 105 19 (nI 3)) (Y) := by
  intro Q hQ
  show ss c mX8_read (d + 3) Q 0 [(0, .ref (c_ad c 105)), (1, .int (nI j)), (2, .int (nI s))] [] (X) (Y)
  have hj : j < 12 := by omega
  have hwj : ix (nI j) m = true := ix_of hjm (by omega)
  have hs9 : ix (nI s) 4 = true := ix_of hs (by decide)
  refine ss_aload_n dX8_read_0 0 rfl ?_
  refine ss_iload_n dX8_read_1 1 rfl ?_
  refine ss_callV (As := [_]) (i := 105) dX8_read_2 vlX8_157 clX8_isWorth rfl rfl (by omega) (sh_r105 _ _) rfl (Nat.le_of_ble_eq_true rfl) (Nat.le_of_ble_eq_true rfl) (m_isWorth hm h7) ?_
  refine sy_if_eq 15 dX8_read_5 (by decide) (fun c5 => by first | exact kd_tf (hwj) c5 | exact kd_ft (hwj) c5 | exact absurd (hwj) c5 | exact absurd c5 (hwj)) (fun c5 => ?_)
  refine ss_iload_n dX8_read_8 2 rfl ?_
  refine ss_callS (As := [_]) dX8_read_9 vlX8_99 clX8_isSheet rfl rfl (Nat.le_of_ble_eq_true rfl) (Nat.le_of_ble_eq_true rfl) (m_isSheet) ?_
  refine sy_if_ne 19 dX8_read_12 (by decide) (fun c12 => ?_) (fun c12 => by first | exact kd_tf (hs9) c12 | exact kd_ft (hs9) c12 | exact absurd (hs9) c12 | exact absurd c12 (hs9))
  refine ss_aload_n dX8_read_19 0 rfl ?_
  refine ss_get (i := 105) dX8_read_20 flX8_13 (by omega) (sh_r105 _ _) rfl ?_
  refine ss_iload_n dX8_read_23 1 rfl ?_
  refine ss_zald (i := 107) dX8_read_24 (by omega) (sh_r107) (by omega) (by decide) ?_
  rw [hh]
  refine sy_if_eq 32 dX8_read_25 (by decide) (fun c25 => ?_) (fun c25 => by first | exact kd_tf (rfl) c25 | exact kd_ft (rfl) c25 | exact absurd (rfl) c25 | exact absurd c25 (rfl))
  refine ss_aload_n dX8_read_32 0 rfl ?_
  refine ss_get (i := 105) dX8_read_33 flX8_7 (by omega) (sh_r105 _ _) rfl ?_
  refine ss_iload_n dX8_read_36 1 rfl ?_
  refine ss_iald (i := 106) dX8_read_37 (by omega) (sh_r106) (by omega) (by decide) ?_
  refine ss_if_eq 45 dX8_read_38 (by decide) (fun c38 => ?_) (fun c38 => by first | exact kd_tf (hkd) c38 | exact kd_ft (hkd) c38 | exact absurd (hkd) c38 | exact absurd c38 (hkd))
  refine ss_aload_n dX8_read_45 0 rfl ?_
  refine ss_get (i := 105) dX8_read_46 flX8_55 (by omega) (sh_r105 _ _) rfl ?_
  refine ss_iload_n dX8_read_49 2 rfl ?_
  refine ss_iald (i := 119) dX8_read_50 (by omega) (sh_r119) (by omega) (by decide) ?_
  rw [ht]
  refine ss_if_ge 58 dX8_read_51 (by decide) (fun c51 => ?_) (fun c51 => by first | exact kd_tf (nI_pos' (by omega)) c51 | exact kd_ft (nI_pos' (by omega)) c51 | exact absurd (nI_pos' (by omega)) c51 | exact absurd c51 (nI_pos' (by omega)))
  refine ss_aload_n dX8_read_58 0 rfl ?_
  refine ss_callV (As := []) (i := 105) dX8_read_59 vlX8_93 clX8_last rfl rfl (by omega) (sh_r105 _ _) rfl (Nat.le_of_ble_eq_true rfl) (Nat.le_of_ble_eq_true rfl) (m_last hn h6) ?_
  refine ss_if_le 82 dX8_read_62 (by decide) (fun c62 => by first | exact kd_tf (nI_nle (by omega) (by have := p2_le hn; omega)) c62 | exact kd_ft (nI_nle (by omega) (by have := p2_le hn; omega)) c62 | exact absurd (nI_nle (by omega) (by have := p2_le hn; omega)) c62 | exact absurd c62 (nI_nle (by omega) (by have := p2_le hn; omega))) (fun c62 => ?_)
  refine ss_aload_n dX8_read_65 0 rfl ?_
  refine ss_get (i := 105) dX8_read_66 flX8_55 (by omega) (sh_r105 _ _) rfl ?_
  refine ss_iload_n dX8_read_69 2 rfl ?_
  refine ss_iald (i := 119) dX8_read_70 (by omega) (sh_r119) (by omega) (by decide) ?_
  rw [ht]
  refine ss_aload_n dX8_read_71 0 rfl ?_
  refine ss_callV (As := []) (i := 105) dX8_read_72 vlX8_93 clX8_last rfl rfl (by omega) (sh_r105 _ _) rfl (Nat.le_of_ble_eq_true rfl) (Nat.le_of_ble_eq_true rfl) (m_last hn h6) ?_
  refine sz_icmp_gt 82 dX8_read_75 (by decide) (by omega) (by have := p2_le hn; omega) (fun c75 => by omega) (fun c75 => ?_)
  refine ss_iconst (v := nI 3) dX8_read_78 (by decide) ?_
  refine ss_goto 83 dX8_read_79 (by decide) ?_
  refine ss_istore_n (lv' := [(3, _), (0, _), (1, _), (2, _)]) dX8_read_83 (by decide) rfl ?_
  refine ss_iload_n dX8_read_84 0 rfl ?_
  refine ss_if_le 95 dX8_read_85 (by decide) (fun c85 => by first | exact kd_tf (by decide) c85 | exact kd_ft (by decide) c85 | exact absurd (by decide) c85 | exact absurd c85 (by decide)) (fun c85 => ?_)
  refine ss_aload_n dX8_read_88 1 rfl ?_
  refine ss_iload_n dX8_read_89 0 rfl ?_
  refine ss_put (i := 105) dX8_read_90 fwX8_105 (by omega) (sh_r105 _ _) rfl rfl (Nat.le_of_ble_eq_true rfl) (sh_r105 _ _) ?_
  refine ss_iconst (v := nI 0) dX8_read_93 (by decide) ?_
  exact ss_iret dX8_read_94 rfl rfl (hQ)
def p_rd (Y : nY) (s : Nat) : Nat → Bool := fun k => decide (1 ≤ k) && !(wi (Y 121 (1100 * s + k)) (-1000000) 1000000)
set_option maxHeartbeats 1000000 in
set_option maxRecDepth 100000 in
theorem l_read1 {c : cx} {d : Nat} {X : nX} {Y : nY} {Q : Option Value → nX → nY → Prop} {n : Nat} (hn : n ≤ 10) (h6 : X 105 0 = nI n) {S : Nat} (hSn : S = 2 ^ n) {j s : Nat} (hj : j < 12) (hs : s < 4) (hQ : ∀ k9, k9 = S → ss c mX8_read (d + 3) Q 153 [(5, .int (nI k9)), (4, .int (bI (!(lany (p_rd Y s) S)))), (3, .int (nI 0)), (0, .ref (c_ad c 105)), (1, .int (nI j)), (2, .int (nI s))] [] X Y) : ∀ (nn i : Nat), i + nn = S → (1 ≤ i) → ss c mX8_read (d + 3) Q 101 [(5, .int (nI i)), (4, .int (bI (!(lany (p_rd Y s) i)))), (3, .int (nI 0)), (0, .ref (c_ad c 105)), (1, .int (nI j)), (2, .int (nI s))] [] (X) (Y) := by
  have h1n := p2_1 (n := n)
  have h2n := p2_le hn
  intro nn
  induction nn with
  | zero =>
      intro i hin hinv
      simp only [Nat.add_zero] at hin
      subst hin
      refine ss_iload dX8_read_101 0 rfl ?_
      refine ss_aload_n dX8_read_103 3 rfl ?_
      refine ss_callV (As := []) (i := 105) dX8_read_104 vlX8_93 clX8_last rfl rfl (by omega) (sh_r105 _ _) rfl (Nat.le_of_ble_eq_true rfl) (Nat.le_of_ble_eq_true rfl) (m_last hn h6) ?_
      refine sz_icmp_gt 153 dX8_read_107 (by decide) (by omega) (by omega) (fun c107 => ?_) (fun c107 => by omega)
      exact hQ _ rfl
  | succ nn ih =>
      intro i hin hinv
      refine ss_iload dX8_read_101 0 rfl ?_
      refine ss_aload_n dX8_read_103 3 rfl ?_
      refine ss_callV (As := []) (i := 105) dX8_read_104 vlX8_93 clX8_last rfl rfl (by omega) (sh_r105 _ _) rfl (Nat.le_of_ble_eq_true rfl) (Nat.le_of_ble_eq_true rfl) (m_last hn h6) ?_
      refine sz_icmp_gt 153 dX8_read_107 (by decide) (by omega) (by omega) (fun c107 => by omega) (fun c107 => ?_)
      refine ss_iload dX8_read_110 1 rfl ?_
      refine sy_if_eq 144 dX8_read_112 (by decide) (fun c112 => ?_) (fun c112 => ?_)
      · skip
        refine ss_iconst (v := nI 0) dX8_read_144 (by decide) ?_
        refine ss_istore (lv' := [(4, _), (5, _), (3, _), (0, _), (1, _), (2, _)]) dX8_read_145 (by decide) rfl ?_
        refine sz_inc (lv' := [(5, _), (4, _), (3, _), (0, _), (1, _), (2, _)]) dX8_read_147 1 rfl (by decide) rfl ?_
        refine ss_goto 101 dX8_read_150 (by decide) ?_
        have e9 : (!(lany (p_rd Y s) (i + 1))) = false := by rw [lany_s]; simp at c112; rw [c112]; rfl
        have h7 := ih (i + 1) (by omega) (by omega)
        rw [e9] at h7
        exact h7
      · skip
        refine ss_aload_n dX8_read_115 3 rfl ?_
        refine ss_get (i := 105) dX8_read_116 flX8_61 (by omega) (sh_r105 _ _) rfl ?_
        refine ss_sipush (v := nI 1100) dX8_read_119 (by decide) ?_
        refine ss_iload_n dX8_read_122 5 rfl ?_
        refine sz_imul dX8_read_123 ?_
        refine ss_iload dX8_read_124 0 rfl ?_
        refine sz_iadd dX8_read_126 ?_
        refine ss_lald (i := 121) dX8_read_127 (by omega) (sh_r121) (by omega) (by decide) ?_
        refine ss_ldc2 dX8_read_128 kcX8_172 ?_
        refine ss_ldc2 dX8_read_131 kcX8_174 ?_
        refine ss_callS (As := [_, _, _]) dX8_read_134 vlX8_89 clX8_within rfl rfl (Nat.le_of_ble_eq_true rfl) (Nat.le_of_ble_eq_true rfl) (m_within) ?_
        refine sy_if_eq 144 dX8_read_137 (by decide) (fun c137 => ?_) (fun c137 => ?_)
        · skip
          refine ss_iconst (v := nI 0) dX8_read_144 (by decide) ?_
          refine ss_istore (lv' := [(4, _), (5, _), (3, _), (0, _), (1, _), (2, _)]) dX8_read_145 (by decide) rfl ?_
          refine sz_inc (lv' := [(5, _), (4, _), (3, _), (0, _), (1, _), (2, _)]) dX8_read_147 1 rfl (by decide) rfl ?_
          refine ss_goto 101 dX8_read_150 (by decide) ?_
          have e9 : (!(lany (p_rd Y s) (i + 1))) = false := by rw [lany_s, show (p_rd Y s) i = true from by simp [p_rd, c137, hinv]]; simp
          have h7 := ih (i + 1) (by omega) (by omega)
          rw [e9] at h7
          exact h7
        · skip
          refine ss_iconst (v := nI 1) dX8_read_140 (by decide) ?_
          refine ss_goto 145 dX8_read_141 (by decide) ?_
          refine ss_istore (lv' := [(4, _), (5, _), (3, _), (0, _), (1, _), (2, _)]) dX8_read_145 (by decide) rfl ?_
          refine sz_inc (lv' := [(5, _), (4, _), (3, _), (0, _), (1, _), (2, _)]) dX8_read_147 1 rfl (by decide) rfl ?_
          refine ss_goto 101 dX8_read_150 (by decide) ?_
          have e9 : (!(lany (p_rd Y s) (i + 1))) = true := by rw [lany_s, show (p_rd Y s) i = false from by simp [p_rd, c137]]; simpa using c112
          have h7 := ih (i + 1) (by omega) (by omega)
          rw [e9] at h7
          exact h7
set_option maxHeartbeats 1000000 in
set_option maxRecDepth 100000 in
theorem l_read2 {c : cx} {d : Nat} {X : nX} {Y : nY} {Q : Option Value → nX → nY → Prop} {n : Nat} (hn : n ≤ 10) (h6 : X 105 0 = nI n) {S : Nat} (hSn : S = 2 ^ n) {j s : Nat} (hj : j < 12) (hs : s < 4) (hQ : Q (some (.int (nI 1))) (up2 X 105 19 (nI 0)) (mpl Y 108 (1024 * j + 1) (1024 * j + S) (shf (fun k => Y 121 (1100 * s + k)) (1024 * j)))) : ∀ (nn i : Nat), i + nn = S → (1 ≤ i) → ss c mX8_read (d + 3) Q 165 [(5, .int (nI i)), (4, .int (bI true)), (3, .int (nI 0)), (0, .ref (c_ad c 105)), (1, .int (nI j)), (2, .int (nI s))] [] (X) (mpl Y 108 (1024 * j + 1) (1024 * j + i) (shf (fun k => Y 121 (1100 * s + k)) (1024 * j))) := by
  have h1n := p2_1 (n := n)
  have h2n := p2_le hn
  intro nn
  induction nn with
  | zero =>
      intro i hin hinv
      simp only [Nat.add_zero] at hin
      subst hin
      refine ss_iload dX8_read_165 0 rfl ?_
      refine ss_aload_n dX8_read_167 3 rfl ?_
      refine ss_callV (As := []) (i := 105) dX8_read_168 vlX8_93 clX8_last rfl rfl (by omega) (sh_r105 _ _) rfl (Nat.le_of_ble_eq_true rfl) (Nat.le_of_ble_eq_true rfl) (m_last hn h6) ?_
      refine sz_icmp_gt 206 dX8_read_171 (by decide) (by omega) (by omega) (fun c171 => ?_) (fun c171 => by omega)
      refine ss_aload_n dX8_read_206 3 rfl ?_
      refine ss_iconst (v := nI 0) dX8_read_207 (by decide) ?_
      refine ss_put (i := 105) dX8_read_208 fwX8_105 (by omega) (sh_r105 _ _) rfl rfl (Nat.le_of_ble_eq_true rfl) (sh_r105 _ _) ?_
      refine ss_iconst (v := nI 1) dX8_read_211 (by decide) ?_
      exact ss_iret dX8_read_212 rfl rfl (hQ)
  | succ nn ih =>
      intro i hin hinv
      refine ss_iload dX8_read_165 0 rfl ?_
      refine ss_aload_n dX8_read_167 3 rfl ?_
      refine ss_callV (As := []) (i := 105) dX8_read_168 vlX8_93 clX8_last rfl rfl (by omega) (sh_r105 _ _) rfl (Nat.le_of_ble_eq_true rfl) (Nat.le_of_ble_eq_true rfl) (m_last hn h6) ?_
      refine sz_icmp_gt 206 dX8_read_171 (by decide) (by omega) (by omega) (fun c171 => by omega) (fun c171 => ?_)
      refine ss_aload_n dX8_read_174 3 rfl ?_
      refine ss_get (i := 105) dX8_read_175 flX8_17 (by omega) (sh_r105 _ _) rfl ?_
      refine ss_sipush (v := nI 1024) dX8_read_178 (by decide) ?_
      refine ss_iload_n dX8_read_181 4 rfl ?_
      refine sz_imul dX8_read_182 ?_
      refine ss_iload dX8_read_183 0 rfl ?_
      refine sz_iadd dX8_read_185 ?_
      refine ss_aload_n dX8_read_186 3 rfl ?_
      refine ss_get (i := 105) dX8_read_187 flX8_61 (by omega) (sh_r105 _ _) rfl ?_
      refine ss_sipush (v := nI 1100) dX8_read_190 (by decide) ?_
      refine ss_iload_n dX8_read_193 5 rfl ?_
      refine sz_imul dX8_read_194 ?_
      refine ss_iload dX8_read_195 0 rfl ?_
      refine sz_iadd dX8_read_197 ?_
      refine ss_lald (i := 121) dX8_read_198 (by omega) (sh_r121) (by omega) (by decide) ?_
      rw [mpl_ne (by omega)]
      refine ss_last (i := 108) dX8_read_199 (by omega) (sh_r108) (by omega) (by decide) ?_
      refine sz_inc (lv' := [(5, _), (4, _), (3, _), (0, _), (1, _), (2, _)]) dX8_read_200 0 rfl (by decide) rfl ?_
      refine ss_goto 165 dX8_read_203 (by decide) ?_
      refine ss_eY (mpl_s (by omega) (by rw [shf_at])) ?_
      exact ih (i + 1) (by omega) (by omega)
theorem nI_le0 {k : Nat} (h : k = 0) : nI k ≤ 0 := by subst h; decide
set_option maxHeartbeats 1000000 in
set_option maxRecDepth 100000 in
theorem r_read_ba {c : cx} {d : Nat} {X : nX} {Y : nY} {n : Nat} (hn : n ≤ 10) (h6 : X 105 0 = nI n) {m : Nat} (hm : m ≤ 12) (h7 : X 105 1 = nI m) {j : Nat} (hjm : j < m) {s : Nat} (hs : s < 4) (hh : X 107 j = bI false) (hkd : X 106 j = 0) {k : Nat} (hk : k ≤ 1100) (ht : X 119 s = nI k) (h1 : 2 ^ n ≤ 1) (hl : lany (p_rd Y s) (2 ^ n) = true) : sc c mX8_read (d + 3) [.ref (c_ad c 105), .int (nI j), .int (nI s)] (X) (Y) (some (.int (-1003))) (X) (Y) := by
  intro Q hQ
  show ss c mX8_read (d + 3) Q 0 [(0, .ref (c_ad c 105)), (1, .int (nI j)), (2, .int (nI s))] [] (X) (Y)
  have hj : j < 12 := by omega
  have hwj : ix (nI j) m = true := ix_of hjm (by omega)
  have hs9 : ix (nI s) 4 = true := ix_of hs (by decide)
  refine ss_aload_n dX8_read_0 0 rfl ?_
  refine ss_iload_n dX8_read_1 1 rfl ?_
  refine ss_callV (As := [_]) (i := 105) dX8_read_2 vlX8_157 clX8_isWorth rfl rfl (by omega) (sh_r105 _ _) rfl (Nat.le_of_ble_eq_true rfl) (Nat.le_of_ble_eq_true rfl) (m_isWorth hm h7) ?_
  refine sy_if_eq 15 dX8_read_5 (by decide) (fun c5 => by first | exact kd_tf (hwj) c5 | exact kd_ft (hwj) c5 | exact absurd (hwj) c5 | exact absurd c5 (hwj)) (fun c5 => ?_)
  refine ss_iload_n dX8_read_8 2 rfl ?_
  refine ss_callS (As := [_]) dX8_read_9 vlX8_99 clX8_isSheet rfl rfl (Nat.le_of_ble_eq_true rfl) (Nat.le_of_ble_eq_true rfl) (m_isSheet) ?_
  refine sy_if_ne 19 dX8_read_12 (by decide) (fun c12 => ?_) (fun c12 => by first | exact kd_tf (hs9) c12 | exact kd_ft (hs9) c12 | exact absurd (hs9) c12 | exact absurd c12 (hs9))
  refine ss_aload_n dX8_read_19 0 rfl ?_
  refine ss_get (i := 105) dX8_read_20 flX8_13 (by omega) (sh_r105 _ _) rfl ?_
  refine ss_iload_n dX8_read_23 1 rfl ?_
  refine ss_zald (i := 107) dX8_read_24 (by omega) (sh_r107) (by omega) (by decide) ?_
  rw [hh]
  refine sy_if_eq 32 dX8_read_25 (by decide) (fun c25 => ?_) (fun c25 => by first | exact kd_tf (rfl) c25 | exact kd_ft (rfl) c25 | exact absurd (rfl) c25 | exact absurd c25 (rfl))
  refine ss_aload_n dX8_read_32 0 rfl ?_
  refine ss_get (i := 105) dX8_read_33 flX8_7 (by omega) (sh_r105 _ _) rfl ?_
  refine ss_iload_n dX8_read_36 1 rfl ?_
  refine ss_iald (i := 106) dX8_read_37 (by omega) (sh_r106) (by omega) (by decide) ?_
  refine ss_if_eq 45 dX8_read_38 (by decide) (fun c38 => ?_) (fun c38 => by first | exact kd_tf (hkd) c38 | exact kd_ft (hkd) c38 | exact absurd (hkd) c38 | exact absurd c38 (hkd))
  refine ss_aload_n dX8_read_45 0 rfl ?_
  refine ss_get (i := 105) dX8_read_46 flX8_55 (by omega) (sh_r105 _ _) rfl ?_
  refine ss_iload_n dX8_read_49 2 rfl ?_
  refine ss_iald (i := 119) dX8_read_50 (by omega) (sh_r119) (by omega) (by decide) ?_
  rw [ht]
  refine ss_if_ge 58 dX8_read_51 (by decide) (fun c51 => ?_) (fun c51 => by first | exact kd_tf (nI_pos' (by omega)) c51 | exact kd_ft (nI_pos' (by omega)) c51 | exact absurd (nI_pos' (by omega)) c51 | exact absurd c51 (nI_pos' (by omega)))
  refine ss_aload_n dX8_read_58 0 rfl ?_
  refine ss_callV (As := []) (i := 105) dX8_read_59 vlX8_93 clX8_last rfl rfl (by omega) (sh_r105 _ _) rfl (Nat.le_of_ble_eq_true rfl) (Nat.le_of_ble_eq_true rfl) (m_last hn h6) ?_
  refine ss_if_le 82 dX8_read_62 (by decide) (fun c62 => ?_) (fun c62 => by first | exact kd_tf (nI_le0 (by have := p2_1 (n := n); omega)) c62 | exact kd_ft (nI_le0 (by have := p2_1 (n := n); omega)) c62 | exact absurd (nI_le0 (by have := p2_1 (n := n); omega)) c62 | exact absurd c62 (nI_le0 (by have := p2_1 (n := n); omega)))
  refine ss_iconst (v := nI 0) dX8_read_82 (by decide) ?_
  refine ss_istore_n (lv' := [(3, _), (0, _), (1, _), (2, _)]) dX8_read_83 (by decide) rfl ?_
  refine ss_iload_n dX8_read_84 0 rfl ?_
  refine ss_if_le 95 dX8_read_85 (by decide) (fun c85 => ?_) (fun c85 => by first | exact kd_tf (by decide) c85 | exact kd_ft (by decide) c85 | exact absurd (by decide) c85 | exact absurd c85 (by decide))
  refine ss_iconst (v := nI 1) dX8_read_95 (by decide) ?_
  refine ss_istore (lv' := [(4, _), (3, _), (0, _), (1, _), (2, _)]) dX8_read_96 (by decide) rfl ?_
  refine ss_iconst (v := nI 1) dX8_read_98 (by decide) ?_
  refine ss_istore (lv' := [(5, _), (4, _), (3, _), (0, _), (1, _), (2, _)]) dX8_read_99 (by decide) rfl ?_
  refine l_read1 hn h6 rfl hj hs (fun k9 hk9 => ?_) (2 ^ n - 1) 1 (by have := p2_1 (n := n); omega) (Nat.le_refl _)
  rw [hl]
  refine ss_iload dX8_read_153 1 rfl ?_
  refine sy_if_ne 162 dX8_read_155 (by decide) (fun c155 => by first | exact kd_tf (rfl) c155 | exact kd_ft (rfl) c155 | exact absurd (rfl) c155 | exact absurd c155 (rfl)) (fun c155 => ?_)
  refine ss_sipush (v := -1003) dX8_read_158 (by decide) ?_
  exact ss_iret dX8_read_161 rfl rfl (hQ)
set_option maxHeartbeats 1000000 in
set_option maxRecDepth 100000 in
theorem r_read_bb {c : cx} {d : Nat} {X : nX} {Y : nY} {n : Nat} (hn : n ≤ 10) (h6 : X 105 0 = nI n) {m : Nat} (hm : m ≤ 12) (h7 : X 105 1 = nI m) {j : Nat} (hjm : j < m) {s : Nat} (hs : s < 4) (hh : X 107 j = bI false) (hkd : X 106 j = 0) {k : Nat} (hk : k ≤ 1100) (ht : X 119 s = nI k) (h1 : 1 < 2 ^ n) (hlk : 2 ^ n ≤ k) (hl : lany (p_rd Y s) (2 ^ n) = true) : sc c mX8_read (d + 3) [.ref (c_ad c 105), .int (nI j), .int (nI s)] (X) (Y) (some (.int (-1003))) (X) (Y) := by
  intro Q hQ
  show ss c mX8_read (d + 3) Q 0 [(0, .ref (c_ad c 105)), (1, .int (nI j)), (2, .int (nI s))] [] (X) (Y)
  have hj : j < 12 := by omega
  have hwj : ix (nI j) m = true := ix_of hjm (by omega)
  have hs9 : ix (nI s) 4 = true := ix_of hs (by decide)
  refine ss_aload_n dX8_read_0 0 rfl ?_
  refine ss_iload_n dX8_read_1 1 rfl ?_
  refine ss_callV (As := [_]) (i := 105) dX8_read_2 vlX8_157 clX8_isWorth rfl rfl (by omega) (sh_r105 _ _) rfl (Nat.le_of_ble_eq_true rfl) (Nat.le_of_ble_eq_true rfl) (m_isWorth hm h7) ?_
  refine sy_if_eq 15 dX8_read_5 (by decide) (fun c5 => by first | exact kd_tf (hwj) c5 | exact kd_ft (hwj) c5 | exact absurd (hwj) c5 | exact absurd c5 (hwj)) (fun c5 => ?_)
  refine ss_iload_n dX8_read_8 2 rfl ?_
  refine ss_callS (As := [_]) dX8_read_9 vlX8_99 clX8_isSheet rfl rfl (Nat.le_of_ble_eq_true rfl) (Nat.le_of_ble_eq_true rfl) (m_isSheet) ?_
  refine sy_if_ne 19 dX8_read_12 (by decide) (fun c12 => ?_) (fun c12 => by first | exact kd_tf (hs9) c12 | exact kd_ft (hs9) c12 | exact absurd (hs9) c12 | exact absurd c12 (hs9))
  refine ss_aload_n dX8_read_19 0 rfl ?_
  refine ss_get (i := 105) dX8_read_20 flX8_13 (by omega) (sh_r105 _ _) rfl ?_
  refine ss_iload_n dX8_read_23 1 rfl ?_
  refine ss_zald (i := 107) dX8_read_24 (by omega) (sh_r107) (by omega) (by decide) ?_
  rw [hh]
  refine sy_if_eq 32 dX8_read_25 (by decide) (fun c25 => ?_) (fun c25 => by first | exact kd_tf (rfl) c25 | exact kd_ft (rfl) c25 | exact absurd (rfl) c25 | exact absurd c25 (rfl))
  refine ss_aload_n dX8_read_32 0 rfl ?_
  refine ss_get (i := 105) dX8_read_33 flX8_7 (by omega) (sh_r105 _ _) rfl ?_
  refine ss_iload_n dX8_read_36 1 rfl ?_
  refine ss_iald (i := 106) dX8_read_37 (by omega) (sh_r106) (by omega) (by decide) ?_
  refine ss_if_eq 45 dX8_read_38 (by decide) (fun c38 => ?_) (fun c38 => by first | exact kd_tf (hkd) c38 | exact kd_ft (hkd) c38 | exact absurd (hkd) c38 | exact absurd c38 (hkd))
  refine ss_aload_n dX8_read_45 0 rfl ?_
  refine ss_get (i := 105) dX8_read_46 flX8_55 (by omega) (sh_r105 _ _) rfl ?_
  refine ss_iload_n dX8_read_49 2 rfl ?_
  refine ss_iald (i := 119) dX8_read_50 (by omega) (sh_r119) (by omega) (by decide) ?_
  rw [ht]
  refine ss_if_ge 58 dX8_read_51 (by decide) (fun c51 => ?_) (fun c51 => by first | exact kd_tf (nI_pos' (by omega)) c51 | exact kd_ft (nI_pos' (by omega)) c51 | exact absurd (nI_pos' (by omega)) c51 | exact absurd c51 (nI_pos' (by omega)))
  refine ss_aload_n dX8_read_58 0 rfl ?_
  refine ss_callV (As := []) (i := 105) dX8_read_59 vlX8_93 clX8_last rfl rfl (by omega) (sh_r105 _ _) rfl (Nat.le_of_ble_eq_true rfl) (Nat.le_of_ble_eq_true rfl) (m_last hn h6) ?_
  refine ss_if_le 82 dX8_read_62 (by decide) (fun c62 => by first | exact kd_tf (nI_nle (by omega) (by have := p2_le hn; omega)) c62 | exact kd_ft (nI_nle (by omega) (by have := p2_le hn; omega)) c62 | exact absurd (nI_nle (by omega) (by have := p2_le hn; omega)) c62 | exact absurd c62 (nI_nle (by omega) (by have := p2_le hn; omega))) (fun c62 => ?_)
  refine ss_aload_n dX8_read_65 0 rfl ?_
  refine ss_get (i := 105) dX8_read_66 flX8_55 (by omega) (sh_r105 _ _) rfl ?_
  refine ss_iload_n dX8_read_69 2 rfl ?_
  refine ss_iald (i := 119) dX8_read_70 (by omega) (sh_r119) (by omega) (by decide) ?_
  rw [ht]
  refine ss_aload_n dX8_read_71 0 rfl ?_
  refine ss_callV (As := []) (i := 105) dX8_read_72 vlX8_93 clX8_last rfl rfl (by omega) (sh_r105 _ _) rfl (Nat.le_of_ble_eq_true rfl) (Nat.le_of_ble_eq_true rfl) (m_last hn h6) ?_
  refine sz_icmp_gt 82 dX8_read_75 (by decide) (by omega) (by have := p2_le hn; omega) (fun c75 => ?_) (fun c75 => by omega)
  refine ss_iconst (v := nI 0) dX8_read_82 (by decide) ?_
  refine ss_istore_n (lv' := [(3, _), (0, _), (1, _), (2, _)]) dX8_read_83 (by decide) rfl ?_
  refine ss_iload_n dX8_read_84 0 rfl ?_
  refine ss_if_le 95 dX8_read_85 (by decide) (fun c85 => ?_) (fun c85 => by first | exact kd_tf (by decide) c85 | exact kd_ft (by decide) c85 | exact absurd (by decide) c85 | exact absurd c85 (by decide))
  refine ss_iconst (v := nI 1) dX8_read_95 (by decide) ?_
  refine ss_istore (lv' := [(4, _), (3, _), (0, _), (1, _), (2, _)]) dX8_read_96 (by decide) rfl ?_
  refine ss_iconst (v := nI 1) dX8_read_98 (by decide) ?_
  refine ss_istore (lv' := [(5, _), (4, _), (3, _), (0, _), (1, _), (2, _)]) dX8_read_99 (by decide) rfl ?_
  refine l_read1 hn h6 rfl hj hs (fun k9 hk9 => ?_) (2 ^ n - 1) 1 (by have := p2_1 (n := n); omega) (Nat.le_refl _)
  rw [hl]
  refine ss_iload dX8_read_153 1 rfl ?_
  refine sy_if_ne 162 dX8_read_155 (by decide) (fun c155 => by first | exact kd_tf (rfl) c155 | exact kd_ft (rfl) c155 | exact absurd (rfl) c155 | exact absurd c155 (rfl)) (fun c155 => ?_)
  refine ss_sipush (v := -1003) dX8_read_158 (by decide) ?_
  exact ss_iret dX8_read_161 rfl rfl (hQ)
set_option maxHeartbeats 1000000 in
set_option maxRecDepth 100000 in
theorem r_read_ka {c : cx} {d : Nat} {X : nX} {Y : nY} {n : Nat} (hn : n ≤ 10) (h6 : X 105 0 = nI n) {m : Nat} (hm : m ≤ 12) (h7 : X 105 1 = nI m) {j : Nat} (hjm : j < m) {s : Nat} (hs : s < 4) (hh : X 107 j = bI false) (hkd : X 106 j = 0) {k : Nat} (hk : k ≤ 1100) (ht : X 119 s = nI k) (h1 : 2 ^ n ≤ 1) (hl : lany (p_rd Y s) (2 ^ n) = false) : sc c mX8_read (d + 3) [.ref (c_ad c 105), .int (nI j), .int (nI s)] (X) (Y) (some (.int (nI 1))) (up2 X 105 19 (nI 0)) (mpl Y 108 (1024 * j + 1) (1024 * j + 2 ^ n) (shf (fun k => Y 121 (1100 * s + k)) (1024 * j))) := by
  intro Q hQ
  show ss c mX8_read (d + 3) Q 0 [(0, .ref (c_ad c 105)), (1, .int (nI j)), (2, .int (nI s))] [] (X) (Y)
  have hj : j < 12 := by omega
  have hwj : ix (nI j) m = true := ix_of hjm (by omega)
  have hs9 : ix (nI s) 4 = true := ix_of hs (by decide)
  refine ss_aload_n dX8_read_0 0 rfl ?_
  refine ss_iload_n dX8_read_1 1 rfl ?_
  refine ss_callV (As := [_]) (i := 105) dX8_read_2 vlX8_157 clX8_isWorth rfl rfl (by omega) (sh_r105 _ _) rfl (Nat.le_of_ble_eq_true rfl) (Nat.le_of_ble_eq_true rfl) (m_isWorth hm h7) ?_
  refine sy_if_eq 15 dX8_read_5 (by decide) (fun c5 => by first | exact kd_tf (hwj) c5 | exact kd_ft (hwj) c5 | exact absurd (hwj) c5 | exact absurd c5 (hwj)) (fun c5 => ?_)
  refine ss_iload_n dX8_read_8 2 rfl ?_
  refine ss_callS (As := [_]) dX8_read_9 vlX8_99 clX8_isSheet rfl rfl (Nat.le_of_ble_eq_true rfl) (Nat.le_of_ble_eq_true rfl) (m_isSheet) ?_
  refine sy_if_ne 19 dX8_read_12 (by decide) (fun c12 => ?_) (fun c12 => by first | exact kd_tf (hs9) c12 | exact kd_ft (hs9) c12 | exact absurd (hs9) c12 | exact absurd c12 (hs9))
  refine ss_aload_n dX8_read_19 0 rfl ?_
  refine ss_get (i := 105) dX8_read_20 flX8_13 (by omega) (sh_r105 _ _) rfl ?_
  refine ss_iload_n dX8_read_23 1 rfl ?_
  refine ss_zald (i := 107) dX8_read_24 (by omega) (sh_r107) (by omega) (by decide) ?_
  rw [hh]
  refine sy_if_eq 32 dX8_read_25 (by decide) (fun c25 => ?_) (fun c25 => by first | exact kd_tf (rfl) c25 | exact kd_ft (rfl) c25 | exact absurd (rfl) c25 | exact absurd c25 (rfl))
  refine ss_aload_n dX8_read_32 0 rfl ?_
  refine ss_get (i := 105) dX8_read_33 flX8_7 (by omega) (sh_r105 _ _) rfl ?_
  refine ss_iload_n dX8_read_36 1 rfl ?_
  refine ss_iald (i := 106) dX8_read_37 (by omega) (sh_r106) (by omega) (by decide) ?_
  refine ss_if_eq 45 dX8_read_38 (by decide) (fun c38 => ?_) (fun c38 => by first | exact kd_tf (hkd) c38 | exact kd_ft (hkd) c38 | exact absurd (hkd) c38 | exact absurd c38 (hkd))
  refine ss_aload_n dX8_read_45 0 rfl ?_
  refine ss_get (i := 105) dX8_read_46 flX8_55 (by omega) (sh_r105 _ _) rfl ?_
  refine ss_iload_n dX8_read_49 2 rfl ?_
  refine ss_iald (i := 119) dX8_read_50 (by omega) (sh_r119) (by omega) (by decide) ?_
  rw [ht]
  refine ss_if_ge 58 dX8_read_51 (by decide) (fun c51 => ?_) (fun c51 => by first | exact kd_tf (nI_pos' (by omega)) c51 | exact kd_ft (nI_pos' (by omega)) c51 | exact absurd (nI_pos' (by omega)) c51 | exact absurd c51 (nI_pos' (by omega)))
  refine ss_aload_n dX8_read_58 0 rfl ?_
  refine ss_callV (As := []) (i := 105) dX8_read_59 vlX8_93 clX8_last rfl rfl (by omega) (sh_r105 _ _) rfl (Nat.le_of_ble_eq_true rfl) (Nat.le_of_ble_eq_true rfl) (m_last hn h6) ?_
  refine ss_if_le 82 dX8_read_62 (by decide) (fun c62 => ?_) (fun c62 => by first | exact kd_tf (nI_le0 (by have := p2_1 (n := n); omega)) c62 | exact kd_ft (nI_le0 (by have := p2_1 (n := n); omega)) c62 | exact absurd (nI_le0 (by have := p2_1 (n := n); omega)) c62 | exact absurd c62 (nI_le0 (by have := p2_1 (n := n); omega)))
  refine ss_iconst (v := nI 0) dX8_read_82 (by decide) ?_
  refine ss_istore_n (lv' := [(3, _), (0, _), (1, _), (2, _)]) dX8_read_83 (by decide) rfl ?_
  refine ss_iload_n dX8_read_84 0 rfl ?_
  refine ss_if_le 95 dX8_read_85 (by decide) (fun c85 => ?_) (fun c85 => by first | exact kd_tf (by decide) c85 | exact kd_ft (by decide) c85 | exact absurd (by decide) c85 | exact absurd c85 (by decide))
  refine ss_iconst (v := nI 1) dX8_read_95 (by decide) ?_
  refine ss_istore (lv' := [(4, _), (3, _), (0, _), (1, _), (2, _)]) dX8_read_96 (by decide) rfl ?_
  refine ss_iconst (v := nI 1) dX8_read_98 (by decide) ?_
  refine ss_istore (lv' := [(5, _), (4, _), (3, _), (0, _), (1, _), (2, _)]) dX8_read_99 (by decide) rfl ?_
  refine l_read1 hn h6 rfl hj hs (fun k9 hk9 => ?_) (2 ^ n - 1) 1 (by have := p2_1 (n := n); omega) (Nat.le_refl _)
  rw [hl]
  refine ss_iload dX8_read_153 1 rfl ?_
  refine sy_if_ne 162 dX8_read_155 (by decide) (fun c155 => ?_) (fun c155 => by first | exact kd_tf (rfl) c155 | exact kd_ft (rfl) c155 | exact absurd (rfl) c155 | exact absurd c155 (rfl))
  refine ss_iconst (v := nI 1) dX8_read_162 (by decide) ?_
  refine ss_istore (lv' := [(5, _), (4, _), (3, _), (0, _), (1, _), (2, _)]) dX8_read_163 (by decide) rfl ?_
  have h9 := l_read2 (X := X) (Y := Y) (c := c) (d := d) (Q := Q) hn h6 rfl hj hs hQ (2 ^ n - 1) 1 (by have := p2_1 (n := n); omega) (Nat.le_refl _)
  rw [mpl_0] at h9
  exact h9
set_option maxHeartbeats 1000000 in
set_option maxRecDepth 100000 in
theorem r_read_kb {c : cx} {d : Nat} {X : nX} {Y : nY} {n : Nat} (hn : n ≤ 10) (h6 : X 105 0 = nI n) {m : Nat} (hm : m ≤ 12) (h7 : X 105 1 = nI m) {j : Nat} (hjm : j < m) {s : Nat} (hs : s < 4) (hh : X 107 j = bI false) (hkd : X 106 j = 0) {k : Nat} (hk : k ≤ 1100) (ht : X 119 s = nI k) (h1 : 1 < 2 ^ n) (hlk : 2 ^ n ≤ k) (hl : lany (p_rd Y s) (2 ^ n) = false) : sc c mX8_read (d + 3) [.ref (c_ad c 105), .int (nI j), .int (nI s)] (X) (Y) (some (.int (nI 1))) (up2 X 105 19 (nI 0)) (mpl Y 108 (1024 * j + 1) (1024 * j + 2 ^ n) (shf (fun k => Y 121 (1100 * s + k)) (1024 * j))) := by
  intro Q hQ
  show ss c mX8_read (d + 3) Q 0 [(0, .ref (c_ad c 105)), (1, .int (nI j)), (2, .int (nI s))] [] (X) (Y)
  have hj : j < 12 := by omega
  have hwj : ix (nI j) m = true := ix_of hjm (by omega)
  have hs9 : ix (nI s) 4 = true := ix_of hs (by decide)
  refine ss_aload_n dX8_read_0 0 rfl ?_
  refine ss_iload_n dX8_read_1 1 rfl ?_
  refine ss_callV (As := [_]) (i := 105) dX8_read_2 vlX8_157 clX8_isWorth rfl rfl (by omega) (sh_r105 _ _) rfl (Nat.le_of_ble_eq_true rfl) (Nat.le_of_ble_eq_true rfl) (m_isWorth hm h7) ?_
  refine sy_if_eq 15 dX8_read_5 (by decide) (fun c5 => by first | exact kd_tf (hwj) c5 | exact kd_ft (hwj) c5 | exact absurd (hwj) c5 | exact absurd c5 (hwj)) (fun c5 => ?_)
  refine ss_iload_n dX8_read_8 2 rfl ?_
  refine ss_callS (As := [_]) dX8_read_9 vlX8_99 clX8_isSheet rfl rfl (Nat.le_of_ble_eq_true rfl) (Nat.le_of_ble_eq_true rfl) (m_isSheet) ?_
  refine sy_if_ne 19 dX8_read_12 (by decide) (fun c12 => ?_) (fun c12 => by first | exact kd_tf (hs9) c12 | exact kd_ft (hs9) c12 | exact absurd (hs9) c12 | exact absurd c12 (hs9))
  refine ss_aload_n dX8_read_19 0 rfl ?_
  refine ss_get (i := 105) dX8_read_20 flX8_13 (by omega) (sh_r105 _ _) rfl ?_
  refine ss_iload_n dX8_read_23 1 rfl ?_
  refine ss_zald (i := 107) dX8_read_24 (by omega) (sh_r107) (by omega) (by decide) ?_
  rw [hh]
  refine sy_if_eq 32 dX8_read_25 (by decide) (fun c25 => ?_) (fun c25 => by first | exact kd_tf (rfl) c25 | exact kd_ft (rfl) c25 | exact absurd (rfl) c25 | exact absurd c25 (rfl))
  refine ss_aload_n dX8_read_32 0 rfl ?_
  refine ss_get (i := 105) dX8_read_33 flX8_7 (by omega) (sh_r105 _ _) rfl ?_
  refine ss_iload_n dX8_read_36 1 rfl ?_
  refine ss_iald (i := 106) dX8_read_37 (by omega) (sh_r106) (by omega) (by decide) ?_
  refine ss_if_eq 45 dX8_read_38 (by decide) (fun c38 => ?_) (fun c38 => by first | exact kd_tf (hkd) c38 | exact kd_ft (hkd) c38 | exact absurd (hkd) c38 | exact absurd c38 (hkd))
  refine ss_aload_n dX8_read_45 0 rfl ?_
  refine ss_get (i := 105) dX8_read_46 flX8_55 (by omega) (sh_r105 _ _) rfl ?_
  refine ss_iload_n dX8_read_49 2 rfl ?_
  refine ss_iald (i := 119) dX8_read_50 (by omega) (sh_r119) (by omega) (by decide) ?_
  rw [ht]
  refine ss_if_ge 58 dX8_read_51 (by decide) (fun c51 => ?_) (fun c51 => by first | exact kd_tf (nI_pos' (by omega)) c51 | exact kd_ft (nI_pos' (by omega)) c51 | exact absurd (nI_pos' (by omega)) c51 | exact absurd c51 (nI_pos' (by omega)))
  refine ss_aload_n dX8_read_58 0 rfl ?_
  refine ss_callV (As := []) (i := 105) dX8_read_59 vlX8_93 clX8_last rfl rfl (by omega) (sh_r105 _ _) rfl (Nat.le_of_ble_eq_true rfl) (Nat.le_of_ble_eq_true rfl) (m_last hn h6) ?_
  refine ss_if_le 82 dX8_read_62 (by decide) (fun c62 => by first | exact kd_tf (nI_nle (by omega) (by have := p2_le hn; omega)) c62 | exact kd_ft (nI_nle (by omega) (by have := p2_le hn; omega)) c62 | exact absurd (nI_nle (by omega) (by have := p2_le hn; omega)) c62 | exact absurd c62 (nI_nle (by omega) (by have := p2_le hn; omega))) (fun c62 => ?_)
  refine ss_aload_n dX8_read_65 0 rfl ?_
  refine ss_get (i := 105) dX8_read_66 flX8_55 (by omega) (sh_r105 _ _) rfl ?_
  refine ss_iload_n dX8_read_69 2 rfl ?_
  refine ss_iald (i := 119) dX8_read_70 (by omega) (sh_r119) (by omega) (by decide) ?_
  rw [ht]
  refine ss_aload_n dX8_read_71 0 rfl ?_
  refine ss_callV (As := []) (i := 105) dX8_read_72 vlX8_93 clX8_last rfl rfl (by omega) (sh_r105 _ _) rfl (Nat.le_of_ble_eq_true rfl) (Nat.le_of_ble_eq_true rfl) (m_last hn h6) ?_
  refine sz_icmp_gt 82 dX8_read_75 (by decide) (by omega) (by have := p2_le hn; omega) (fun c75 => ?_) (fun c75 => by omega)
  refine ss_iconst (v := nI 0) dX8_read_82 (by decide) ?_
  refine ss_istore_n (lv' := [(3, _), (0, _), (1, _), (2, _)]) dX8_read_83 (by decide) rfl ?_
  refine ss_iload_n dX8_read_84 0 rfl ?_
  refine ss_if_le 95 dX8_read_85 (by decide) (fun c85 => ?_) (fun c85 => by first | exact kd_tf (by decide) c85 | exact kd_ft (by decide) c85 | exact absurd (by decide) c85 | exact absurd c85 (by decide))
  refine ss_iconst (v := nI 1) dX8_read_95 (by decide) ?_
  refine ss_istore (lv' := [(4, _), (3, _), (0, _), (1, _), (2, _)]) dX8_read_96 (by decide) rfl ?_
  refine ss_iconst (v := nI 1) dX8_read_98 (by decide) ?_
  refine ss_istore (lv' := [(5, _), (4, _), (3, _), (0, _), (1, _), (2, _)]) dX8_read_99 (by decide) rfl ?_
  refine l_read1 hn h6 rfl hj hs (fun k9 hk9 => ?_) (2 ^ n - 1) 1 (by have := p2_1 (n := n); omega) (Nat.le_refl _)
  rw [hl]
  refine ss_iload dX8_read_153 1 rfl ?_
  refine sy_if_ne 162 dX8_read_155 (by decide) (fun c155 => ?_) (fun c155 => by first | exact kd_tf (rfl) c155 | exact kd_ft (rfl) c155 | exact absurd (rfl) c155 | exact absurd c155 (rfl))
  refine ss_iconst (v := nI 1) dX8_read_162 (by decide) ?_
  refine ss_istore (lv' := [(5, _), (4, _), (3, _), (0, _), (1, _), (2, _)]) dX8_read_163 (by decide) rfl ?_
  have h9 := l_read2 (X := X) (Y := Y) (c := c) (d := d) (Q := Q) hn h6 rfl hj hs hQ (2 ^ n - 1) 1 (by have := p2_1 (n := n); omega) (Nat.le_refl _)
  rw [mpl_0] at h9
  exact h9
