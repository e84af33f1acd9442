theorem lmx_a {p : Nat → Bool} {V : Nat → Int64} {i : Nat} (h : p i = false) : lmx p V (i + 1) = lmx p V i := by
  show (if _ then _ else _) = _
  rw [if_neg (by rw [h]; decide)]
theorem lmx_b {p : Nat → Bool} {V : Nat → Int64} {i : Nat} (h : V i ≤ lmx p V i) : lmx p V (i + 1) = lmx p V i := by
  show (if _ then (if _ then _ else _) else _) = _
  by_cases h1 : p i = true
  · rw [if_pos h1]
    by_cases h2 : V i < lmx p V i
    · rw [if_pos h2]
    · rw [if_neg h2]
      apply Int64.toInt_inj.mp
      rw [Int64.lt_iff_toInt_lt] at h2
      rw [Int64.le_iff_toInt_le] at h
      omega
  · rw [if_neg h1]
theorem lmx_c {p : Nat → Bool} {V : Nat → Int64} {i : Nat} (h0 : p i = true) (h : ¬ V i ≤ lmx p V i) : lmx p V (i + 1) = V i := by
  show (if _ then (if _ then _ else _) else _) = _
  rw [if_pos h0, if_neg (by rw [Int64.lt_iff_toInt_lt]; rw [Int64.le_iff_toInt_le] at h; omega)]
theorem ggs_s (G : Nat → Int64) (n : Nat) : ggs G (n + 1) = if G n ≤ (ggs G n).2 then ggs G n else (nI n, G n) := rfl
theorem lbl_a {T : Nat → Int64} {i : Nat} (h : 0 ≤ T i) : lbl T (i + 1) = lbl T i + 0 := by
  show lbl T i + (if _ then _ else _) = _
  by_cases h2 : 0 < T i
  · rw [if_pos h2]
  · rw [if_neg h2]
    congr 1
    apply Int64.toInt_inj.mp
    rw [Int64.lt_iff_toInt_lt] at h2
    rw [Int64.le_iff_toInt_le] at h
    omega
theorem lbl_b {T : Nat → Int64} {i : Nat} (h : ¬ 0 ≤ T i) : lbl T (i + 1) = lbl T i + T i := by
  show lbl T i + (if _ then _ else _) = _
  rw [if_neg (by rw [Int64.lt_iff_toInt_lt]; rw [Int64.le_iff_toInt_le] at h; omega)]
set_option maxHeartbeats 1000000 in
set_option maxRecDepth 100000 in
theorem l_best {c : cx} {d : Nat} {X : nX} {Y : nY} {Q : Option Value → nX → nY → Prop} {w : Nat} (hw : w < 12) {n : Nat} (hn : n ≤ 10) (h6 : X 105 0 = nI n) {S : Nat} (hSn : S = 2 ^ n) {k : Nat} (hk : k ≤ 10) (hQ : Q (some (.long (lmx (fun s => decide (cnt s 10 ≤ k)) (vr Y w) S))) X Y) : ∀ (nn i : Nat), i + nn = S → ss c mX8_best (d + 3) Q 33 [(5, .int (nI i)), (3, .long (lmx (fun s => decide (cnt s 10 ≤ k)) (vr Y w) i)), (0, .ref (c_ad c 105)), (1, .int (nI w)), (2, .int (nI k))] [] (X) (Y) := by
  have h1n := p2_1 (n := n)
  have h2n := p2_le hn
  intro nn
  induction nn with
  | zero =>
      intro i hin
      simp only [Nat.add_zero] at hin
      subst hin
      refine ss_iload dX8_best_33 0 rfl ?_
      refine ss_aload_n dX8_best_35 2 rfl ?_
      refine ss_callV (As := []) (i := 105) dX8_best_36 vlX8_93 clX8_last rfl rfl (by omega) (sh_r105 _ _) rfl (Nat.le_of_ble_eq_true rfl) (Nat.le_of_ble_eq_true rfl) (m_last hn h6) ?_
      refine sz_icmp_gt 81 dX8_best_39 (by decide) (by omega) (by omega) (fun c39 => ?_) (fun c39 => by omega)
      refine ss_lload_n dX8_best_81 1 rfl ?_
      exact ss_lret dX8_best_82 rfl (hQ)
  | succ nn ih =>
      intro i hin
      refine ss_iload dX8_best_33 0 rfl ?_
      refine ss_aload_n dX8_best_35 2 rfl ?_
      refine ss_callV (As := []) (i := 105) dX8_best_36 vlX8_93 clX8_last rfl rfl (by omega) (sh_r105 _ _) rfl (Nat.le_of_ble_eq_true rfl) (Nat.le_of_ble_eq_true rfl) (m_last hn h6) ?_
      refine sz_icmp_gt 81 dX8_best_39 (by decide) (by omega) (by omega) (fun c39 => by omega) (fun c39 => ?_)
      refine ss_iload dX8_best_42 0 rfl ?_
      refine ss_callS (As := [_]) dX8_best_44 vlX8_128 clX8_countOf rfl rfl (Nat.le_of_ble_eq_true rfl) (Nat.le_of_ble_eq_true rfl) (m_countOf (by omega)) ?_
      refine ss_iload_n dX8_best_47 4 rfl ?_
      refine sz_icmp_gt 73 dX8_best_48 (by decide) (by have := cnt_le i 10; omega) (by omega) (fun c48 => ?_) (fun c48 => ?_)
      · skip
        refine ss_lload_n dX8_best_73 1 rfl ?_
        refine ss_lstore_n (lv' := [(3, _), (5, _), (0, _), (1, _), (2, _)]) dX8_best_74 (by decide) rfl ?_
        refine sz_inc (lv' := [(5, _), (3, _), (0, _), (1, _), (2, _)]) dX8_best_75 1 rfl (by decide) rfl ?_
        refine ss_goto 33 dX8_best_78 (by decide) ?_
        have e9 := lmx_a (p := (fun s => decide (cnt s 10 ≤ k))) (V := vr Y w) (i := i) (decide_eq_false (by omega))
        have h7 := ih (i + 1) (by omega)
        rw [e9] at h7
        exact h7
      · skip
        refine ss_aload_n dX8_best_51 2 rfl ?_
        refine ss_iload_n dX8_best_52 3 rfl ?_
        refine ss_iload dX8_best_53 0 rfl ?_
        refine ss_callV (As := [_, _]) (i := 105) dX8_best_55 vlX8_205 clX8_v rfl rfl (by omega) (sh_r105 _ _) rfl (Nat.le_of_ble_eq_true rfl) (Nat.le_of_ble_eq_true rfl) (m_v hw (by omega)) ?_
        refine ss_lload_n dX8_best_58 1 rfl ?_
        refine sv_le 73 dX8_best_59 dX8_best_60 (by decide) (fun c59 => ?_) (fun c59 => ?_)
        · skip
          refine ss_lload_n dX8_best_73 1 rfl ?_
          refine ss_lstore_n (lv' := [(3, _), (5, _), (0, _), (1, _), (2, _)]) dX8_best_74 (by decide) rfl ?_
          refine sz_inc (lv' := [(5, _), (3, _), (0, _), (1, _), (2, _)]) dX8_best_75 1 rfl (by decide) rfl ?_
          refine ss_goto 33 dX8_best_78 (by decide) ?_
          have e9 := lmx_b (p := (fun s => decide (cnt s 10 ≤ k))) (V := vr Y w) (i := i) c59
          have h7 := ih (i + 1) (by omega)
          rw [e9] at h7
          exact h7
        · skip
          refine ss_aload_n dX8_best_63 2 rfl ?_
          refine ss_iload_n dX8_best_64 3 rfl ?_
          refine ss_iload dX8_best_65 0 rfl ?_
          refine ss_callV (As := [_, _]) (i := 105) dX8_best_67 vlX8_205 clX8_v rfl rfl (by omega) (sh_r105 _ _) rfl (Nat.le_of_ble_eq_true rfl) (Nat.le_of_ble_eq_true rfl) (m_v hw (by omega)) ?_
          refine ss_goto 74 dX8_best_70 (by decide) ?_
          refine ss_lstore_n (lv' := [(3, _), (5, _), (0, _), (1, _), (2, _)]) dX8_best_74 (by decide) rfl ?_
          refine sz_inc (lv' := [(5, _), (3, _), (0, _), (1, _), (2, _)]) dX8_best_75 1 rfl (by decide) rfl ?_
          refine ss_goto 33 dX8_best_78 (by decide) ?_
          have e9 := lmx_c (p := (fun s => decide (cnt s 10 ≤ k))) (V := vr Y w) (i := i) (decide_eq_true (by omega)) c59
          have h7 := ih (i + 1) (by omega)
          rw [e9] at h7
          exact h7
set_option maxHeartbeats 1000000 in
set_option maxRecDepth 100000 in
theorem r_best_k {c : cx} {d : Nat} {X : nX} {Y : nY} {n : Nat} (hn : n ≤ 10) (h6 : X 105 0 = nI n) {m : Nat} (hm : m ≤ 12) (h7 : X 105 1 = nI m) {j : Nat} (hjm : j < m) {k : Nat} (hk : k ≤ 10) : sc c mX8_best (d + 3) [.ref (c_ad c 105), .int (nI j), .int (nI k)] (X) (Y) (some (.long (lmx (fun s => decide (cnt s 10 ≤ k)) (vr Y j) (2 ^ n)))) (X) (Y) := by
  intro Q hQ
  show ss c mX8_best (d + 3) Q 0 [(0, .ref (c_ad c 105)), (1, .int (nI j)), (2, .int (nI k))] [] (X) (Y)
  have hj : j < 12 := by omega
  have hwj : ix (nI j) m = true := ix_of hjm (by omega)
  refine ss_aload_n dX8_best_0 0 rfl ?_
  refine ss_iload_n dX8_best_1 1 rfl ?_
  refine ss_callV (As := [_]) (i := 105) dX8_best_2 vlX8_157 clX8_isWorth rfl rfl (by omega) (sh_r105 _ _) rfl (Nat.le_of_ble_eq_true rfl) (Nat.le_of_ble_eq_true rfl) (m_isWorth hm h7) ?_
  refine sy_if_ne 12 dX8_best_5 (by decide) (fun c5 => ?_) (fun c5 => by first | exact kd_tf (hwj) c5 | exact kd_ft (hwj) c5 | exact absurd (hwj) c5 | exact absurd c5 (hwj))
  refine ss_iload_n dX8_best_12 2 rfl ?_
  refine ss_i2l dX8_best_13 ?_
  refine ss_lconst (v := 0) dX8_best_14 (by decide) ?_
  refine ss_ldc2 dX8_best_15 kcX8_87 ?_
  refine ss_callS (As := [_, _, _]) dX8_best_18 vlX8_89 clX8_within rfl rfl (Nat.le_of_ble_eq_true rfl) (Nat.le_of_ble_eq_true rfl) (m_within) ?_
  refine sy_if_ne 28 dX8_best_21 (by decide) (fun c21 => ?_) (fun c21 => by first | exact kd_tf (by rw [wi_ix (n := 11) rfl]; exact ix_of (by omega) (by decide)) c21 | exact kd_ft (by rw [wi_ix (n := 11) rfl]; exact ix_of (by omega) (by decide)) c21 | exact absurd (by rw [wi_ix (n := 11) rfl]; exact ix_of (by omega) (by decide)) c21 | exact absurd c21 (by rw [wi_ix (n := 11) rfl]; exact ix_of (by omega) (by decide)))
  refine ss_lconst (v := 0) dX8_best_28 (by decide) ?_
  refine ss_lstore_n (lv' := [(3, _), (0, _), (1, _), (2, _)]) dX8_best_29 (by decide) rfl ?_
  refine ss_iconst (v := nI 0) dX8_best_30 (by decide) ?_
  refine ss_istore (lv' := [(5, _), (3, _), (0, _), (1, _), (2, _)]) dX8_best_31 (by decide) rfl ?_
  exact l_best hj hn h6 rfl hk hQ (2 ^ n) 0 (by omega)
set_option maxHeartbeats 1000000 in
set_option maxRecDepth 100000 in
theorem r_best_o {c : cx} {d : Nat} {X : nX} {Y : nY} {m : Nat} (hm : m ≤ 12) (h7 : X 105 1 = nI m) {j : Nat} (hjm : j < m) {i : Int32} (hi : ix i 11 = false) : sc c mX8_best (d + 3) [.ref (c_ad c 105), .int (nI j), .int i] (X) (Y) (some (.long (-1002))) (X) (Y) := by
  intro Q hQ
  show ss c mX8_best (d + 3) Q 0 [(0, .ref (c_ad c 105)), (1, .int (nI j)), (2, .int i)] [] (X) (Y)
  have hj : j < 12 := by omega
  have hwj : ix (nI j) m = true := ix_of hjm (by omega)
  refine ss_aload_n dX8_best_0 0 rfl ?_
  refine ss_iload_n dX8_best_1 1 rfl ?_
  refine ss_callV (As := [_]) (i := 105) dX8_best_2 vlX8_157 clX8_isWorth rfl rfl (by omega) (sh_r105 _ _) rfl (Nat.le_of_ble_eq_true rfl) (Nat.le_of_ble_eq_true rfl) (m_isWorth hm h7) ?_
  refine sy_if_ne 12 dX8_best_5 (by decide) (fun c5 => ?_) (fun c5 => by first | exact kd_tf (hwj) c5 | exact kd_ft (hwj) c5 | exact absurd (hwj) c5 | exact absurd c5 (hwj))
  refine ss_iload_n dX8_best_12 2 rfl ?_
  refine ss_i2l dX8_best_13 ?_
  refine ss_lconst (v := 0) dX8_best_14 (by decide) ?_
  refine ss_ldc2 dX8_best_15 kcX8_87 ?_
  refine ss_callS (As := [_, _, _]) dX8_best_18 vlX8_89 clX8_within rfl rfl (Nat.le_of_ble_eq_true rfl) (Nat.le_of_ble_eq_true rfl) (m_within) ?_
  refine sy_if_ne 28 dX8_best_21 (by decide) (fun c21 => by first | exact kd_tf (by rw [wi_ix (n := 11) rfl]; exact hi) c21 | exact kd_ft (by rw [wi_ix (n := 11) rfl]; exact hi) c21 | exact absurd (by rw [wi_ix (n := 11) rfl]; exact hi) c21 | exact absurd c21 (by rw [wi_ix (n := 11) rfl]; exact hi)) (fun c21 => ?_)
  refine ss_ldc2 dX8_best_24 kcX8_110 ?_
  exact ss_lret dX8_best_27 rfl (hQ)
set_option maxHeartbeats 1000000 in
set_option maxRecDepth 100000 in
theorem r_greed_o {c : cx} {d : Nat} {X : nX} {Y : nY} {m : Nat} (hm : m ≤ 12) (h7 : X 105 1 = nI m) {j : Nat} (hjm : j < m) {i : Int32} (hi : ix i 11 = false) : sc c mX8_greed (d + 3) [.ref (c_ad c 105), .int (nI j), .int i] (X) (Y) (some (.int (-1002))) (X) (Y) := by
  intro Q hQ
  show ss c mX8_greed (d + 3) Q 0 [(0, .ref (c_ad c 105)), (1, .int (nI j)), (2, .int i)] [] (X) (Y)
  have hj : j < 12 := by omega
  have hwj : ix (nI j) m = true := ix_of hjm (by omega)
  refine ss_aload_n dX8_greed_0 0 rfl ?_
  refine ss_iload_n dX8_greed_1 1 rfl ?_
  refine ss_callV (As := [_]) (i := 105) dX8_greed_2 vlX8_157 clX8_isWorth rfl rfl (by omega) (sh_r105 _ _) rfl (Nat.le_of_ble_eq_true rfl) (Nat.le_of_ble_eq_true rfl) (m_isWorth hm h7) ?_
  refine sy_if_ne 12 dX8_greed_5 (by decide) (fun c5 => ?_) (fun c5 => by first | exact kd_tf (hwj) c5 | exact kd_ft (hwj) c5 | exact absurd (hwj) c5 | exact absurd c5 (hwj))
  refine ss_iload_n dX8_greed_12 2 rfl ?_
  refine ss_i2l dX8_greed_13 ?_
  refine ss_lconst (v := 0) dX8_greed_14 (by decide) ?_
  refine ss_ldc2 dX8_greed_15 kcX8_87 ?_
  refine ss_callS (As := [_, _, _]) dX8_greed_18 vlX8_89 clX8_within rfl rfl (Nat.le_of_ble_eq_true rfl) (Nat.le_of_ble_eq_true rfl) (m_within) ?_
  refine sy_if_ne 28 dX8_greed_21 (by decide) (fun c21 => by first | exact kd_tf (by rw [wi_ix (n := 11) rfl]; exact hi) c21 | exact kd_ft (by rw [wi_ix (n := 11) rfl]; exact hi) c21 | exact absurd (by rw [wi_ix (n := 11) rfl]; exact hi) c21 | exact absurd c21 (by rw [wi_ix (n := 11) rfl]; exact hi)) (fun c21 => ?_)
  refine ss_sipush (v := -1002) dX8_greed_24 (by decide) ?_
  exact ss_iret dX8_greed_27 rfl rfl (hQ)
set_option maxHeartbeats 1000000 in
set_option maxRecDepth 100000 in
theorem l_greed1 {c : cx} {d : Nat} {X : nX} {Y : nY} {Q : Option Value → nX → nY → Prop} {w : Nat} (hw : w < 12) {n : Nat} (hn : n ≤ 10) (h6 : X 105 0 = nI n) {s k : Nat} (hs : s < 1024) (hQ : ∀ k9, k9 = n → ss c mX8_greed (d + 3) Q 106 [(8, .int (nI k9)), (6, .long (ggs (fun t => vr Y w (s ||| 2 ^ t) - vr Y w s) n).2), (5, .int (ggs (fun t => vr Y w (s ||| 2 ^ t) - vr Y w s) n).1), (4, .int (bI true)), (3, .int (nI s)), (0, .ref (c_ad c 105)), (1, .int (nI w)), (2, .int (nI k))] [] X Y) : ∀ (nn i : Nat), i + nn = n → ss c mX8_greed (d + 3) Q 55 [(8, .int (nI i)), (6, .long (ggs (fun t => vr Y w (s ||| 2 ^ t) - vr Y w s) i).2), (5, .int (ggs (fun t => vr Y w (s ||| 2 ^ t) - vr Y w s) i).1), (4, .int (bI true)), (3, .int (nI s)), (0, .ref (c_ad c 105)), (1, .int (nI w)), (2, .int (nI k))] [] (X) (Y) := by
  intro nn
  induction nn with
  | zero =>
      intro i hin
      simp only [Nat.add_zero] at hin
      subst hin
      refine ss_iload dX8_greed_55 0 rfl ?_
      refine ss_aload_n dX8_greed_57 5 rfl ?_
      refine ss_get (i := 105) dX8_greed_58 flX8_80 (by omega) (sh_r105 _ _) rfl ?_
      rw [h6]
      refine sz_icmp_ge 106 dX8_greed_61 (by decide) (by omega) (by omega) (fun c61 => ?_) (fun c61 => by omega)
      exact hQ _ rfl
  | succ nn ih =>
      intro i hin
      refine ss_iload dX8_greed_55 0 rfl ?_
      refine ss_aload_n dX8_greed_57 5 rfl ?_
      refine ss_get (i := 105) dX8_greed_58 flX8_80 (by omega) (sh_r105 _ _) rfl ?_
      rw [h6]
      refine sz_icmp_ge 106 dX8_greed_61 (by decide) (by omega) (by omega) (fun c61 => by omega) (fun c61 => ?_)
      refine ss_aload_n dX8_greed_64 5 rfl ?_
      refine ss_iload_n dX8_greed_65 6 rfl ?_
      refine ss_iload_n dX8_greed_66 4 rfl ?_
      refine ss_iconst (v := nI 1) dX8_greed_67 (by decide) ?_
      refine ss_iload dX8_greed_68 0 rfl ?_
      refine sz_shl1 dX8_greed_70 (by omega) ?_
      refine sz_ior dX8_greed_71 ?_
      refine ss_callV (As := [_, _]) (i := 105) dX8_greed_72 vlX8_205 clX8_v rfl rfl (by omega) (sh_r105 _ _) rfl (Nat.le_of_ble_eq_true rfl) (Nat.le_of_ble_eq_true rfl) (m_v hw (xb_or10 hs (xb_p10 (by omega)))) ?_
      refine ss_aload_n dX8_greed_75 5 rfl ?_
      refine ss_iload_n dX8_greed_76 6 rfl ?_
      refine ss_iload_n dX8_greed_77 4 rfl ?_
      refine ss_callV (As := [_, _]) (i := 105) dX8_greed_78 vlX8_205 clX8_v rfl rfl (by omega) (sh_r105 _ _) rfl (Nat.le_of_ble_eq_true rfl) (Nat.le_of_ble_eq_true rfl) (m_v hw hs) ?_
      refine ss_lsub dX8_greed_81 ?_
      refine ss_lstore (lv' := [(9, _), (8, _), (6, _), (5, _), (4, _), (3, _), (0, _), (1, _), (2, _)]) dX8_greed_82 (by decide) rfl ?_
      refine ss_lload dX8_greed_84 0 rfl ?_
      refine ss_lload dX8_greed_86 2 rfl ?_
      refine sv_le 100 dX8_greed_88 dX8_greed_89 (by decide) (fun c88 => ?_) (fun c88 => ?_)
      · skip
        refine sz_inc (lv' := [(8, _), (9, _), (6, _), (5, _), (4, _), (3, _), (0, _), (1, _), (2, _)]) dX8_greed_100 1 rfl (by decide) rfl ?_
        refine ss_goto 55 dX8_greed_103 (by decide) ?_
        refine ss_sub [0, 2, 3, 4, 5, 6, 7, 8] rfl ?_
        have e9 : ggs (fun t => vr Y w (s ||| 2 ^ t) - vr Y w s) (i + 1) = ggs (fun t => vr Y w (s ||| 2 ^ t) - vr Y w s) i := by rw [ggs_s, if_pos c88]
        have h7 := ih (i + 1) (by omega)
        rw [e9] at h7
        exact h7
      · skip
        refine ss_lload dX8_greed_92 0 rfl ?_
        refine ss_lstore (lv' := [(6, _), (9, _), (8, _), (5, _), (4, _), (3, _), (0, _), (1, _), (2, _)]) dX8_greed_94 (by decide) rfl ?_
        refine ss_iload dX8_greed_96 2 rfl ?_
        refine ss_istore (lv' := [(5, _), (6, _), (9, _), (8, _), (4, _), (3, _), (0, _), (1, _), (2, _)]) dX8_greed_98 (by decide) rfl ?_
        refine sz_inc (lv' := [(8, _), (5, _), (6, _), (9, _), (4, _), (3, _), (0, _), (1, _), (2, _)]) dX8_greed_100 3 rfl (by decide) rfl ?_
        refine ss_goto 55 dX8_greed_103 (by decide) ?_
        refine ss_sub [0, 2, 1, 4, 5, 6, 7, 8] rfl ?_
        have e9 : ggs (fun t => vr Y w (s ||| 2 ^ t) - vr Y w s) (i + 1) = (nI i, vr Y w (s ||| 2 ^ i) - vr Y w s) := by rw [ggs_s, if_neg c88]
        have h7 := ih (i + 1) (by omega)
        rw [e9] at h7
        exact h7
set_option maxHeartbeats 1000000 in
set_option maxRecDepth 100000 in
theorem l_greed_a {c : cx} {d : Nat} {X : nX} {Y : nY} {Q : Option Value → nX → nY → Prop} {w s k k9 : Nat} {q : Int64} (hQ : Q (some (.int (nI s))) X Y) : ss c mX8_greed (d + 3) Q 106 [(8, .int (nI k9)), (6, .long q), (5, .int (-1)), (4, .int (bI true)), (3, .int (nI s)), (0, .ref (c_ad c 105)), (1, .int (nI w)), (2, .int (nI k))] [] X Y := by
  refine ss_iload dX8_greed_106 2 rfl ?_
  refine ss_if_lt 115 dX8_greed_108 (by decide) (fun c108 => ?_) (fun c108 => by first | exact kd_tf (by decide) c108 | exact kd_ft (by decide) c108 | exact absurd (by decide) c108 | exact absurd c108 (by decide))
  refine ss_iconst (v := nI 0) dX8_greed_115 (by decide) ?_
  refine ss_istore (lv' := [(4, _), (8, _), (6, _), (5, _), (3, _), (0, _), (1, _), (2, _)]) dX8_greed_116 (by decide) rfl ?_
  refine ss_iload_n dX8_greed_118 4 rfl ?_
  refine ss_iload dX8_greed_119 0 rfl ?_
  refine sz_if_eq 131 dX8_greed_121 (by decide) (by omega) (fun c121 => ?_) (fun c121 => by omega)
  refine ss_iconst (v := nI 0) dX8_greed_131 (by decide) ?_
  refine sz_ior dX8_greed_132 ?_
  refine ss_istore_n (lv' := [(3, _), (4, _), (8, _), (6, _), (5, _), (0, _), (1, _), (2, _)]) dX8_greed_133 (by decide) rfl ?_
  refine ss_goto 33 dX8_greed_134 (by decide) ?_
  refine ss_iload dX8_greed_33 1 rfl ?_
  refine sz_if_eq 137 dX8_greed_35 (by decide) (by omega) (fun c35 => ?_) (fun c35 => by omega)
  refine ss_iload_n dX8_greed_137 0 rfl ?_
  exact ss_iret dX8_greed_138 rfl rfl (cvi (by rw [Nat.or_zero]) hQ)
set_option maxHeartbeats 1000000 in
set_option maxRecDepth 100000 in
theorem l_greed_b {c : cx} {d : Nat} {X : nX} {Y : nY} {Q : Option Value → nX → nY → Prop} {w s k k9 : Nat} {q : Int64} {t : Nat} (ht : t < 10) (hQ : ss c mX8_greed (d + 3) Q 33 [(4, .int (bI true)), (3, .int (nI (s ||| 2 ^ t))), (0, .ref (c_ad c 105)), (1, .int (nI w)), (2, .int (nI k))] [] X Y) : ss c mX8_greed (d + 3) Q 106 [(8, .int (nI k9)), (6, .long q), (5, .int (nI t)), (4, .int (bI true)), (3, .int (nI s)), (0, .ref (c_ad c 105)), (1, .int (nI w)), (2, .int (nI k))] [] X Y := by
  refine ss_iload dX8_greed_106 2 rfl ?_
  refine ss_if_lt 115 dX8_greed_108 (by decide) (fun c108 => by first | exact kd_tf (fun h9 => by rw [Int32.lt_iff_toInt_lt, nI_toInt (by omega), show (0 : Int32).toInt = 0 from rfl] at h9; omega) c108 | exact kd_ft (fun h9 => by rw [Int32.lt_iff_toInt_lt, nI_toInt (by omega), show (0 : Int32).toInt = 0 from rfl] at h9; omega) c108 | exact absurd (fun h9 => by rw [Int32.lt_iff_toInt_lt, nI_toInt (by omega), show (0 : Int32).toInt = 0 from rfl] at h9; omega) c108 | exact absurd c108 (fun h9 => by rw [Int32.lt_iff_toInt_lt, nI_toInt (by omega), show (0 : Int32).toInt = 0 from rfl] at h9; omega)) (fun c108 => ?_)
  refine ss_iconst (v := nI 1) dX8_greed_111 (by decide) ?_
  refine ss_goto 116 dX8_greed_112 (by decide) ?_
  refine ss_istore (lv' := [(4, _), (8, _), (6, _), (5, _), (3, _), (0, _), (1, _), (2, _)]) dX8_greed_116 (by decide) rfl ?_
  refine ss_iload_n dX8_greed_118 4 rfl ?_
  refine ss_iload dX8_greed_119 0 rfl ?_
  refine sz_if_eq 131 dX8_greed_121 (by decide) (by omega) (fun c121 => by omega) (fun c121 => ?_)
  refine ss_iconst (v := nI 1) dX8_greed_124 (by decide) ?_
  refine ss_iload dX8_greed_125 3 rfl ?_
  refine sz_shl1 dX8_greed_127 (by omega) ?_
  refine ss_goto 132 dX8_greed_128 (by decide) ?_
  refine sz_ior dX8_greed_132 ?_
  refine ss_istore_n (lv' := [(3, _), (4, _), (8, _), (6, _), (5, _), (0, _), (1, _), (2, _)]) dX8_greed_133 (by decide) rfl ?_
  refine ss_goto 33 dX8_greed_134 (by decide) ?_
  refine ss_sub [1, 0, 5, 6, 7] rfl ?_
  exact hQ
theorem nI_nm1 {t : Nat} (h : t < 2 ^ 31) : ¬ nI t = -1 := by
  intro h9
  have h8 := congrArg Int32.toInt h9
  rw [nI_toInt h] at h8
  have h0 : (-1 : Int32).toInt = -1 := rfl
  omega
set_option maxHeartbeats 1000000 in
set_option maxRecDepth 100000 in
theorem l_greed {c : cx} {d : Nat} {X : nX} {Y : nY} {Q : Option Value → nX → nY → Prop} {w : Nat} (hw : w < 12) {n : Nat} (hn : n ≤ 10) (h6 : X 105 0 = nI n) {k : Nat} (hk : k ≤ 10) (hcg : ∀ i, i ≤ k → (∀ j, j < i → ¬ (ggs (fun t => vr Y w (gset (vr Y w) n j ||| 2 ^ t) - vr Y w (gset (vr Y w) n j)) n).1 = -1) → cnt (gset (vr Y w) n i) 10 = i) (hQ : Q (some (.int (nI (gset (vr Y w) n k)))) X Y) : ∀ (nn i : Nat), i + nn = k → (∀ j, j < i → ¬ (ggs (fun t => vr Y w (gset (vr Y w) n j ||| 2 ^ t) - vr Y w (gset (vr Y w) n j)) n).1 = -1) → ss c mX8_greed (d + 3) Q 33 [(4, .int (bI true)), (3, .int (nI (gset (vr Y w) n i))), (0, .ref (c_ad c 105)), (1, .int (nI w)), (2, .int (nI k))] [] (X) (Y) := by
  intro nn
  induction nn with
  | zero =>
      intro i hin hinv
      simp only [Nat.add_zero] at hin
      subst hin
      refine ss_iload dX8_greed_33 0 rfl ?_
      refine sy_if_eq 137 dX8_greed_35 (by decide) (fun c35 => by first | exact kd_tf (rfl) c35 | exact kd_ft (rfl) c35 | exact absurd (rfl) c35 | exact absurd c35 (rfl)) (fun c35 => ?_)
      refine ss_iload_n dX8_greed_38 1 rfl ?_
      refine ss_callS (As := [_]) dX8_greed_39 vlX8_128 clX8_countOf rfl rfl (Nat.le_of_ble_eq_true rfl) (Nat.le_of_ble_eq_true rfl) (m_countOf (by have := gset_lt (vr Y w) n (by omega) i; have := p2_le hn; omega)) ?_
      rw [hcg i (by omega) hinv]
      refine ss_iload_n dX8_greed_42 4 rfl ?_
      refine sz_icmp_ge 137 dX8_greed_43 (by decide) (by omega) (by omega) (fun c43 => ?_) (fun c43 => by omega)
      refine ss_iload_n dX8_greed_137 1 rfl ?_
      exact ss_iret dX8_greed_138 rfl rfl (hQ)
  | succ nn ih =>
      intro i hin hinv
      refine ss_iload dX8_greed_33 0 rfl ?_
      refine sy_if_eq 137 dX8_greed_35 (by decide) (fun c35 => by first | exact kd_tf (rfl) c35 | exact kd_ft (rfl) c35 | exact absurd (rfl) c35 | exact absurd c35 (rfl)) (fun c35 => ?_)
      refine ss_iload_n dX8_greed_38 1 rfl ?_
      refine ss_callS (As := [_]) dX8_greed_39 vlX8_128 clX8_countOf rfl rfl (Nat.le_of_ble_eq_true rfl) (Nat.le_of_ble_eq_true rfl) (m_countOf (by have := gset_lt (vr Y w) n (by omega) i; have := p2_le hn; omega)) ?_
      rw [hcg i (by omega) hinv]
      refine ss_iload_n dX8_greed_42 4 rfl ?_
      refine sz_icmp_ge 137 dX8_greed_43 (by decide) (by omega) (by omega) (fun c43 => by omega) (fun c43 => ?_)
      refine ss_iconst (v := -1) dX8_greed_46 (by decide) ?_
      refine ss_istore (lv' := [(5, _), (4, _), (3, _), (0, _), (1, _), (2, _)]) dX8_greed_47 (by decide) rfl ?_
      refine ss_lconst (v := 0) dX8_greed_49 (by decide) ?_
      refine ss_lstore (lv' := [(6, _), (5, _), (4, _), (3, _), (0, _), (1, _), (2, _)]) dX8_greed_50 (by decide) rfl ?_
      refine ss_iconst (v := nI 0) dX8_greed_52 (by decide) ?_
      refine ss_istore (lv' := [(8, _), (6, _), (5, _), (4, _), (3, _), (0, _), (1, _), (2, _)]) dX8_greed_53 (by decide) rfl ?_
      have hsl := gset_lt (vr Y w) n (by omega) i
      have h2n := p2_le hn
      refine l_greed1 hw hn h6 (by omega) (fun k9 hk9 => ?_) n 0 (by omega)
      rcases ggs_in (fun t => vr Y w (gset (vr Y w) n i ||| 2 ^ t) - vr Y w (gset (vr Y w) n i)) n with h5 | ⟨t5, ht5, h5⟩
      · rw [h5]
        refine l_greed_a ?_
        have e9 := gset_stop h5 (k - i)
        rw [show i + (k - i) = k by omega] at e9
        rw [e9] at hQ
        exact hQ
      · rw [h5]
        refine l_greed_b (t := t5) (by omega) ?_
        have e9 : gset (vr Y w) n (i + 1) = gset (vr Y w) n i ||| 2 ^ t5 := by
          show (if _ then _ else _) = _
          rw [if_neg (by rw [h5]; exact nI_nm1 (by omega)), h5, nI_clamp (by omega)]
        have h7 := ih (i + 1) (by omega) (fun j hj9 => by
          rcases Nat.lt_or_ge j i with h8 | h8
          · exact hinv j h8
          · have : j = i := by omega
            subst this
            rw [h5]; exact nI_nm1 (by omega))
        rw [e9] at h7
        exact h7
set_option maxHeartbeats 1000000 in
set_option maxRecDepth 100000 in
theorem r_greed_k {c : cx} {d : Nat} {X : nX} {Y : nY} {n : Nat} (hn : n ≤ 10) (h6 : X 105 0 = nI n) {m : Nat} (hm : m ≤ 12) (h7 : X 105 1 = nI m) {j : Nat} (hjm : j < m) {k : Nat} (hk : k ≤ 10) (hcg : ∀ i, i ≤ k → (∀ e, e < i → ¬ (ggs (fun t => vr Y j (gset (vr Y j) n e ||| 2 ^ t) - vr Y j (gset (vr Y j) n e)) n).1 = -1) → cnt (gset (vr Y j) n i) 10 = i) : sc c mX8_greed (d + 3) [.ref (c_ad c 105), .int (nI j), .int (nI k)] (X) (Y) (some (.int (nI (gset (vr Y j) n k)))) (X) (Y) := by
  intro Q hQ
  show ss c mX8_greed (d + 3) Q 0 [(0, .ref (c_ad c 105)), (1, .int (nI j)), (2, .int (nI k))] [] (X) (Y)
  have hj : j < 12 := by omega
  have hwj : ix (nI j) m = true := ix_of hjm (by omega)
  refine ss_aload_n dX8_greed_0 0 rfl ?_
  refine ss_iload_n dX8_greed_1 1 rfl ?_
  refine ss_callV (As := [_]) (i := 105) dX8_greed_2 vlX8_157 clX8_isWorth rfl rfl (by omega) (sh_r105 _ _) rfl (Nat.le_of_ble_eq_true rfl) (Nat.le_of_ble_eq_true rfl) (m_isWorth hm h7) ?_
  refine sy_if_ne 12 dX8_greed_5 (by decide) (fun c5 => ?_) (fun c5 => by first | exact kd_tf (hwj) c5 | exact kd_ft (hwj) c5 | exact absurd (hwj) c5 | exact absurd c5 (hwj))
  refine ss_iload_n dX8_greed_12 2 rfl ?_
  refine ss_i2l dX8_greed_13 ?_
  refine ss_lconst (v := 0) dX8_greed_14 (by decide) ?_
  refine ss_ldc2 dX8_greed_15 kcX8_87 ?_
  refine ss_callS (As := [_, _, _]) dX8_greed_18 vlX8_89 clX8_within rfl rfl (Nat.le_of_ble_eq_true rfl) (Nat.le_of_ble_eq_true rfl) (m_within) ?_
  refine sy_if_ne 28 dX8_greed_21 (by decide) (fun c21 => ?_) (fun c21 => by first | exact kd_tf (by rw [wi_ix (n := 11) rfl]; exact ix_of (by omega) (by decide)) c21 | exact kd_ft (by rw [wi_ix (n := 11) rfl]; exact ix_of (by omega) (by decide)) c21 | exact absurd (by rw [wi_ix (n := 11) rfl]; exact ix_of (by omega) (by decide)) c21 | exact absurd c21 (by rw [wi_ix (n := 11) rfl]; exact ix_of (by omega) (by decide)))
  refine ss_iconst (v := nI 0) dX8_greed_28 (by decide) ?_
  refine ss_istore_n (lv' := [(3, _), (0, _), (1, _), (2, _)]) dX8_greed_29 (by decide) rfl ?_
  refine ss_iconst (v := nI 1) dX8_greed_30 (by decide) ?_
  refine ss_istore (lv' := [(4, _), (3, _), (0, _), (1, _), (2, _)]) dX8_greed_31 (by decide) rfl ?_
  exact l_greed hj hn h6 hk hcg hQ k 0 (by omega) (fun e he => absurd he (Nat.not_lt_zero _))
set_option maxHeartbeats 1000000 in
set_option maxRecDepth 100000 in
theorem l_proves {c : cx} {d : Nat} {X : nX} {Y : nY} {Q : Option Value → nX → nY → Prop} {w : Nat} (hw : w < 12) {n : Nat} (hn : n ≤ 10) (h6 : X 105 0 = nI n) (hQ : Q (some (.int (bI (decide (fIn (vr Y w) (Y 118) n (2 ^ n) (Y 105 15) < 0) && decide (lbl (Y 118) n = lmn (vr Y w) (2 ^ n) * Y 105 15))))) X Y) : ∀ (nn i : Nat), i + nn = n → ss c mX8_proves (d + 3) Q 17 [(4, .int (nI i)), (2, .long (lbl (Y 118) i)), (0, .ref (c_ad c 105)), (1, .int (nI w))] [] (X) (Y) := by
  intro nn
  induction nn with
  | zero =>
      intro i hin
      simp only [Nat.add_zero] at hin
      subst hin
      refine ss_iload dX8_proves_17 0 rfl ?_
      refine ss_aload_n dX8_proves_19 2 rfl ?_
      refine ss_get (i := 105) dX8_proves_20 flX8_80 (by omega) (sh_r105 _ _) rfl ?_
      rw [h6]
      refine sz_icmp_ge 58 dX8_proves_23 (by decide) (by omega) (by omega) (fun c23 => ?_) (fun c23 => by omega)
      refine ss_aload_n dX8_proves_58 2 rfl ?_
      refine ss_iload_n dX8_proves_59 3 rfl ?_
      refine ss_callV (As := [_]) (i := 105) dX8_proves_60 vlX8_237 clX8_isIn rfl rfl (by omega) (sh_r105 _ _) rfl (Nat.le_of_ble_eq_true rfl) (Nat.le_of_ble_eq_true rfl) (m_isIn hw hn h6) ?_
      refine ss_if_ge 85 dX8_proves_63 (by decide) (fun c63 => ?_) (fun c63 => ?_)
      · skip
        refine ss_iconst (v := nI 0) dX8_proves_85 (by decide) ?_
        exact ss_iret dX8_proves_86 rfl rfl (cvi (by rw [decide_eq_false (by rw [Int32.lt_iff_toInt_lt]; rw [Int32.le_iff_toInt_le] at c63; omega)]; rfl) hQ)
      · skip
        refine ss_lload_n dX8_proves_66 1 rfl ?_
        refine ss_aload_n dX8_proves_67 2 rfl ?_
        refine ss_iload_n dX8_proves_68 3 rfl ?_
        refine ss_callV (As := [_]) (i := 105) dX8_proves_69 vlX8_211 clX8_leastOf rfl rfl (by omega) (sh_r105 _ _) rfl (Nat.le_of_ble_eq_true rfl) (Nat.le_of_ble_eq_true rfl) (m_leastOf hw hn h6) ?_
        refine ss_aload_n dX8_proves_72 2 rfl ?_
        refine ss_get (i := 105) dX8_proves_73 flX8_51 (by omega) (sh_r105 _ _) rfl ?_
        refine ss_lmul dX8_proves_76 ?_
        refine sv_ne 85 dX8_proves_77 dX8_proves_78 (by decide) (fun c77 => ?_) (fun c77 => ?_)
        · skip
          refine ss_iconst (v := nI 0) dX8_proves_85 (by decide) ?_
          exact ss_iret dX8_proves_86 rfl rfl (cvi (by rw [decide_eq_false c77, Bool.and_false]; rfl) hQ)
        · skip
          refine ss_iconst (v := nI 1) dX8_proves_81 (by decide) ?_
          refine ss_goto 86 dX8_proves_82 (by decide) ?_
          exact ss_iret dX8_proves_86 rfl rfl (cvi (by rw [decide_eq_true c77, decide_eq_true (by rw [Int32.lt_iff_toInt_lt]; rw [Int32.le_iff_toInt_le] at c63; omega)]; rfl) hQ)
  | succ nn ih =>
      intro i hin
      refine ss_iload dX8_proves_17 0 rfl ?_
      refine ss_aload_n dX8_proves_19 2 rfl ?_
      refine ss_get (i := 105) dX8_proves_20 flX8_80 (by omega) (sh_r105 _ _) rfl ?_
      rw [h6]
      refine sz_icmp_ge 58 dX8_proves_23 (by decide) (by omega) (by omega) (fun c23 => by omega) (fun c23 => ?_)
      refine ss_lload_n dX8_proves_26 1 rfl ?_
      refine ss_aload_n dX8_proves_27 2 rfl ?_
      refine ss_get (i := 105) dX8_proves_28 flX8_48 (by omega) (sh_r105 _ _) rfl ?_
      refine ss_iload dX8_proves_31 0 rfl ?_
      refine ss_lald (i := 118) dX8_proves_33 (by omega) (sh_r118) (by omega) (by decide) ?_
      refine ss_lconst (v := 0) dX8_proves_34 (by decide) ?_
      refine sv_ge 49 dX8_proves_35 dX8_proves_36 (by decide) (fun c35 => ?_) (fun c35 => ?_)
      · skip
        refine ss_lconst (v := 0) dX8_proves_49 (by decide) ?_
        refine ss_ladd dX8_proves_50 ?_
        refine ss_lstore_n (lv' := [(2, _), (4, _), (0, _), (1, _)]) dX8_proves_51 (by decide) rfl ?_
        refine sz_inc (lv' := [(4, _), (2, _), (0, _), (1, _)]) dX8_proves_52 1 rfl (by decide) rfl ?_
        refine ss_goto 17 dX8_proves_55 (by decide) ?_
        have e9 := lbl_a (T := Y 118) (i := i) c35
        have h7 := ih (i + 1) (by omega)
        rw [e9] at h7
        exact h7
      · skip
        refine ss_aload_n dX8_proves_39 2 rfl ?_
        refine ss_get (i := 105) dX8_proves_40 flX8_48 (by omega) (sh_r105 _ _) rfl ?_
        refine ss_iload dX8_proves_43 0 rfl ?_
        refine ss_lald (i := 118) dX8_proves_45 (by omega) (sh_r118) (by omega) (by decide) ?_
        refine ss_goto 50 dX8_proves_46 (by decide) ?_
        refine ss_ladd dX8_proves_50 ?_
        refine ss_lstore_n (lv' := [(2, _), (4, _), (0, _), (1, _)]) dX8_proves_51 (by decide) rfl ?_
        refine sz_inc (lv' := [(4, _), (2, _), (0, _), (1, _)]) dX8_proves_52 1 rfl (by decide) rfl ?_
        refine ss_goto 17 dX8_proves_55 (by decide) ?_
        have e9 := lbl_b (T := Y 118) (i := i) c35
        have h7 := ih (i + 1) (by omega)
        rw [e9] at h7
        exact h7
set_option maxHeartbeats 1000000 in
set_option maxRecDepth 100000 in
theorem r_proves_k {c : cx} {d : Nat} {X : nX} {Y : nY} {n : Nat} (hn : n ≤ 10) (h6 : X 105 0 = nI n) {m : Nat} (hm : m ≤ 12) (h7 : X 105 1 = nI m) {j : Nat} (hjm : j < m) : sc c mX8_proves (d + 3) [.ref (c_ad c 105), .int (nI j)] (X) (Y) (some (.int (bI (decide (fIn (vr Y j) (Y 118) n (2 ^ n) (Y 105 15) < 0) && decide (lbl (Y 118) n = lmn (vr Y j) (2 ^ n) * Y 105 15))))) (X) (Y) := by
  intro Q hQ
  show ss c mX8_proves (d + 3) Q 0 [(0, .ref (c_ad c 105)), (1, .int (nI j))] [] (X) (Y)
  have hj : j < 12 := by omega
  have hwj : ix (nI j) m = true := ix_of hjm (by omega)
  refine ss_aload_n dX8_proves_0 0 rfl ?_
  refine ss_iload_n dX8_proves_1 1 rfl ?_
  refine ss_callV (As := [_]) (i := 105) dX8_proves_2 vlX8_157 clX8_isWorth rfl rfl (by omega) (sh_r105 _ _) rfl (Nat.le_of_ble_eq_true rfl) (Nat.le_of_ble_eq_true rfl) (m_isWorth hm h7) ?_
  refine sy_if_ne 12 dX8_proves_5 (by decide) (fun c5 => ?_) (fun c5 => by first | exact kd_tf (hwj) c5 | exact kd_ft (hwj) c5 | exact absurd (hwj) c5 | exact absurd c5 (hwj))
  refine ss_lconst (v := 0) dX8_proves_12 (by decide) ?_
  refine ss_lstore_n (lv' := [(2, _), (0, _), (1, _)]) dX8_proves_13 (by decide) rfl ?_
  refine ss_iconst (v := nI 0) dX8_proves_14 (by decide) ?_
  refine ss_istore (lv' := [(4, _), (2, _), (0, _), (1, _)]) dX8_proves_15 (by decide) rfl ?_
  exact l_proves hj hn h6 hQ n 0 (by omega)
set_option maxHeartbeats 1000000 in
set_option maxRecDepth 100000 in
theorem l_corner {c : cx} {d : Nat} {X : nX} {Y : nY} {Q : Option Value → nX → nY → Prop} {w : Nat} (hw : w < 12) {n : Nat} (hn : n ≤ 10) (h6 : X 105 0 = nI n) (hQ : Q (some (.int (nI 1))) X (upl (mpl Y 118 0 n (fun t => Y 125 t)) 105 15 1)) : ∀ (nn i : Nat), i + nn = n → ss c mX8_corner (d + 3) Q 19 [(2, .int (nI i)), (0, .ref (c_ad c 105)), (1, .int (nI w))] [] (X) (mpl Y 118 0 i (fun t => Y 125 t)) := by
  intro nn
  induction nn with
  | zero =>
      intro i hin
      simp only [Nat.add_zero] at hin
      subst hin
      refine ss_iload_n dX8_corner_19 0 rfl ?_
      refine ss_aload_n dX8_corner_20 1 rfl ?_
      refine ss_get (i := 105) dX8_corner_21 flX8_80 (by omega) (sh_r105 _ _) rfl ?_
      rw [h6]
      refine sz_icmp_ge 45 dX8_corner_24 (by decide) (by omega) (by omega) (fun c24 => ?_) (fun c24 => by omega)
      refine ss_aload_n dX8_corner_45 1 rfl ?_
      refine ss_lconst (v := 1) dX8_corner_46 (by decide) ?_
      refine ss_putj (i := 105) dX8_corner_47 fwX8_51 (by omega) (sh_r105 _ _) (Nat.le_of_ble_eq_true rfl) (sh_r105 _ _) ?_
      refine ss_iconst (v := nI 1) dX8_corner_50 (by decide) ?_
      exact ss_iret dX8_corner_51 rfl rfl (hQ)
  | succ nn ih =>
      intro i hin
      refine ss_iload_n dX8_corner_19 0 rfl ?_
      refine ss_aload_n dX8_corner_20 1 rfl ?_
      refine ss_get (i := 105) dX8_corner_21 flX8_80 (by omega) (sh_r105 _ _) rfl ?_
      rw [h6]
      refine sz_icmp_ge 45 dX8_corner_24 (by decide) (by omega) (by omega) (fun c24 => by omega) (fun c24 => ?_)
      refine ss_aload_n dX8_corner_27 1 rfl ?_
      refine ss_get (i := 105) dX8_corner_28 flX8_48 (by omega) (sh_r105 _ _) rfl ?_
      refine ss_iload_n dX8_corner_31 0 rfl ?_
      refine ss_aload_n dX8_corner_32 1 rfl ?_
      refine ss_get (i := 105) dX8_corner_33 flX8_73 (by omega) (sh_r105 _ _) rfl ?_
      refine ss_iload_n dX8_corner_36 0 rfl ?_
      refine ss_lald (i := 125) dX8_corner_37 (by omega) (sh_r125) (by omega) (by decide) ?_
      rw [mpl_ne (by omega)]
      refine ss_last (i := 118) dX8_corner_38 (by omega) (sh_r118) (by omega) (by decide) ?_
      refine sz_inc (lv' := [(2, _), (0, _), (1, _)]) dX8_corner_39 0 rfl (by decide) rfl ?_
      refine ss_goto 19 dX8_corner_42 (by decide) ?_
      refine ss_eY (mpl_s (Nat.zero_le _) rfl) ?_
      exact ih (i + 1) (by omega)
set_option maxHeartbeats 1000000 in
set_option maxRecDepth 100000 in
theorem r_corner_k {c : cx} {d : Nat} {X : nX} {Y : nY} {n : Nat} (hn : n ≤ 10) (h6 : X 105 0 = nI n) {m : Nat} (hm : m ≤ 12) (h7 : X 105 1 = nI m) {j : Nat} (hjm : j < m) {r : Nat → Nat} (hr : ∀ k, k < n → X 117 k = nI (r k)) (hr2 : ∀ k, k < n → r k < 10) : sc c mX8_corner (d + 3) [.ref (c_ad c 105), .int (nI j)] (X) (Y) (some (.int (nI 1))) (X) (upl (mpl (srw Y 125 (cor (vr Y j) r (Y 125) n)) 118 0 n (fun t => (srw Y 125 (cor (vr Y j) r (Y 125) n)) 125 t)) 105 15 1) := by
  intro Q hQ
  show ss c mX8_corner (d + 3) Q 0 [(0, .ref (c_ad c 105)), (1, .int (nI j))] [] (X) (Y)
  have hj : j < 12 := by omega
  have hwj : ix (nI j) m = true := ix_of hjm (by omega)
  refine ss_aload_n dX8_corner_0 0 rfl ?_
  refine ss_iload_n dX8_corner_1 1 rfl ?_
  refine ss_callV (As := [_]) (i := 105) dX8_corner_2 vlX8_157 clX8_isWorth rfl rfl (by omega) (sh_r105 _ _) rfl (Nat.le_of_ble_eq_true rfl) (Nat.le_of_ble_eq_true rfl) (m_isWorth hm h7) ?_
  refine sy_if_ne 12 dX8_corner_5 (by decide) (fun c5 => ?_) (fun c5 => by first | exact kd_tf (hwj) c5 | exact kd_ft (hwj) c5 | exact absurd (hwj) c5 | exact absurd c5 (hwj))
  refine ss_aload_n dX8_corner_12 0 rfl ?_
  refine ss_iload_n dX8_corner_13 1 rfl ?_
  refine ss_callV (As := [_]) (i := 105) dX8_corner_14 vlX8_225 clX8_findCorner rfl rfl (by omega) (sh_r105 _ _) rfl (Nat.le_of_ble_eq_true rfl) (Nat.le_of_ble_eq_true rfl) (m_findCorner hj hn h6 hr hr2) ?_
  refine ss_iconst (v := nI 0) dX8_corner_17 (by decide) ?_
  refine ss_istore_n (lv' := [(2, _), (0, _), (1, _)]) dX8_corner_18 (by decide) rfl ?_
  have h9 := l_corner (X := X) (Y := (srw Y 125 (cor (vr Y j) r (Y 125) n))) (c := c) (d := d) (Q := Q) hj hn h6 hQ n 0 (by omega)
  rw [mpl_0] at h9
  exact h9
def f_mb (Y : nY) (f g : Int32) : Nat → Int64 := fun t => Y 118 t * f.toInt64 + Y 125 t * g.toInt64
def p_mb (Y : nY) (f g : Int32) : Nat → Bool := fun t => !(decide (szl (f_mb Y f g t) ≤ 1000000000000000))
theorem p_mb_t {Y : nY} {f g : Int32} {k : Nat} (h : 1000000000000000 < szl (f_mb Y f g k)) : p_mb Y f g k = true := by
  unfold p_mb
  rw [Int64.lt_iff_toInt_lt] at h
  simp only [Bool.not_eq_true', decide_eq_false_iff_not, Int64.le_iff_toInt_le]
  omega
theorem p_mb_f {Y : nY} {f g : Int32} {k : Nat} (h : ¬ 1000000000000000 < szl (f_mb Y f g k)) : p_mb Y f g k = false := by
  unfold p_mb
  rw [Int64.lt_iff_toInt_lt] at h
  simp only [Bool.not_eq_false', decide_eq_true_eq, Int64.le_iff_toInt_le]
  omega
set_option maxHeartbeats 1000000 in
set_option maxRecDepth 100000 in
theorem l_mix1 {c : cx} {d : Nat} {X : nX} {Y : nY} {Q : Option Value → nX → nY → Prop} {w : Nat} (hw : w < 12) {n : Nat} (hn : n ≤ 10) (h6 : X 105 0 = nI n) {f g : Int32} {g0 : Bool} (hQ : ∀ k9, k9 = n → ss c mX8_mix (d + 3) Q 138 [(5, .int (nI k9)), (4, .int (bI (g0 && !(lany (p_mb Y f g) n)))), (0, .ref (c_ad c 105)), (1, .int (nI w)), (2, .int f), (3, .int g)] [] X Y) : ∀ (nn i : Nat), i + nn = n → ss c mX8_mix (d + 3) Q 80 [(5, .int (nI i)), (4, .int (bI (g0 && !(lany (p_mb Y f g) i)))), (0, .ref (c_ad c 105)), (1, .int (nI w)), (2, .int f), (3, .int g)] [] (X) (Y) := by
  intro nn
  induction nn with
  | zero =>
      intro i hin
      simp only [Nat.add_zero] at hin
      subst hin
      refine ss_iload dX8_mix_80 0 rfl ?_
      refine ss_aload_n dX8_mix_82 2 rfl ?_
      refine ss_get (i := 105) dX8_mix_83 flX8_80 (by omega) (sh_r105 _ _) rfl ?_
      rw [h6]
      refine sz_icmp_ge 138 dX8_mix_86 (by decide) (by omega) (by omega) (fun c86 => ?_) (fun c86 => by omega)
      exact hQ _ rfl
  | succ nn ih =>
      intro i hin
      refine ss_iload dX8_mix_80 0 rfl ?_
      refine ss_aload_n dX8_mix_82 2 rfl ?_
      refine ss_get (i := 105) dX8_mix_83 flX8_80 (by omega) (sh_r105 _ _) rfl ?_
      rw [h6]
      refine sz_icmp_ge 138 dX8_mix_86 (by decide) (by omega) (by omega) (fun c86 => by omega) (fun c86 => ?_)
      refine ss_iload dX8_mix_89 1 rfl ?_
      refine sy_if_eq 129 dX8_mix_91 (by decide) (fun c91 => ?_) (fun c91 => ?_)
      · skip
        refine ss_iconst (v := nI 0) dX8_mix_129 (by decide) ?_
        refine ss_istore (lv' := [(4, _), (5, _), (0, _), (1, _), (2, _), (3, _)]) dX8_mix_130 (by decide) rfl ?_
        refine sz_inc (lv' := [(5, _), (4, _), (0, _), (1, _), (2, _), (3, _)]) dX8_mix_132 1 rfl (by decide) rfl ?_
        refine ss_goto 80 dX8_mix_135 (by decide) ?_
        have e9 : (g0 && !(lany (p_mb Y f g) (i + 1))) = false := by rw [lany_s]; revert c91; cases g0 <;> cases lany (p_mb Y f g) i <;> simp
        have h7 := ih (i + 1) (by omega)
        rw [e9] at h7
        exact h7
      · skip
        refine ss_aload_n dX8_mix_94 2 rfl ?_
        refine ss_get (i := 105) dX8_mix_95 flX8_48 (by omega) (sh_r105 _ _) rfl ?_
        refine ss_iload dX8_mix_98 0 rfl ?_
        refine ss_lald (i := 118) dX8_mix_100 (by omega) (sh_r118) (by omega) (by decide) ?_
        refine ss_iload_n dX8_mix_101 4 rfl ?_
        refine ss_i2l dX8_mix_102 ?_
        refine ss_lmul dX8_mix_103 ?_
        refine ss_aload_n dX8_mix_104 2 rfl ?_
        refine ss_get (i := 105) dX8_mix_105 flX8_73 (by omega) (sh_r105 _ _) rfl ?_
        refine ss_iload dX8_mix_108 0 rfl ?_
        refine ss_lald (i := 125) dX8_mix_110 (by omega) (sh_r125) (by omega) (by decide) ?_
        refine ss_iload_n dX8_mix_111 5 rfl ?_
        refine ss_i2l dX8_mix_112 ?_
        refine ss_lmul dX8_mix_113 ?_
        refine ss_ladd dX8_mix_114 ?_
        refine ss_callS (As := [_]) dX8_mix_115 vlX8_124 clX8_size rfl rfl (Nat.le_of_ble_eq_true rfl) (Nat.le_of_ble_eq_true rfl) (m_size) ?_
        refine ss_ldc2 dX8_mix_118 kcX8_230 ?_
        refine sv_gt 129 dX8_mix_121 dX8_mix_122 (by decide) (fun c121 => ?_) (fun c121 => ?_)
        · skip
          refine ss_iconst (v := nI 0) dX8_mix_129 (by decide) ?_
          refine ss_istore (lv' := [(4, _), (5, _), (0, _), (1, _), (2, _), (3, _)]) dX8_mix_130 (by decide) rfl ?_
          refine sz_inc (lv' := [(5, _), (4, _), (0, _), (1, _), (2, _), (3, _)]) dX8_mix_132 1 rfl (by decide) rfl ?_
          refine ss_goto 80 dX8_mix_135 (by decide) ?_
          have e9 : (g0 && !(lany (p_mb Y f g) (i + 1))) = false := by rw [lany_s, show p_mb Y f g i = true from p_mb_t c121]; simp
          have h7 := ih (i + 1) (by omega)
          rw [e9] at h7
          exact h7
        · skip
          refine ss_iconst (v := nI 1) dX8_mix_125 (by decide) ?_
          refine ss_goto 130 dX8_mix_126 (by decide) ?_
          refine ss_istore (lv' := [(4, _), (5, _), (0, _), (1, _), (2, _), (3, _)]) dX8_mix_130 (by decide) rfl ?_
          refine sz_inc (lv' := [(5, _), (4, _), (0, _), (1, _), (2, _), (3, _)]) dX8_mix_132 1 rfl (by decide) rfl ?_
          refine ss_goto 80 dX8_mix_135 (by decide) ?_
          have e9 : (g0 && !(lany (p_mb Y f g) (i + 1))) = true := by rw [lany_s, show p_mb Y f g i = false from p_mb_f c121, Bool.or_false]; exact c91
          have h7 := ih (i + 1) (by omega)
          rw [e9] at h7
          exact h7
set_option maxHeartbeats 1000000 in
set_option maxRecDepth 100000 in
theorem l_mix2 {c : cx} {d : Nat} {X : nX} {Y : nY} {Q : Option Value → nX → nY → Prop} {w : Nat} (hw : w < 12) {n : Nat} (hn : n ≤ 10) (h6 : X 105 0 = nI n) {f g : Int32} (hQ : Q (some (.int (Y 105 15 * f.toInt64 + g.toInt64).toInt32)) X (upl (mpl Y 118 0 n (f_mb Y f g)) 105 15 (Y 105 15 * f.toInt64 + g.toInt64))) : ∀ (nn i : Nat), i + nn = n → ss c mX8_mix (d + 3) Q 150 [(5, .int (nI i)), (4, .int (bI true)), (0, .ref (c_ad c 105)), (1, .int (nI w)), (2, .int f), (3, .int g)] [] (X) (mpl Y 118 0 i (f_mb Y f g)) := by
  intro nn
  induction nn with
  | zero =>
      intro i hin
      simp only [Nat.add_zero] at hin
      subst hin
      refine ss_iload dX8_mix_150 0 rfl ?_
      refine ss_aload_n dX8_mix_152 2 rfl ?_
      refine ss_get (i := 105) dX8_mix_153 flX8_80 (by omega) (sh_r105 _ _) rfl ?_
      rw [h6]
      refine sz_icmp_ge 193 dX8_mix_156 (by decide) (by omega) (by omega) (fun c156 => ?_) (fun c156 => by omega)
      refine ss_aload_n dX8_mix_193 2 rfl ?_
      refine ss_aload_n dX8_mix_194 2 rfl ?_
      refine ss_get (i := 105) dX8_mix_195 flX8_51 (by omega) (sh_r105 _ _) rfl ?_
      rw [mpl_ne (by omega)]
      refine ss_iload_n dX8_mix_198 4 rfl ?_
      refine ss_i2l dX8_mix_199 ?_
      refine ss_lmul dX8_mix_200 ?_
      refine ss_iload_n dX8_mix_201 5 rfl ?_
      refine ss_i2l dX8_mix_202 ?_
      refine ss_ladd dX8_mix_203 ?_
      refine ss_putj (i := 105) dX8_mix_204 fwX8_51 (by omega) (sh_r105 _ _) (Nat.le_of_ble_eq_true rfl) (sh_r105 _ _) ?_
      refine ss_aload_n dX8_mix_207 2 rfl ?_
      refine ss_get (i := 105) dX8_mix_208 flX8_51 (by omega) (sh_r105 _ _) rfl ?_
      rw [upl_at, if_pos ⟨rfl, rfl⟩]
      refine ss_l2i dX8_mix_211 ?_
      exact ss_iret dX8_mix_212 rfl rfl (hQ)
  | succ nn ih =>
      intro i hin
      refine ss_iload dX8_mix_150 0 rfl ?_
      refine ss_aload_n dX8_mix_152 2 rfl ?_
      refine ss_get (i := 105) dX8_mix_153 flX8_80 (by omega) (sh_r105 _ _) rfl ?_
      rw [h6]
      refine sz_icmp_ge 193 dX8_mix_156 (by decide) (by omega) (by omega) (fun c156 => by omega) (fun c156 => ?_)
      refine ss_aload_n dX8_mix_159 2 rfl ?_
      refine ss_get (i := 105) dX8_mix_160 flX8_48 (by omega) (sh_r105 _ _) rfl ?_
      refine ss_iload dX8_mix_163 0 rfl ?_
      refine ss_aload_n dX8_mix_165 2 rfl ?_
      refine ss_get (i := 105) dX8_mix_166 flX8_48 (by omega) (sh_r105 _ _) rfl ?_
      refine ss_iload dX8_mix_169 0 rfl ?_
      refine ss_lald (i := 118) dX8_mix_171 (by omega) (sh_r118) (by omega) (by decide) ?_
      rw [mpl_at]
      refine ss_iload_n dX8_mix_172 4 rfl ?_
      refine ss_i2l dX8_mix_173 ?_
      refine ss_lmul dX8_mix_174 ?_
      refine ss_aload_n dX8_mix_175 2 rfl ?_
      refine ss_get (i := 105) dX8_mix_176 flX8_73 (by omega) (sh_r105 _ _) rfl ?_
      refine ss_iload dX8_mix_179 0 rfl ?_
      refine ss_lald (i := 125) dX8_mix_181 (by omega) (sh_r125) (by omega) (by decide) ?_
      rw [mpl_ne (by omega)]
      refine ss_iload_n dX8_mix_182 5 rfl ?_
      refine ss_i2l dX8_mix_183 ?_
      refine ss_lmul dX8_mix_184 ?_
      refine ss_ladd dX8_mix_185 ?_
      refine ss_last (i := 118) dX8_mix_186 (by omega) (sh_r118) (by omega) (by decide) ?_
      refine sz_inc (lv' := [(5, _), (4, _), (0, _), (1, _), (2, _), (3, _)]) dX8_mix_187 0 rfl (by decide) rfl ?_
      refine ss_goto 150 dX8_mix_190 (by decide) ?_
      refine ss_eY (mpl_s (Nat.zero_le _) rfl) ?_
      exact ih (i + 1) (by omega)
set_option maxHeartbeats 1000000 in
set_option maxRecDepth 100000 in
theorem r_mix_o1 {c : cx} {d : Nat} {X : nX} {Y : nY} {m : Nat} (hm : m ≤ 12) (h7 : X 105 1 = nI m) {j : Nat} (hjm : j < m) {f g : Int32} (hf : ix f 1001 = false ∨ ix g 1001 = false) : sc c mX8_mix (d + 3) [.ref (c_ad c 105), .int (nI j), .int f, .int g] (X) (Y) (some (.int (-1002))) (X) (Y) := by
  intro Q hQ
  show ss c mX8_mix (d + 3) Q 0 [(0, .ref (c_ad c 105)), (1, .int (nI j)), (2, .int f), (3, .int g)] [] (X) (Y)
  have hj : j < 12 := by omega
  have hwj : ix (nI j) m = true := ix_of hjm (by omega)
  have hf9 : wi f.toInt64 0 1000 = ix f 1001 := wi_ix (n := 1001) rfl
  have hg9 : wi g.toInt64 0 1000 = ix g 1001 := wi_ix (n := 1001) rfl
  refine ss_aload_n dX8_mix_0 0 rfl ?_
  refine ss_iload_n dX8_mix_1 1 rfl ?_
  refine ss_callV (As := [_]) (i := 105) dX8_mix_2 vlX8_157 clX8_isWorth rfl rfl (by omega) (sh_r105 _ _) rfl (Nat.le_of_ble_eq_true rfl) (Nat.le_of_ble_eq_true rfl) (m_isWorth hm h7) ?_
  refine sy_if_ne 12 dX8_mix_5 (by decide) (fun c5 => ?_) (fun c5 => by first | exact kd_tf (hwj) c5 | exact kd_ft (hwj) c5 | exact absurd (hwj) c5 | exact absurd c5 (hwj))
  refine ss_iload_n dX8_mix_12 2 rfl ?_
  refine ss_i2l dX8_mix_13 ?_
  refine ss_lconst (v := 0) dX8_mix_14 (by decide) ?_
  refine ss_ldc2 dX8_mix_15 kcX8_228 ?_
  refine ss_callS (As := [_, _, _]) dX8_mix_18 vlX8_89 clX8_within rfl rfl (Nat.le_of_ble_eq_true rfl) (Nat.le_of_ble_eq_true rfl) (m_within) ?_
  refine sy_if_eq 44 dX8_mix_21 (by decide) (fun c21 => ?_) (fun c21 => ?_)
  · skip
    refine ss_sipush (v := -1002) dX8_mix_44 (by decide) ?_
    exact ss_iret dX8_mix_47 rfl rfl (hQ)
  · skip
    refine ss_iload_n dX8_mix_24 3 rfl ?_
    refine ss_i2l dX8_mix_25 ?_
    refine ss_lconst (v := 0) dX8_mix_26 (by decide) ?_
    refine ss_ldc2 dX8_mix_27 kcX8_228 ?_
    refine ss_callS (As := [_, _, _]) dX8_mix_30 vlX8_89 clX8_within rfl rfl (Nat.le_of_ble_eq_true rfl) (Nat.le_of_ble_eq_true rfl) (m_within) ?_
    refine sy_if_eq 44 dX8_mix_33 (by decide) (fun c33 => ?_) (fun c33 => by rcases hf with h8 | h8; exact kd_tf c21 (hf9.trans h8); exact kd_tf c33 (hg9.trans h8))
    refine ss_sipush (v := -1002) dX8_mix_44 (by decide) ?_
    exact ss_iret dX8_mix_47 rfl rfl (hQ)
set_option maxHeartbeats 1000000 in
set_option maxRecDepth 100000 in
theorem r_mix_o2 {c : cx} {d : Nat} {X : nX} {Y : nY} {m : Nat} (hm : m ≤ 12) (h7 : X 105 1 = nI m) {j : Nat} (hjm : j < m) : sc c mX8_mix (d + 3) [.ref (c_ad c 105), .int (nI j), .int (nI 0), .int (nI 0)] (X) (Y) (some (.int (-1002))) (X) (Y) := by
  intro Q hQ
  show ss c mX8_mix (d + 3) Q 0 [(0, .ref (c_ad c 105)), (1, .int (nI j)), (2, .int (nI 0)), (3, .int (nI 0))] [] (X) (Y)
  have hj : j < 12 := by omega
  have hwj : ix (nI j) m = true := ix_of hjm (by omega)
  refine ss_aload_n dX8_mix_0 0 rfl ?_
  refine ss_iload_n dX8_mix_1 1 rfl ?_
  refine ss_callV (As := [_]) (i := 105) dX8_mix_2 vlX8_157 clX8_isWorth rfl rfl (by omega) (sh_r105 _ _) rfl (Nat.le_of_ble_eq_true rfl) (Nat.le_of_ble_eq_true rfl) (m_isWorth hm h7) ?_
  refine sy_if_ne 12 dX8_mix_5 (by decide) (fun c5 => ?_) (fun c5 => by first | exact kd_tf (hwj) c5 | exact kd_ft (hwj) c5 | exact absurd (hwj) c5 | exact absurd c5 (hwj))
  refine ss_iload_n dX8_mix_12 2 rfl ?_
  refine ss_i2l dX8_mix_13 ?_
  refine ss_lconst (v := 0) dX8_mix_14 (by decide) ?_
  refine ss_ldc2 dX8_mix_15 kcX8_228 ?_
  refine ss_callS (As := [_, _, _]) dX8_mix_18 vlX8_89 clX8_within rfl rfl (Nat.le_of_ble_eq_true rfl) (Nat.le_of_ble_eq_true rfl) (m_within) ?_
  refine sy_if_eq 44 dX8_mix_21 (by decide) (fun c21 => by first | exact kd_tf (by decide) c21 | exact kd_ft (by decide) c21 | exact absurd (by decide) c21 | exact absurd c21 (by decide)) (fun c21 => ?_)
  refine ss_iload_n dX8_mix_24 3 rfl ?_
  refine ss_i2l dX8_mix_25 ?_
  refine ss_lconst (v := 0) dX8_mix_26 (by decide) ?_
  refine ss_ldc2 dX8_mix_27 kcX8_228 ?_
  refine ss_callS (As := [_, _, _]) dX8_mix_30 vlX8_89 clX8_within rfl rfl (Nat.le_of_ble_eq_true rfl) (Nat.le_of_ble_eq_true rfl) (m_within) ?_
  refine sy_if_eq 44 dX8_mix_33 (by decide) (fun c33 => by first | exact kd_tf (by decide) c33 | exact kd_ft (by decide) c33 | exact absurd (by decide) c33 | exact absurd c33 (by decide)) (fun c33 => ?_)
  refine ss_iload_n dX8_mix_36 2 rfl ?_
  refine ss_if_ne 48 dX8_mix_37 (by decide) (fun c37 => by first | exact kd_tf (rfl) c37 | exact kd_ft (rfl) c37 | exact absurd (rfl) c37 | exact absurd c37 (rfl)) (fun c37 => ?_)
  refine ss_iload_n dX8_mix_40 3 rfl ?_
  refine ss_if_ne 48 dX8_mix_41 (by decide) (fun c41 => by first | exact kd_tf (rfl) c41 | exact kd_ft (rfl) c41 | exact absurd (rfl) c41 | exact absurd c41 (rfl)) (fun c41 => ?_)
  refine ss_sipush (v := -1002) dX8_mix_44 (by decide) ?_
  exact ss_iret dX8_mix_47 rfl rfl (hQ)
set_option maxHeartbeats 1000000 in
set_option maxRecDepth 100000 in
theorem r_mix_la {c : cx} {d : Nat} {X : nX} {Y : nY} {n : Nat} (hn : n ≤ 10) (h6 : X 105 0 = nI n) {m : Nat} (hm : m ≤ 12) (h7 : X 105 1 = nI m) {j : Nat} (hjm : j < m) {r : Nat → Nat} (hr : ∀ k, k < n → X 117 k = nI (r k)) (hr2 : ∀ k, k < n → r k < 10) {f g : Int32} (hf : ix f 1001 = true) (hg : ix g 1001 = true) (hz : ¬ f = 0) (hl : (decide ((Y 105 15 * f.toInt64 + g.toInt64) ≤ 1000000) && !(lany (p_mb (srw Y 125 (cor (vr Y j) r (Y 125) n)) f g) n)) = false) : sc c mX8_mix (d + 3) [.ref (c_ad c 105), .int (nI j), .int f, .int g] (X) (Y) (some (.int (-1005))) (X) ((srw Y 125 (cor (vr Y j) r (Y 125) n))) := by
  intro Q hQ
  show ss c mX8_mix (d + 3) Q 0 [(0, .ref (c_ad c 105)), (1, .int (nI j)), (2, .int f), (3, .int g)] [] (X) (Y)
  have hj : j < 12 := by omega
  have hwj : ix (nI j) m = true := ix_of hjm (by omega)
  refine ss_aload_n dX8_mix_0 0 rfl ?_
  refine ss_iload_n dX8_mix_1 1 rfl ?_
  refine ss_callV (As := [_]) (i := 105) dX8_mix_2 vlX8_157 clX8_isWorth rfl rfl (by omega) (sh_r105 _ _) rfl (Nat.le_of_ble_eq_true rfl) (Nat.le_of_ble_eq_true rfl) (m_isWorth hm h7) ?_
  refine sy_if_ne 12 dX8_mix_5 (by decide) (fun c5 => ?_) (fun c5 => by first | exact kd_tf (hwj) c5 | exact kd_ft (hwj) c5 | exact absurd (hwj) c5 | exact absurd c5 (hwj))
  refine ss_iload_n dX8_mix_12 2 rfl ?_
  refine ss_i2l dX8_mix_13 ?_
  refine ss_lconst (v := 0) dX8_mix_14 (by decide) ?_
  refine ss_ldc2 dX8_mix_15 kcX8_228 ?_
  refine ss_callS (As := [_, _, _]) dX8_mix_18 vlX8_89 clX8_within rfl rfl (Nat.le_of_ble_eq_true rfl) (Nat.le_of_ble_eq_true rfl) (m_within) ?_
  refine sy_if_eq 44 dX8_mix_21 (by decide) (fun c21 => by first | exact kd_tf (by rw [wi_ix (n := 1001) rfl]; exact hf) c21 | exact kd_ft (by rw [wi_ix (n := 1001) rfl]; exact hf) c21 | exact absurd (by rw [wi_ix (n := 1001) rfl]; exact hf) c21 | exact absurd c21 (by rw [wi_ix (n := 1001) rfl]; exact hf)) (fun c21 => ?_)
  refine ss_iload_n dX8_mix_24 3 rfl ?_
  refine ss_i2l dX8_mix_25 ?_
  refine ss_lconst (v := 0) dX8_mix_26 (by decide) ?_
  refine ss_ldc2 dX8_mix_27 kcX8_228 ?_
  refine ss_callS (As := [_, _, _]) dX8_mix_30 vlX8_89 clX8_within rfl rfl (Nat.le_of_ble_eq_true rfl) (Nat.le_of_ble_eq_true rfl) (m_within) ?_
  refine sy_if_eq 44 dX8_mix_33 (by decide) (fun c33 => by first | exact kd_tf (by rw [wi_ix (n := 1001) rfl]; exact hg) c33 | exact kd_ft (by rw [wi_ix (n := 1001) rfl]; exact hg) c33 | exact absurd (by rw [wi_ix (n := 1001) rfl]; exact hg) c33 | exact absurd c33 (by rw [wi_ix (n := 1001) rfl]; exact hg)) (fun c33 => ?_)
  refine ss_iload_n dX8_mix_36 2 rfl ?_
  refine ss_if_ne 48 dX8_mix_37 (by decide) (fun c37 => ?_) (fun c37 => by first | exact kd_tf (hz) c37 | exact kd_ft (hz) c37 | exact absurd (hz) c37 | exact absurd c37 (hz))
  refine ss_aload_n dX8_mix_48 0 rfl ?_
  refine ss_iload_n dX8_mix_49 1 rfl ?_
  refine ss_callV (As := [_]) (i := 105) dX8_mix_50 vlX8_225 clX8_findCorner rfl rfl (by omega) (sh_r105 _ _) rfl (Nat.le_of_ble_eq_true rfl) (Nat.le_of_ble_eq_true rfl) (m_findCorner hj hn h6 hr hr2) ?_
  refine ss_aload_n dX8_mix_53 0 rfl ?_
  refine ss_get (i := 105) dX8_mix_54 flX8_51 (by omega) (sh_r105 _ _) rfl ?_
  rw [srw_ne (by omega)]
  refine ss_iload_n dX8_mix_57 2 rfl ?_
  refine ss_i2l dX8_mix_58 ?_
  refine ss_lmul dX8_mix_59 ?_
  refine ss_iload_n dX8_mix_60 3 rfl ?_
  refine ss_i2l dX8_mix_61 ?_
  refine ss_ladd dX8_mix_62 ?_
  refine ss_ldc2 dX8_mix_63 kcX8_174 ?_
  refine sv_gt 74 dX8_mix_66 dX8_mix_67 (by decide) (fun c66 => ?_) (fun c66 => ?_)
  · skip
    refine ss_iconst (v := nI 0) dX8_mix_74 (by decide) ?_
    refine ss_istore (lv' := [(4, _), (0, _), (1, _), (2, _), (3, _)]) dX8_mix_75 (by decide) rfl ?_
    refine ss_iconst (v := nI 0) dX8_mix_77 (by decide) ?_
    refine ss_istore (lv' := [(5, _), (4, _), (0, _), (1, _), (2, _), (3, _)]) dX8_mix_78 (by decide) rfl ?_
    have e8 : decide ((Y 105 15 * f.toInt64 + g.toInt64) ≤ 1000000) = false := decide_eq_false (by rw [Int64.le_iff_toInt_le]; rw [Int64.lt_iff_toInt_lt] at c66; omega)
    refine ss_eL (lv' := [(5, .int (nI 0)), (4, .int (bI (decide ((Y 105 15 * f.toInt64 + g.toInt64) ≤ 1000000) && !(lany (p_mb (srw Y 125 (cor (vr Y j) r (Y 125) n)) f g) 0)))), (0, .ref (c_ad c 105)), (1, .int (nI j)), (2, .int f), (3, .int g)]) (by rw [e8]; rfl) ?_
    refine l_mix1 hj hn h6 (fun k9 hk9 => ?_) n 0 (by omega)
    rw [hl]
    refine ss_iload dX8_mix_138 1 rfl ?_
    refine sy_if_ne 147 dX8_mix_140 (by decide) (fun c140 => by first | exact kd_tf (rfl) c140 | exact kd_ft (rfl) c140 | exact absurd (rfl) c140 | exact absurd c140 (rfl)) (fun c140 => ?_)
    refine ss_sipush (v := -1005) dX8_mix_143 (by decide) ?_
    exact ss_iret dX8_mix_146 rfl rfl (hQ)
  · skip
    refine ss_iconst (v := nI 1) dX8_mix_70 (by decide) ?_
    refine ss_goto 75 dX8_mix_71 (by decide) ?_
    refine ss_istore (lv' := [(4, _), (0, _), (1, _), (2, _), (3, _)]) dX8_mix_75 (by decide) rfl ?_
    refine ss_iconst (v := nI 0) dX8_mix_77 (by decide) ?_
    refine ss_istore (lv' := [(5, _), (4, _), (0, _), (1, _), (2, _), (3, _)]) dX8_mix_78 (by decide) rfl ?_
    have e8 : decide ((Y 105 15 * f.toInt64 + g.toInt64) ≤ 1000000) = true := decide_eq_true (by rw [Int64.le_iff_toInt_le]; rw [Int64.lt_iff_toInt_lt] at c66; omega)
    refine ss_eL (lv' := [(5, .int (nI 0)), (4, .int (bI (decide ((Y 105 15 * f.toInt64 + g.toInt64) ≤ 1000000) && !(lany (p_mb (srw Y 125 (cor (vr Y j) r (Y 125) n)) f g) 0)))), (0, .ref (c_ad c 105)), (1, .int (nI j)), (2, .int f), (3, .int g)]) (by rw [e8]; rfl) ?_
    refine l_mix1 hj hn h6 (fun k9 hk9 => ?_) n 0 (by omega)
    rw [hl]
    refine ss_iload dX8_mix_138 1 rfl ?_
    refine sy_if_ne 147 dX8_mix_140 (by decide) (fun c140 => by first | exact kd_tf (rfl) c140 | exact kd_ft (rfl) c140 | exact absurd (rfl) c140 | exact absurd c140 (rfl)) (fun c140 => ?_)
    refine ss_sipush (v := -1005) dX8_mix_143 (by decide) ?_
    exact ss_iret dX8_mix_146 rfl rfl (hQ)
set_option maxHeartbeats 1000000 in
set_option maxRecDepth 100000 in
theorem r_mix_ka {c : cx} {d : Nat} {X : nX} {Y : nY} {n : Nat} (hn : n ≤ 10) (h6 : X 105 0 = nI n) {m : Nat} (hm : m ≤ 12) (h7 : X 105 1 = nI m) {j : Nat} (hjm : j < m) {r : Nat → Nat} (hr : ∀ k, k < n → X 117 k = nI (r k)) (hr2 : ∀ k, k < n → r k < 10) {f g : Int32} (hf : ix f 1001 = true) (hg : ix g 1001 = true) (hz : ¬ f = 0) (hl : (decide ((Y 105 15 * f.toInt64 + g.toInt64) ≤ 1000000) && !(lany (p_mb (srw Y 125 (cor (vr Y j) r (Y 125) n)) f g) n)) = true) : sc c mX8_mix (d + 3) [.ref (c_ad c 105), .int (nI j), .int f, .int g] (X) (Y) (some (.int (Y 105 15 * f.toInt64 + g.toInt64).toInt32)) (X) (upl (mpl (srw Y 125 (cor (vr Y j) r (Y 125) n)) 118 0 n (f_mb (srw Y 125 (cor (vr Y j) r (Y 125) n)) f g)) 105 15 (Y 105 15 * f.toInt64 + g.toInt64)) := by
  intro Q hQ
  show ss c mX8_mix (d + 3) Q 0 [(0, .ref (c_ad c 105)), (1, .int (nI j)), (2, .int f), (3, .int g)] [] (X) (Y)
  have hj : j < 12 := by omega
  have hwj : ix (nI j) m = true := ix_of hjm (by omega)
  refine ss_aload_n dX8_mix_0 0 rfl ?_
  refine ss_iload_n dX8_mix_1 1 rfl ?_
  refine ss_callV (As := [_]) (i := 105) dX8_mix_2 vlX8_157 clX8_isWorth rfl rfl (by omega) (sh_r105 _ _) rfl (Nat.le_of_ble_eq_true rfl) (Nat.le_of_ble_eq_true rfl) (m_isWorth hm h7) ?_
  refine sy_if_ne 12 dX8_mix_5 (by decide) (fun c5 => ?_) (fun c5 => by first | exact kd_tf (hwj) c5 | exact kd_ft (hwj) c5 | exact absurd (hwj) c5 | exact absurd c5 (hwj))
  refine ss_iload_n dX8_mix_12 2 rfl ?_
  refine ss_i2l dX8_mix_13 ?_
  refine ss_lconst (v := 0) dX8_mix_14 (by decide) ?_
  refine ss_ldc2 dX8_mix_15 kcX8_228 ?_
  refine ss_callS (As := [_, _, _]) dX8_mix_18 vlX8_89 clX8_within rfl rfl (Nat.le_of_ble_eq_true rfl) (Nat.le_of_ble_eq_true rfl) (m_within) ?_
  refine sy_if_eq 44 dX8_mix_21 (by decide) (fun c21 => by first | exact kd_tf (by rw [wi_ix (n := 1001) rfl]; exact hf) c21 | exact kd_ft (by rw [wi_ix (n := 1001) rfl]; exact hf) c21 | exact absurd (by rw [wi_ix (n := 1001) rfl]; exact hf) c21 | exact absurd c21 (by rw [wi_ix (n := 1001) rfl]; exact hf)) (fun c21 => ?_)
  refine ss_iload_n dX8_mix_24 3 rfl ?_
  refine ss_i2l dX8_mix_25 ?_
  refine ss_lconst (v := 0) dX8_mix_26 (by decide) ?_
  refine ss_ldc2 dX8_mix_27 kcX8_228 ?_
  refine ss_callS (As := [_, _, _]) dX8_mix_30 vlX8_89 clX8_within rfl rfl (Nat.le_of_ble_eq_true rfl) (Nat.le_of_ble_eq_true rfl) (m_within) ?_
  refine sy_if_eq 44 dX8_mix_33 (by decide) (fun c33 => by first | exact kd_tf (by rw [wi_ix (n := 1001) rfl]; exact hg) c33 | exact kd_ft (by rw [wi_ix (n := 1001) rfl]; exact hg) c33 | exact absurd (by rw [wi_ix (n := 1001) rfl]; exact hg) c33 | exact absurd c33 (by rw [wi_ix (n := 1001) rfl]; exact hg)) (fun c33 => ?_)
  refine ss_iload_n dX8_mix_36 2 rfl ?_
  refine ss_if_ne 48 dX8_mix_37 (by decide) (fun c37 => ?_) (fun c37 => by first | exact kd_tf (hz) c37 | exact kd_ft (hz) c37 | exact absurd (hz) c37 | exact absurd c37 (hz))
  refine ss_aload_n dX8_mix_48 0 rfl ?_
  refine ss_iload_n dX8_mix_49 1 rfl ?_
  refine ss_callV (As := [_]) (i := 105) dX8_mix_50 vlX8_225 clX8_findCorner rfl rfl (by omega) (sh_r105 _ _) rfl (Nat.le_of_ble_eq_true rfl) (Nat.le_of_ble_eq_true rfl) (m_findCorner hj hn h6 hr hr2) ?_
  refine ss_aload_n dX8_mix_53 0 rfl ?_
  refine ss_get (i := 105) dX8_mix_54 flX8_51 (by omega) (sh_r105 _ _) rfl ?_
  rw [srw_ne (by omega)]
  refine ss_iload_n dX8_mix_57 2 rfl ?_
  refine ss_i2l dX8_mix_58 ?_
  refine ss_lmul dX8_mix_59 ?_
  refine ss_iload_n dX8_mix_60 3 rfl ?_
  refine ss_i2l dX8_mix_61 ?_
  refine ss_ladd dX8_mix_62 ?_
  refine ss_ldc2 dX8_mix_63 kcX8_174 ?_
  refine sv_gt 74 dX8_mix_66 dX8_mix_67 (by decide) (fun c66 => ?_) (fun c66 => ?_)
  · skip
    refine ss_iconst (v := nI 0) dX8_mix_74 (by decide) ?_
    refine ss_istore (lv' := [(4, _), (0, _), (1, _), (2, _), (3, _)]) dX8_mix_75 (by decide) rfl ?_
    refine ss_iconst (v := nI 0) dX8_mix_77 (by decide) ?_
    refine ss_istore (lv' := [(5, _), (4, _), (0, _), (1, _), (2, _), (3, _)]) dX8_mix_78 (by decide) rfl ?_
    have e8 : decide ((Y 105 15 * f.toInt64 + g.toInt64) ≤ 1000000) = false := decide_eq_false (by rw [Int64.le_iff_toInt_le]; rw [Int64.lt_iff_toInt_lt] at c66; omega)
    refine ss_eL (lv' := [(5, .int (nI 0)), (4, .int (bI (decide ((Y 105 15 * f.toInt64 + g.toInt64) ≤ 1000000) && !(lany (p_mb (srw Y 125 (cor (vr Y j) r (Y 125) n)) f g) 0)))), (0, .ref (c_ad c 105)), (1, .int (nI j)), (2, .int f), (3, .int g)]) (by rw [e8]; rfl) ?_
    refine l_mix1 hj hn h6 (fun k9 hk9 => ?_) n 0 (by omega)
    rw [hl]
    refine ss_iload dX8_mix_138 1 rfl ?_
    refine sy_if_ne 147 dX8_mix_140 (by decide) (fun c140 => ?_) (fun c140 => by first | exact kd_tf (rfl) c140 | exact kd_ft (rfl) c140 | exact absurd (rfl) c140 | exact absurd c140 (rfl))
    refine ss_iconst (v := nI 0) dX8_mix_147 (by decide) ?_
    refine ss_istore (lv' := [(5, _), (4, _), (0, _), (1, _), (2, _), (3, _)]) dX8_mix_148 (by decide) rfl ?_
    have h9 := l_mix2 (X := X) (Y := (srw Y 125 (cor (vr Y j) r (Y 125) n))) (c := c) (d := d) (Q := Q) (f := f) (g := g) hj hn h6 (by rw [srw_ne (by omega)]; exact hQ) n 0 (by omega)
    rw [mpl_0] at h9
    exact h9
  · skip
    refine ss_iconst (v := nI 1) dX8_mix_70 (by decide) ?_
    refine ss_goto 75 dX8_mix_71 (by decide) ?_
    refine ss_istore (lv' := [(4, _), (0, _), (1, _), (2, _), (3, _)]) dX8_mix_75 (by decide) rfl ?_
    refine ss_iconst (v := nI 0) dX8_mix_77 (by decide) ?_
    refine ss_istore (lv' := [(5, _), (4, _), (0, _), (1, _), (2, _), (3, _)]) dX8_mix_78 (by decide) rfl ?_
    have e8 : decide ((Y 105 15 * f.toInt64 + g.toInt64) ≤ 1000000) = true := decide_eq_true (by rw [Int64.le_iff_toInt_le]; rw [Int64.lt_iff_toInt_lt] at c66; omega)
    refine ss_eL (lv' := [(5, .int (nI 0)), (4, .int (bI (decide ((Y 105 15 * f.toInt64 + g.toInt64) ≤ 1000000) && !(lany (p_mb (srw Y 125 (cor (vr Y j) r (Y 125) n)) f g) 0)))), (0, .ref (c_ad c 105)), (1, .int (nI j)), (2, .int f), (3, .int g)]) (by rw [e8]; rfl) ?_
    refine l_mix1 hj hn h6 (fun k9 hk9 => ?_) n 0 (by omega)
    rw [hl]
    refine ss_iload dX8_mix_138 1 rfl ?_
    refine sy_if_ne 147 dX8_mix_140 (by decide) (fun c140 => ?_) (fun c140 => by first | exact kd_tf (rfl) c140 | exact kd_ft (rfl) c140 | exact absurd (rfl) c140 | exact absurd c140 (rfl))
    refine ss_iconst (v := nI 0) dX8_mix_147 (by decide) ?_
    refine ss_istore (lv' := [(5, _), (4, _), (0, _), (1, _), (2, _), (3, _)]) dX8_mix_148 (by decide) rfl ?_
    have h9 := l_mix2 (X := X) (Y := (srw Y 125 (cor (vr Y j) r (Y 125) n))) (c := c) (d := d) (Q := Q) (f := f) (g := g) hj hn h6 (by rw [srw_ne (by omega)]; exact hQ) n 0 (by omega)
    rw [mpl_0] at h9
    exact h9
set_option maxHeartbeats 1000000 in
set_option maxRecDepth 100000 in
theorem r_mix_lb {c : cx} {d : Nat} {X : nX} {Y : nY} {n : Nat} (hn : n ≤ 10) (h6 : X 105 0 = nI n) {m : Nat} (hm : m ≤ 12) (h7 : X 105 1 = nI m) {j : Nat} (hjm : j < m) {r : Nat → Nat} (hr : ∀ k, k < n → X 117 k = nI (r k)) (hr2 : ∀ k, k < n → r k < 10) {f g : Int32} (hf : ix f 1001 = true) (hg : ix g 1001 = true) (hz : f = 0) (hz2 : ¬ g = 0) (hl : (decide ((Y 105 15 * f.toInt64 + g.toInt64) ≤ 1000000) && !(lany (p_mb (srw Y 125 (cor (vr Y j) r (Y 125) n)) f g) n)) = false) : sc c mX8_mix (d + 3) [.ref (c_ad c 105), .int (nI j), .int f, .int g] (X) (Y) (some (.int (-1005))) (X) ((srw Y 125 (cor (vr Y j) r (Y 125) n))) := by
  intro Q hQ
  show ss c mX8_mix (d + 3) Q 0 [(0, .ref (c_ad c 105)), (1, .int (nI j)), (2, .int f), (3, .int g)] [] (X) (Y)
  have hj : j < 12 := by omega
  have hwj : ix (nI j) m = true := ix_of hjm (by omega)
  refine ss_aload_n dX8_mix_0 0 rfl ?_
  refine ss_iload_n dX8_mix_1 1 rfl ?_
  refine ss_callV (As := [_]) (i := 105) dX8_mix_2 vlX8_157 clX8_isWorth rfl rfl (by omega) (sh_r105 _ _) rfl (Nat.le_of_ble_eq_true rfl) (Nat.le_of_ble_eq_true rfl) (m_isWorth hm h7) ?_
  refine sy_if_ne 12 dX8_mix_5 (by decide) (fun c5 => ?_) (fun c5 => by first | exact kd_tf (hwj) c5 | exact kd_ft (hwj) c5 | exact absurd (hwj) c5 | exact absurd c5 (hwj))
  refine ss_iload_n dX8_mix_12 2 rfl ?_
  refine ss_i2l dX8_mix_13 ?_
  refine ss_lconst (v := 0) dX8_mix_14 (by decide) ?_
  refine ss_ldc2 dX8_mix_15 kcX8_228 ?_
  refine ss_callS (As := [_, _, _]) dX8_mix_18 vlX8_89 clX8_within rfl rfl (Nat.le_of_ble_eq_true rfl) (Nat.le_of_ble_eq_true rfl) (m_within) ?_
  refine sy_if_eq 44 dX8_mix_21 (by decide) (fun c21 => by first | exact kd_tf (by rw [wi_ix (n := 1001) rfl]; exact hf) c21 | exact kd_ft (by rw [wi_ix (n := 1001) rfl]; exact hf) c21 | exact absurd (by rw [wi_ix (n := 1001) rfl]; exact hf) c21 | exact absurd c21 (by rw [wi_ix (n := 1001) rfl]; exact hf)) (fun c21 => ?_)
  refine ss_iload_n dX8_mix_24 3 rfl ?_
  refine ss_i2l dX8_mix_25 ?_
  refine ss_lconst (v := 0) dX8_mix_26 (by decide) ?_
  refine ss_ldc2 dX8_mix_27 kcX8_228 ?_
  refine ss_callS (As := [_, _, _]) dX8_mix_30 vlX8_89 clX8_within rfl rfl (Nat.le_of_ble_eq_true rfl) (Nat.le_of_ble_eq_true rfl) (m_within) ?_
  refine sy_if_eq 44 dX8_mix_33 (by decide) (fun c33 => by first | exact kd_tf (by rw [wi_ix (n := 1001) rfl]; exact hg) c33 | exact kd_ft (by rw [wi_ix (n := 1001) rfl]; exact hg) c33 | exact absurd (by rw [wi_ix (n := 1001) rfl]; exact hg) c33 | exact absurd c33 (by rw [wi_ix (n := 1001) rfl]; exact hg)) (fun c33 => ?_)
  refine ss_iload_n dX8_mix_36 2 rfl ?_
  refine ss_if_ne 48 dX8_mix_37 (by decide) (fun c37 => by first | exact kd_tf (hz) c37 | exact kd_ft (hz) c37 | exact absurd (hz) c37 | exact absurd c37 (hz)) (fun c37 => ?_)
  refine ss_iload_n dX8_mix_40 3 rfl ?_
  refine ss_if_ne 48 dX8_mix_41 (by decide) (fun c41 => ?_) (fun c41 => by first | exact kd_tf (hz2) c41 | exact kd_ft (hz2) c41 | exact absurd (hz2) c41 | exact absurd c41 (hz2))
  refine ss_aload_n dX8_mix_48 0 rfl ?_
  refine ss_iload_n dX8_mix_49 1 rfl ?_
  refine ss_callV (As := [_]) (i := 105) dX8_mix_50 vlX8_225 clX8_findCorner rfl rfl (by omega) (sh_r105 _ _) rfl (Nat.le_of_ble_eq_true rfl) (Nat.le_of_ble_eq_true rfl) (m_findCorner hj hn h6 hr hr2) ?_
  refine ss_aload_n dX8_mix_53 0 rfl ?_
  refine ss_get (i := 105) dX8_mix_54 flX8_51 (by omega) (sh_r105 _ _) rfl ?_
  rw [srw_ne (by omega)]
  refine ss_iload_n dX8_mix_57 2 rfl ?_
  refine ss_i2l dX8_mix_58 ?_
  refine ss_lmul dX8_mix_59 ?_
  refine ss_iload_n dX8_mix_60 3 rfl ?_
  refine ss_i2l dX8_mix_61 ?_
  refine ss_ladd dX8_mix_62 ?_
  refine ss_ldc2 dX8_mix_63 kcX8_174 ?_
  refine sv_gt 74 dX8_mix_66 dX8_mix_67 (by decide) (fun c66 => ?_) (fun c66 => ?_)
  · skip
    refine ss_iconst (v := nI 0) dX8_mix_74 (by decide) ?_
    refine ss_istore (lv' := [(4, _), (0, _), (1, _), (2, _), (3, _)]) dX8_mix_75 (by decide) rfl ?_
    refine ss_iconst (v := nI 0) dX8_mix_77 (by decide) ?_
    refine ss_istore (lv' := [(5, _), (4, _), (0, _), (1, _), (2, _), (3, _)]) dX8_mix_78 (by decide) rfl ?_
    have e8 : decide ((Y 105 15 * f.toInt64 + g.toInt64) ≤ 1000000) = false := decide_eq_false (by rw [Int64.le_iff_toInt_le]; rw [Int64.lt_iff_toInt_lt] at c66; omega)
    refine ss_eL (lv' := [(5, .int (nI 0)), (4, .int (bI (decide ((Y 105 15 * f.toInt64 + g.toInt64) ≤ 1000000) && !(lany (p_mb (srw Y 125 (cor (vr Y j) r (Y 125) n)) f g) 0)))), (0, .ref (c_ad c 105)), (1, .int (nI j)), (2, .int f), (3, .int g)]) (by rw [e8]; rfl) ?_
    refine l_mix1 hj hn h6 (fun k9 hk9 => ?_) n 0 (by omega)
    rw [hl]
    refine ss_iload dX8_mix_138 1 rfl ?_
    refine sy_if_ne 147 dX8_mix_140 (by decide) (fun c140 => by first | exact kd_tf (rfl) c140 | exact kd_ft (rfl) c140 | exact absurd (rfl) c140 | exact absurd c140 (rfl)) (fun c140 => ?_)
    refine ss_sipush (v := -1005) dX8_mix_143 (by decide) ?_
    exact ss_iret dX8_mix_146 rfl rfl (hQ)
  · skip
    refine ss_iconst (v := nI 1) dX8_mix_70 (by decide) ?_
    refine ss_goto 75 dX8_mix_71 (by decide) ?_
    refine ss_istore (lv' := [(4, _), (0, _), (1, _), (2, _), (3, _)]) dX8_mix_75 (by decide) rfl ?_
    refine ss_iconst (v := nI 0) dX8_mix_77 (by decide) ?_
    refine ss_istore (lv' := [(5, _), (4, _), (0, _), (1, _), (2, _), (3, _)]) dX8_mix_78 (by decide) rfl ?_
    have e8 : decide ((Y 105 15 * f.toInt64 + g.toInt64) ≤ 1000000) = true := decide_eq_true (by rw [Int64.le_iff_toInt_le]; rw [Int64.lt_iff_toInt_lt] at c66; omega)
    refine ss_eL (lv' := [(5, .int (nI 0)), (4, .int (bI (decide ((Y 105 15 * f.toInt64 + g.toInt64) ≤ 1000000) && !(lany (p_mb (srw Y 125 (cor (vr Y j) r (Y 125) n)) f g) 0)))), (0, .ref (c_ad c 105)), (1, .int (nI j)), (2, .int f), (3, .int g)]) (by rw [e8]; rfl) ?_
    refine l_mix1 hj hn h6 (fun k9 hk9 => ?_) n 0 (by omega)
    rw [hl]
    refine ss_iload dX8_mix_138 1 rfl ?_
    refine sy_if_ne 147 dX8_mix_140 (by decide) (fun c140 => by first | exact kd_tf (rfl) c140 | exact kd_ft (rfl) c140 | exact absurd (rfl) c140 | exact absurd c140 (rfl)) (fun c140 => ?_)
    refine ss_sipush (v := -1005) dX8_mix_143 (by decide) ?_
    exact ss_iret dX8_mix_146 rfl rfl (hQ)
set_option maxHeartbeats 1000000 in
set_option maxRecDepth 100000 in
theorem r_mix_kb {c : cx} {d : Nat} {X : nX} {Y : nY} {n : Nat} (hn : n ≤ 10) (h6 : X 105 0 = nI n) {m : Nat} (hm : m ≤ 12) (h7 : X 105 1 = nI m) {j : Nat} (hjm : j < m) {r : Nat → Nat} (hr : ∀ k, k < n → X 117 k = nI (r k)) (hr2 : ∀ k, k < n → r k < 10) {f g : Int32} (hf : ix f 1001 = true) (hg : ix g 1001 = true) (hz : f = 0) (hz2 : ¬ g = 0) (hl : (decide ((Y 105 15 * f.toInt64 + g.toInt64) ≤ 1000000) && !(lany (p_mb (srw Y 125 (cor (vr Y j) r (Y 125) n)) f g) n)) = true) : sc c mX8_mix (d + 3) [.ref (c_ad c 105), .int (nI j), .int f, .int g] (X) (Y) (some (.int (Y 105 15 * f.toInt64 + g.toInt64).toInt32)) (X) (upl (mpl (srw Y 125 (cor (vr Y j) r (Y 125) n)) 118 0 n (f_mb (srw Y 125 (cor (vr Y j) r (Y 125) n)) f g)) 105 15 (Y 105 15 * f.toInt64 + g.toInt64)) := by
  intro Q hQ
  show ss c mX8_mix (d + 3) Q 0 [(0, .ref (c_ad c 105)), (1, .int (nI j)), (2, .int f), (3, .int g)] [] (X) (Y)
  have hj : j < 12 := by omega
  have hwj : ix (nI j) m = true := ix_of hjm (by omega)
  refine ss_aload_n dX8_mix_0 0 rfl ?_
  refine ss_iload_n dX8_mix_1 1 rfl ?_
  refine ss_callV (As := [_]) (i := 105) dX8_mix_2 vlX8_157 clX8_isWorth rfl rfl (by omega) (sh_r105 _ _) rfl (Nat.le_of_ble_eq_true rfl) (Nat.le_of_ble_eq_true rfl) (m_isWorth hm h7) ?_
  refine sy_if_ne 12 dX8_mix_5 (by decide) (fun c5 => ?_) (fun c5 => by first | exact kd_tf (hwj) c5 | exact kd_ft (hwj) c5 | exact absurd (hwj) c5 | exact absurd c5 (hwj))
  refine ss_iload_n dX8_mix_12 2 rfl ?_
  refine ss_i2l dX8_mix_13 ?_
  refine ss_lconst (v := 0) dX8_mix_14 (by decide) ?_
  refine ss_ldc2 dX8_mix_15 kcX8_228 ?_
  refine ss_callS (As := [_, _, _]) dX8_mix_18 vlX8_89 clX8_within rfl rfl (Nat.le_of_ble_eq_true rfl) (Nat.le_of_ble_eq_true rfl) (m_within) ?_
  refine sy_if_eq 44 dX8_mix_21 (by decide) (fun c21 => by first | exact kd_tf (by rw [wi_ix (n := 1001) rfl]; exact hf) c21 | exact kd_ft (by rw [wi_ix (n := 1001) rfl]; exact hf) c21 | exact absurd (by rw [wi_ix (n := 1001) rfl]; exact hf) c21 | exact absurd c21 (by rw [wi_ix (n := 1001) rfl]; exact hf)) (fun c21 => ?_)
  refine ss_iload_n dX8_mix_24 3 rfl ?_
  refine ss_i2l dX8_mix_25 ?_
  refine ss_lconst (v := 0) dX8_mix_26 (by decide) ?_
  refine ss_ldc2 dX8_mix_27 kcX8_228 ?_
  refine ss_callS (As := [_, _, _]) dX8_mix_30 vlX8_89 clX8_within rfl rfl (Nat.le_of_ble_eq_true rfl) (Nat.le_of_ble_eq_true rfl) (m_within) ?_
  refine sy_if_eq 44 dX8_mix_33 (by decide) (fun c33 => by first | exact kd_tf (by rw [wi_ix (n := 1001) rfl]; exact hg) c33 | exact kd_ft (by rw [wi_ix (n := 1001) rfl]; exact hg) c33 | exact absurd (by rw [wi_ix (n := 1001) rfl]; exact hg) c33 | exact absurd c33 (by rw [wi_ix (n := 1001) rfl]; exact hg)) (fun c33 => ?_)
  refine ss_iload_n dX8_mix_36 2 rfl ?_
  refine ss_if_ne 48 dX8_mix_37 (by decide) (fun c37 => by first | exact kd_tf (hz) c37 | exact kd_ft (hz) c37 | exact absurd (hz) c37 | exact absurd c37 (hz)) (fun c37 => ?_)
  refine ss_iload_n dX8_mix_40 3 rfl ?_
  refine ss_if_ne 48 dX8_mix_41 (by decide) (fun c41 => ?_) (fun c41 => by first | exact kd_tf (hz2) c41 | exact kd_ft (hz2) c41 | exact absurd (hz2) c41 | exact absurd c41 (hz2))
  refine ss_aload_n dX8_mix_48 0 rfl ?_
  refine ss_iload_n dX8_mix_49 1 rfl ?_
  refine ss_callV (As := [_]) (i := 105) dX8_mix_50 vlX8_225 clX8_findCorner rfl rfl (by omega) (sh_r105 _ _) rfl (Nat.le_of_ble_eq_true rfl) (Nat.le_of_ble_eq_true rfl) (m_findCorner hj hn h6 hr hr2) ?_
  refine ss_aload_n dX8_mix_53 0 rfl ?_
  refine ss_get (i := 105) dX8_mix_54 flX8_51 (by omega) (sh_r105 _ _) rfl ?_
  rw [srw_ne (by omega)]
  refine ss_iload_n dX8_mix_57 2 rfl ?_
  refine ss_i2l dX8_mix_58 ?_
  refine ss_lmul dX8_mix_59 ?_
  refine ss_iload_n dX8_mix_60 3 rfl ?_
  refine ss_i2l dX8_mix_61 ?_
  refine ss_ladd dX8_mix_62 ?_
  refine ss_ldc2 dX8_mix_63 kcX8_174 ?_
  refine sv_gt 74 dX8_mix_66 dX8_mix_67 (by decide) (fun c66 => ?_) (fun c66 => ?_)
  · skip
    refine ss_iconst (v := nI 0) dX8_mix_74 (by decide) ?_
    refine ss_istore (lv' := [(4, _), (0, _), (1, _), (2, _), (3, _)]) dX8_mix_75 (by decide) rfl ?_
    refine ss_iconst (v := nI 0) dX8_mix_77 (by decide) ?_
    refine ss_istore (lv' := [(5, _), (4, _), (0, _), (1, _), (2, _), (3, _)]) dX8_mix_78 (by decide) rfl ?_
    have e8 : decide ((Y 105 15 * f.toInt64 + g.toInt64) ≤ 1000000) = false := decide_eq_false (by rw [Int64.le_iff_toInt_le]; rw [Int64.lt_iff_toInt_lt] at c66; omega)
    refine ss_eL (lv' := [(5, .int (nI 0)), (4, .int (bI (decide ((Y 105 15 * f.toInt64 + g.toInt64) ≤ 1000000) && !(lany (p_mb (srw Y 125 (cor (vr Y j) r (Y 125) n)) f g) 0)))), (0, .ref (c_ad c 105)), (1, .int (nI j)), (2, .int f), (3, .int g)]) (by rw [e8]; rfl) ?_
    refine l_mix1 hj hn h6 (fun k9 hk9 => ?_) n 0 (by omega)
    rw [hl]
    refine ss_iload dX8_mix_138 1 rfl ?_
    refine sy_if_ne 147 dX8_mix_140 (by decide) (fun c140 => ?_) (fun c140 => by first | exact kd_tf (rfl) c140 | exact kd_ft (rfl) c140 | exact absurd (rfl) c140 | exact absurd c140 (rfl))
    refine ss_iconst (v := nI 0) dX8_mix_147 (by decide) ?_
    refine ss_istore (lv' := [(5, _), (4, _), (0, _), (1, _), (2, _), (3, _)]) dX8_mix_148 (by decide) rfl ?_
    have h9 := l_mix2 (X := X) (Y := (srw Y 125 (cor (vr Y j) r (Y 125) n))) (c := c) (d := d) (Q := Q) (f := f) (g := g) hj hn h6 (by rw [srw_ne (by omega)]; exact hQ) n 0 (by omega)
    rw [mpl_0] at h9
    exact h9
  · skip
    refine ss_iconst (v := nI 1) dX8_mix_70 (by decide) ?_
    refine ss_goto 75 dX8_mix_71 (by decide) ?_
    refine ss_istore (lv' := [(4, _), (0, _), (1, _), (2, _), (3, _)]) dX8_mix_75 (by decide) rfl ?_
    refine ss_iconst (v := nI 0) dX8_mix_77 (by decide) ?_
    refine ss_istore (lv' := [(5, _), (4, _), (0, _), (1, _), (2, _), (3, _)]) dX8_mix_78 (by decide) rfl ?_
    have e8 : decide ((Y 105 15 * f.toInt64 + g.toInt64) ≤ 1000000) = true := decide_eq_true (by rw [Int64.le_iff_toInt_le]; rw [Int64.lt_iff_toInt_lt] at c66; omega)
    refine ss_eL (lv' := [(5, .int (nI 0)), (4, .int (bI (decide ((Y 105 15 * f.toInt64 + g.toInt64) ≤ 1000000) && !(lany (p_mb (srw Y 125 (cor (vr Y j) r (Y 125) n)) f g) 0)))), (0, .ref (c_ad c 105)), (1, .int (nI j)), (2, .int f), (3, .int g)]) (by rw [e8]; rfl) ?_
    refine l_mix1 hj hn h6 (fun k9 hk9 => ?_) n 0 (by omega)
    rw [hl]
    refine ss_iload dX8_mix_138 1 rfl ?_
    refine sy_if_ne 147 dX8_mix_140 (by decide) (fun c140 => ?_) (fun c140 => by first | exact kd_tf (rfl) c140 | exact kd_ft (rfl) c140 | exact absurd (rfl) c140 | exact absurd c140 (rfl))
    refine ss_iconst (v := nI 0) dX8_mix_147 (by decide) ?_
    refine ss_istore (lv' := [(5, _), (4, _), (0, _), (1, _), (2, _), (3, _)]) dX8_mix_148 (by decide) rfl ?_
    have h9 := l_mix2 (X := X) (Y := (srw Y 125 (cor (vr Y j) r (Y 125) n))) (c := c) (d := d) (Q := Q) (f := f) (g := g) hj hn h6 (by rw [srw_ne (by omega)]; exact hQ) n 0 (by omega)
    rw [mpl_0] at h9
    exact h9
