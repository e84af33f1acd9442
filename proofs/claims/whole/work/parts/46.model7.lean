/-! the reference: its public methods, a row for each way that they end -/
theorem m_isOf_t {c : cx} {d : Nat} {X : nX} {Y : nY} {w : Nat} (hw : w < 12) {k : Int32} (h : X 106 w = k) : sc c mX8_isOf d [.ref (c_ad c 105), .int (nI w), .int k] X Y (some (.int (bI true))) (up2 X 105 19 (nI 0)) Y := by
  have h9 := m_isOf (c := c) (d := d) (X := X) (Y := Y) hw (k := k)
  rw [if_pos h, decide_eq_true h] at h9
  exact h9
theorem m_isOf_f {c : cx} {d : Nat} {X : nX} {Y : nY} {w : Nat} (hw : w < 12) {k : Int32} (h : ¬ X 106 w = k) : sc c mX8_isOf d [.ref (c_ad c 105), .int (nI w), .int k] X Y (some (.int (bI false))) (up2 X 105 19 (nI 5)) Y := by
  have h9 := m_isOf (c := c) (d := d) (X := X) (Y := Y) hw (k := k)
  rw [if_neg h, decide_eq_false h] at h9
  exact h9
set_option maxHeartbeats 1000000 in
set_option maxRecDepth 100000 in
theorem r_things_o {c : cx} {d : Nat} {X : nX} {Y : nY} {i : Int32} (hi : ix i 11 = false) : sc c mX8_things (d + 1) [.ref (c_ad c 105), .int i] (X) (Y) (some (.int (-1002))) (X) (Y) := by
  intro Q hQ
  show ss c mX8_things (d + 1) Q 0 [(0, .ref (c_ad c 105)), (1, .int i)] [] (X) (Y)
  refine ss_iload_n dX8_things_0 1 rfl ?_
  refine ss_i2l dX8_things_1 ?_
  refine ss_lconst (v := 0) dX8_things_2 (by decide) ?_
  refine ss_ldc2 dX8_things_3 kcX8_87 ?_
  refine ss_callS (As := [_, _, _]) dX8_things_6 vlX8_89 clX8_within rfl rfl (Nat.le_of_ble_eq_true rfl) (Nat.le_of_ble_eq_true rfl) (m_within) ?_
  refine sy_if_ne 16 dX8_things_9 (by decide) (fun c9 => by first | exact kd_tf (by rw [wi_ix (n := 11) rfl]; exact hi) c9 | exact kd_ft (by rw [wi_ix (n := 11) rfl]; exact hi) c9 | exact absurd (by rw [wi_ix (n := 11) rfl]; exact hi) c9 | exact absurd c9 (by rw [wi_ix (n := 11) rfl]; exact hi)) (fun c9 => ?_)
  refine ss_sipush (v := -1002) dX8_things_12 (by decide) ?_
  exact ss_iret dX8_things_15 rfl rfl (hQ)
set_option maxHeartbeats 1000000 in
set_option maxRecDepth 100000 in
theorem r_things_k {c : cx} {d : Nat} {X : nX} {Y : nY} {m : Nat} (hm : m ≤ 12) (h7 : X 105 1 = nI m) {k : Nat} (hk : k ≤ 10) : sc c mX8_things (d + 1) [.ref (c_ad c 105), .int (nI k)] (X) (Y) (some (.int (nI m))) (mpx (up2 (up2 X 105 0 (nI k)) 105 1 (nI 0)) 117 0 10 (fun k => nI k)) (mpl (upl Y 105 15 1) 118 0 10 (fun _ => 0)) := by
  intro Q hQ
  show ss c mX8_things (d + 1) Q 0 [(0, .ref (c_ad c 105)), (1, .int (nI k))] [] (X) (Y)
  refine ss_iload_n dX8_things_0 1 rfl ?_
  refine ss_i2l dX8_things_1 ?_
  refine ss_lconst (v := 0) dX8_things_2 (by decide) ?_
  refine ss_ldc2 dX8_things_3 kcX8_87 ?_
  refine ss_callS (As := [_, _, _]) dX8_things_6 vlX8_89 clX8_within rfl rfl (Nat.le_of_ble_eq_true rfl) (Nat.le_of_ble_eq_true rfl) (m_within) ?_
  refine sy_if_ne 16 dX8_things_9 (by decide) (fun c9 => ?_) (fun c9 => by first | exact kd_tf (by rw [wi_ix (n := 11) rfl]; exact ix_of (by omega) (by decide)) c9 | exact kd_ft (by rw [wi_ix (n := 11) rfl]; exact ix_of (by omega) (by decide)) c9 | exact absurd (by rw [wi_ix (n := 11) rfl]; exact ix_of (by omega) (by decide)) c9 | exact absurd c9 (by rw [wi_ix (n := 11) rfl]; exact ix_of (by omega) (by decide)))
  refine ss_aload_n dX8_things_16 0 rfl ?_
  refine ss_get (i := 105) dX8_things_17 flX8_84 (by omega) (sh_r105 _ _) rfl ?_
  rw [h7]
  refine ss_istore_n (lv' := [(2, _), (0, _), (1, _)]) dX8_things_20 (by decide) rfl ?_
  refine ss_aload_n dX8_things_21 1 rfl ?_
  refine ss_iload_n dX8_things_22 2 rfl ?_
  refine ss_callV (As := [_]) (i := 105) dX8_things_23 vlX8_76 clX8_begin rfl rfl (by omega) (sh_r105 _ _) rfl (Nat.le_of_ble_eq_true rfl) (Nat.le_of_ble_eq_true rfl) (m_begin) ?_
  refine ss_iload_n dX8_things_26 0 rfl ?_
  exact ss_iret dX8_things_27 rfl rfl (hQ)
set_option maxHeartbeats 1000000 in
set_option maxRecDepth 100000 in
theorem r_sheet_u {c : cx} {d : Nat} {X : nX} {Y : nY} {s : Int32} (hs : ix s 4 = false) {f i : Int32} : sc c mX8_sheet (d + 2) [.ref (c_ad c 105), .int s, .int f, .int i] (X) (Y) (some (.int (-1001))) (X) (Y) := by
  intro Q hQ
  show ss c mX8_sheet (d + 2) Q 0 [(0, .ref (c_ad c 105)), (1, .int s), (2, .int f), (3, .int i)] [] (X) (Y)
  refine ss_iload_n dX8_sheet_0 1 rfl ?_
  refine ss_callS (As := [_]) dX8_sheet_1 vlX8_99 clX8_isSheet rfl rfl (Nat.le_of_ble_eq_true rfl) (Nat.le_of_ble_eq_true rfl) (m_isSheet) ?_
  refine sy_if_ne 11 dX8_sheet_4 (by decide) (fun c4 => by first | exact kd_tf (hs) c4 | exact kd_ft (hs) c4 | exact absurd (hs) c4 | exact absurd c4 (hs)) (fun c4 => ?_)
  refine ss_sipush (v := -1001) dX8_sheet_7 (by decide) ?_
  exact ss_iret dX8_sheet_10 rfl rfl (hQ)
set_option maxHeartbeats 1000000 in
set_option maxRecDepth 100000 in
theorem r_sheet_o1 {c : cx} {d : Nat} {X : nX} {Y : nY} {s : Nat} (hs : s < 4) {f i : Int32} (hf : ix f 3 = false) : sc c mX8_sheet (d + 2) [.ref (c_ad c 105), .int (nI s), .int f, .int i] (X) (Y) (some (.int (-1002))) (X) (Y) := by
  intro Q hQ
  show ss c mX8_sheet (d + 2) Q 0 [(0, .ref (c_ad c 105)), (1, .int (nI s)), (2, .int f), (3, .int i)] [] (X) (Y)
  have hs9 : ix (nI s) 4 = true := ix_of hs (by decide)
  refine ss_iload_n dX8_sheet_0 1 rfl ?_
  refine ss_callS (As := [_]) dX8_sheet_1 vlX8_99 clX8_isSheet rfl rfl (Nat.le_of_ble_eq_true rfl) (Nat.le_of_ble_eq_true rfl) (m_isSheet) ?_
  refine sy_if_ne 11 dX8_sheet_4 (by decide) (fun c4 => ?_) (fun c4 => by first | exact kd_tf (hs9) c4 | exact kd_ft (hs9) c4 | exact absurd (hs9) c4 | exact absurd c4 (hs9))
  refine ss_iload_n dX8_sheet_11 2 rfl ?_
  refine ss_i2l dX8_sheet_12 ?_
  refine ss_lconst (v := 0) dX8_sheet_13 (by decide) ?_
  refine ss_ldc2 dX8_sheet_14 kcX8_103 ?_
  refine ss_callS (As := [_, _, _]) dX8_sheet_17 vlX8_89 clX8_within rfl rfl (Nat.le_of_ble_eq_true rfl) (Nat.le_of_ble_eq_true rfl) (m_within) ?_
  refine sy_if_eq 30 dX8_sheet_20 (by decide) (fun c20 => ?_) (fun c20 => by first | exact kd_tf (by rw [wi_ix (n := 3) rfl]; exact hf) c20 | exact kd_ft (by rw [wi_ix (n := 3) rfl]; exact hf) c20 | exact absurd (by rw [wi_ix (n := 3) rfl]; exact hf) c20 | exact absurd c20 (by rw [wi_ix (n := 3) rfl]; exact hf))
  refine ss_sipush (v := -1002) dX8_sheet_30 (by decide) ?_
  exact ss_iret dX8_sheet_33 rfl rfl (hQ)
set_option maxHeartbeats 1000000 in
set_option maxRecDepth 100000 in
theorem r_sheet_o2 {c : cx} {d : Nat} {X : nX} {Y : nY} {s : Nat} (hs : s < 4) {f i : Int32} (hf : ix f 3 = true) (hi : ¬ i ≤ nI 1100) : sc c mX8_sheet (d + 2) [.ref (c_ad c 105), .int (nI s), .int f, .int i] (X) (Y) (some (.int (-1002))) (X) (Y) := by
  intro Q hQ
  show ss c mX8_sheet (d + 2) Q 0 [(0, .ref (c_ad c 105)), (1, .int (nI s)), (2, .int f), (3, .int i)] [] (X) (Y)
  have hs9 : ix (nI s) 4 = true := ix_of hs (by decide)
  refine ss_iload_n dX8_sheet_0 1 rfl ?_
  refine ss_callS (As := [_]) dX8_sheet_1 vlX8_99 clX8_isSheet rfl rfl (Nat.le_of_ble_eq_true rfl) (Nat.le_of_ble_eq_true rfl) (m_isSheet) ?_
  refine sy_if_ne 11 dX8_sheet_4 (by decide) (fun c4 => ?_) (fun c4 => by first | exact kd_tf (hs9) c4 | exact kd_ft (hs9) c4 | exact absurd (hs9) c4 | exact absurd c4 (hs9))
  refine ss_iload_n dX8_sheet_11 2 rfl ?_
  refine ss_i2l dX8_sheet_12 ?_
  refine ss_lconst (v := 0) dX8_sheet_13 (by decide) ?_
  refine ss_ldc2 dX8_sheet_14 kcX8_103 ?_
  refine ss_callS (As := [_, _, _]) dX8_sheet_17 vlX8_89 clX8_within rfl rfl (Nat.le_of_ble_eq_true rfl) (Nat.le_of_ble_eq_true rfl) (m_within) ?_
  refine sy_if_eq 30 dX8_sheet_20 (by decide) (fun c20 => by first | exact kd_tf (by rw [wi_ix (n := 3) rfl]; exact hf) c20 | exact kd_ft (by rw [wi_ix (n := 3) rfl]; exact hf) c20 | exact absurd (by rw [wi_ix (n := 3) rfl]; exact hf) c20 | exact absurd c20 (by rw [wi_ix (n := 3) rfl]; exact hf)) (fun c20 => ?_)
  refine ss_iload_n dX8_sheet_23 3 rfl ?_
  refine ss_sipush (v := nI 1100) dX8_sheet_24 (by decide) ?_
  refine ss_icmp_le 34 dX8_sheet_27 (by decide) (fun c27 => by first | exact kd_tf (hi) c27 | exact kd_ft (hi) c27 | exact absurd (hi) c27 | exact absurd c27 (hi)) (fun c27 => ?_)
  refine ss_sipush (v := -1002) dX8_sheet_30 (by decide) ?_
  exact ss_iret dX8_sheet_33 rfl rfl (hQ)
set_option maxHeartbeats 1000000 in
set_option maxRecDepth 100000 in
theorem r_sheet_c {c : cx} {d : Nat} {X : nX} {Y : nY} {s : Nat} (hs : s < 4) {f i : Int32} (hf : ix f 3 = true) (hi : i ≤ nI 1100) (hi0 : ¬ 0 ≤ i) : sc c mX8_sheet (d + 2) [.ref (c_ad c 105), .int (nI s), .int f, .int i] (X) (Y) (some (.int (nI 0))) (up2 X 105 19 (nI 4)) (Y) := by
  intro Q hQ
  show ss c mX8_sheet (d + 2) Q 0 [(0, .ref (c_ad c 105)), (1, .int (nI s)), (2, .int f), (3, .int i)] [] (X) (Y)
  have hs9 : ix (nI s) 4 = true := ix_of hs (by decide)
  refine ss_iload_n dX8_sheet_0 1 rfl ?_
  refine ss_callS (As := [_]) dX8_sheet_1 vlX8_99 clX8_isSheet rfl rfl (Nat.le_of_ble_eq_true rfl) (Nat.le_of_ble_eq_true rfl) (m_isSheet) ?_
  refine sy_if_ne 11 dX8_sheet_4 (by decide) (fun c4 => ?_) (fun c4 => by first | exact kd_tf (hs9) c4 | exact kd_ft (hs9) c4 | exact absurd (hs9) c4 | exact absurd c4 (hs9))
  refine ss_iload_n dX8_sheet_11 2 rfl ?_
  refine ss_i2l dX8_sheet_12 ?_
  refine ss_lconst (v := 0) dX8_sheet_13 (by decide) ?_
  refine ss_ldc2 dX8_sheet_14 kcX8_103 ?_
  refine ss_callS (As := [_, _, _]) dX8_sheet_17 vlX8_89 clX8_within rfl rfl (Nat.le_of_ble_eq_true rfl) (Nat.le_of_ble_eq_true rfl) (m_within) ?_
  refine sy_if_eq 30 dX8_sheet_20 (by decide) (fun c20 => by first | exact kd_tf (by rw [wi_ix (n := 3) rfl]; exact hf) c20 | exact kd_ft (by rw [wi_ix (n := 3) rfl]; exact hf) c20 | exact absurd (by rw [wi_ix (n := 3) rfl]; exact hf) c20 | exact absurd c20 (by rw [wi_ix (n := 3) rfl]; exact hf)) (fun c20 => ?_)
  refine ss_iload_n dX8_sheet_23 3 rfl ?_
  refine ss_sipush (v := nI 1100) dX8_sheet_24 (by decide) ?_
  refine ss_icmp_le 34 dX8_sheet_27 (by decide) (fun c27 => ?_) (fun c27 => by first | exact kd_tf (hi) c27 | exact kd_ft (hi) c27 | exact absurd (hi) c27 | exact absurd c27 (hi))
  refine ss_aload_n dX8_sheet_34 0 rfl ?_
  refine ss_iload_n dX8_sheet_35 3 rfl ?_
  refine ss_if_ge 43 dX8_sheet_36 (by decide) (fun c36 => by first | exact kd_tf (hi0) c36 | exact kd_ft (hi0) c36 | exact absurd (hi0) c36 | exact absurd c36 (hi0)) (fun c36 => ?_)
  refine ss_iconst (v := nI 4) dX8_sheet_39 (by decide) ?_
  refine ss_goto 44 dX8_sheet_40 (by decide) ?_
  refine ss_put (i := 105) dX8_sheet_44 fwX8_105 (by omega) (sh_r105 _ _) rfl rfl (Nat.le_of_ble_eq_true rfl) (sh_r105 _ _) ?_
  refine ss_aload_n dX8_sheet_47 0 rfl ?_
  refine ss_get (i := 105) dX8_sheet_48 flX8_105 (by omega) (sh_r105 _ _) rfl ?_
  rw [up2_at, if_pos ⟨rfl, rfl⟩]
  refine ss_if_le 56 dX8_sheet_51 (by decide) (fun c51 => by first | exact kd_tf (by decide) c51 | exact kd_ft (by decide) c51 | exact absurd (by decide) c51 | exact absurd c51 (by decide)) (fun c51 => ?_)
  refine ss_iconst (v := nI 0) dX8_sheet_54 (by decide) ?_
  exact ss_iret dX8_sheet_55 rfl rfl (hQ)
set_option maxHeartbeats 1000000 in
set_option maxRecDepth 100000 in
theorem l_msheet {c : cx} {d : Nat} {X : nX} {Y : nY} {Q : Option Value → nX → nY → Prop} {s : Nat} (hs : s < 4) {f : Int32} {k : Nat} (hk : k ≤ 1100) (hQ : Q (some (.int (nI k))) X (mpl Y 121 (1100 * s) (1100 * s + k) (fun _ => 0))) : ∀ (nn i : Nat), i + nn = k → ss c mX8_sheet (d + 2) Q 73 [(4, .int (nI i)), (0, .ref (c_ad c 105)), (1, .int (nI s)), (2, .int f), (3, .int (nI k))] [] (X) (mpl Y 121 (1100 * s) (1100 * s + i) (fun _ => 0)) := by
  intro nn
  induction nn with
  | zero =>
      intro i hin
      simp only [Nat.add_zero] at hin
      subst hin
      refine ss_iload dX8_sheet_73 0 rfl ?_
      refine ss_iload_n dX8_sheet_75 4 rfl ?_
      refine sz_icmp_ge 99 dX8_sheet_76 (by decide) (by omega) (by omega) (fun c76 => ?_) (fun c76 => by omega)
      refine ss_iload_n dX8_sheet_99 4 rfl ?_
      exact ss_iret dX8_sheet_100 rfl rfl (hQ)
  | succ nn ih =>
      intro i hin
      refine ss_iload dX8_sheet_73 0 rfl ?_
      refine ss_iload_n dX8_sheet_75 4 rfl ?_
      refine sz_icmp_ge 99 dX8_sheet_76 (by decide) (by omega) (by omega) (fun c76 => by omega) (fun c76 => ?_)
      refine ss_aload_n dX8_sheet_79 1 rfl ?_
      refine ss_get (i := 105) dX8_sheet_80 flX8_61 (by omega) (sh_r105 _ _) rfl ?_
      refine ss_sipush (v := nI 1100) dX8_sheet_83 (by decide) ?_
      refine ss_iload_n dX8_sheet_86 2 rfl ?_
      refine sz_imul dX8_sheet_87 ?_
      refine ss_iload dX8_sheet_88 0 rfl ?_
      refine sz_iadd dX8_sheet_90 ?_
      refine ss_lconst (v := 0) dX8_sheet_91 (by decide) ?_
      refine ss_last (i := 121) dX8_sheet_92 (by omega) (sh_r121) (by omega) (by decide) ?_
      refine sz_inc (lv' := [(4, _), (0, _), (1, _), (2, _), (3, _)]) dX8_sheet_93 0 rfl (by decide) rfl ?_
      refine ss_goto 73 dX8_sheet_96 (by decide) ?_
      refine ss_eY (mpl_s (by omega) rfl) ?_
      exact ih (i + 1) (by omega)
set_option maxHeartbeats 1000000 in
set_option maxRecDepth 100000 in
theorem r_sheet_k {c : cx} {d : Nat} {X : nX} {Y : nY} {s : Nat} (hs : s < 4) {f : Int32} {k : Nat} (hf : ix f 3 = true) (hk : k ≤ 1100) : sc c mX8_sheet (d + 2) [.ref (c_ad c 105), .int (nI s), .int f, .int (nI k)] (X) (Y) (some (.int (nI k))) (up2 (up2 (up2 X 105 19 (nI 0)) 119 s (nI k)) 120 s f) (mpl Y 121 (1100 * s) (1100 * s + k) (fun _ => 0)) := by
  intro Q hQ
  show ss c mX8_sheet (d + 2) Q 0 [(0, .ref (c_ad c 105)), (1, .int (nI s)), (2, .int f), (3, .int (nI k))] [] (X) (Y)
  have hs9 : ix (nI s) 4 = true := ix_of hs (by decide)
  refine ss_iload_n dX8_sheet_0 1 rfl ?_
  refine ss_callS (As := [_]) dX8_sheet_1 vlX8_99 clX8_isSheet rfl rfl (Nat.le_of_ble_eq_true rfl) (Nat.le_of_ble_eq_true rfl) (m_isSheet) ?_
  refine sy_if_ne 11 dX8_sheet_4 (by decide) (fun c4 => ?_) (fun c4 => by first | exact kd_tf (hs9) c4 | exact kd_ft (hs9) c4 | exact absurd (hs9) c4 | exact absurd c4 (hs9))
  refine ss_iload_n dX8_sheet_11 2 rfl ?_
  refine ss_i2l dX8_sheet_12 ?_
  refine ss_lconst (v := 0) dX8_sheet_13 (by decide) ?_
  refine ss_ldc2 dX8_sheet_14 kcX8_103 ?_
  refine ss_callS (As := [_, _, _]) dX8_sheet_17 vlX8_89 clX8_within rfl rfl (Nat.le_of_ble_eq_true rfl) (Nat.le_of_ble_eq_true rfl) (m_within) ?_
  refine sy_if_eq 30 dX8_sheet_20 (by decide) (fun c20 => by first | exact kd_tf (by rw [wi_ix (n := 3) rfl]; exact hf) c20 | exact kd_ft (by rw [wi_ix (n := 3) rfl]; exact hf) c20 | exact absurd (by rw [wi_ix (n := 3) rfl]; exact hf) c20 | exact absurd c20 (by rw [wi_ix (n := 3) rfl]; exact hf)) (fun c20 => ?_)
  refine ss_iload_n dX8_sheet_23 3 rfl ?_
  refine ss_sipush (v := nI 1100) dX8_sheet_24 (by decide) ?_
  refine sz_icmp_le 34 dX8_sheet_27 (by decide) (by omega) (by omega) (fun c27 => ?_) (fun c27 => by omega)
  refine ss_aload_n dX8_sheet_34 0 rfl ?_
  refine ss_iload_n dX8_sheet_35 3 rfl ?_
  refine ss_if_ge 43 dX8_sheet_36 (by decide) (fun c36 => ?_) (fun c36 => by first | exact kd_tf (nI_pos' (by omega)) c36 | exact kd_ft (nI_pos' (by omega)) c36 | exact absurd (nI_pos' (by omega)) c36 | exact absurd c36 (nI_pos' (by omega)))
  refine ss_iconst (v := nI 0) dX8_sheet_43 (by decide) ?_
  refine ss_put (i := 105) dX8_sheet_44 fwX8_105 (by omega) (sh_r105 _ _) rfl rfl (Nat.le_of_ble_eq_true rfl) (sh_r105 _ _) ?_
  refine ss_aload_n dX8_sheet_47 0 rfl ?_
  refine ss_get (i := 105) dX8_sheet_48 flX8_105 (by omega) (sh_r105 _ _) rfl ?_
  rw [up2_at, if_pos ⟨rfl, rfl⟩]
  refine ss_if_le 56 dX8_sheet_51 (by decide) (fun c51 => ?_) (fun c51 => by first | exact kd_tf (by decide) c51 | exact kd_ft (by decide) c51 | exact absurd (by decide) c51 | exact absurd c51 (by decide))
  refine ss_aload_n dX8_sheet_56 0 rfl ?_
  refine ss_get (i := 105) dX8_sheet_57 flX8_55 (by omega) (sh_r105 _ _) rfl ?_
  refine ss_iload_n dX8_sheet_60 1 rfl ?_
  refine ss_iload_n dX8_sheet_61 3 rfl ?_
  refine ss_iast (i := 119) dX8_sheet_62 (by omega) (sh_r119) (by omega) (by decide) ?_
  refine ss_aload_n dX8_sheet_63 0 rfl ?_
  refine ss_get (i := 105) dX8_sheet_64 flX8_58 (by omega) (sh_r105 _ _) rfl ?_
  refine ss_iload_n dX8_sheet_67 1 rfl ?_
  refine ss_iload_n dX8_sheet_68 2 rfl ?_
  refine ss_iast (i := 120) dX8_sheet_69 (by omega) (sh_r120) (by omega) (by decide) ?_
  refine ss_iconst (v := nI 0) dX8_sheet_70 (by decide) ?_
  refine ss_istore (lv' := [(4, _), (0, _), (1, _), (2, _), (3, _)]) dX8_sheet_71 (by decide) rfl ?_
  have h9 := l_msheet (X := up2 (up2 (up2 X 105 19 (nI 0)) 119 s (nI k)) 120 s f) (Y := Y) (c := c) (d := d) (Q := Q) (f := f) hs hk hQ k 0 (by omega)
  rw [show 1100 * s + 0 = 1100 * s from rfl, mpl_0] at h9
  exact h9
set_option maxHeartbeats 1000000 in
set_option maxRecDepth 100000 in
theorem r_tear_u {c : cx} {d : Nat} {X : nX} {Y : nY} {s : Int32} (hs : ix s 4 = false) : sc c mX8_tear (d + 2) [.ref (c_ad c 105), .int s] (X) (Y) (some (.int (-1001))) (X) (Y) := by
  intro Q hQ
  show ss c mX8_tear (d + 2) Q 0 [(0, .ref (c_ad c 105)), (1, .int s)] [] (X) (Y)
  refine ss_iload_n dX8_tear_0 1 rfl ?_
  refine ss_callS (As := [_]) dX8_tear_1 vlX8_99 clX8_isSheet rfl rfl (Nat.le_of_ble_eq_true rfl) (Nat.le_of_ble_eq_true rfl) (m_isSheet) ?_
  refine sy_if_ne 11 dX8_tear_4 (by decide) (fun c4 => by first | exact kd_tf (hs) c4 | exact kd_ft (hs) c4 | exact absurd (hs) c4 | exact absurd c4 (hs)) (fun c4 => ?_)
  refine ss_sipush (v := -1001) dX8_tear_7 (by decide) ?_
  exact ss_iret dX8_tear_10 rfl rfl (hQ)
set_option maxHeartbeats 1000000 in
set_option maxRecDepth 100000 in
theorem r_tear_f {c : cx} {d : Nat} {X : nX} {Y : nY} {s : Nat} (hs : s < 4) (hh : X 119 s = -1) : sc c mX8_tear (d + 2) [.ref (c_ad c 105), .int (nI s)] (X) (Y) (some (.int (nI 0))) (up2 X 119 s (-1)) (Y) := by
  intro Q hQ
  show ss c mX8_tear (d + 2) Q 0 [(0, .ref (c_ad c 105)), (1, .int (nI s))] [] (X) (Y)
  have hs9 : ix (nI s) 4 = true := ix_of hs (by decide)
  refine ss_iload_n dX8_tear_0 1 rfl ?_
  refine ss_callS (As := [_]) dX8_tear_1 vlX8_99 clX8_isSheet rfl rfl (Nat.le_of_ble_eq_true rfl) (Nat.le_of_ble_eq_true rfl) (m_isSheet) ?_
  refine sy_if_ne 11 dX8_tear_4 (by decide) (fun c4 => ?_) (fun c4 => by first | exact kd_tf (hs9) c4 | exact kd_ft (hs9) c4 | exact absurd (hs9) c4 | exact absurd c4 (hs9))
  refine ss_aload_n dX8_tear_11 0 rfl ?_
  refine ss_get (i := 105) dX8_tear_12 flX8_55 (by omega) (sh_r105 _ _) rfl ?_
  refine ss_iload_n dX8_tear_15 1 rfl ?_
  refine ss_iald (i := 119) dX8_tear_16 (by omega) (sh_r119) (by omega) (by decide) ?_
  rw [hh]
  refine ss_if_ge 24 dX8_tear_17 (by decide) (fun c17 => by first | exact kd_tf (by decide) c17 | exact kd_ft (by decide) c17 | exact absurd (by decide) c17 | exact absurd c17 (by decide)) (fun c17 => ?_)
  refine ss_iconst (v := nI 0) dX8_tear_20 (by decide) ?_
  refine ss_goto 25 dX8_tear_21 (by decide) ?_
  refine ss_istore_n (lv' := [(2, _), (0, _), (1, _)]) dX8_tear_25 (by decide) rfl ?_
  refine ss_aload_n dX8_tear_26 1 rfl ?_
  refine ss_get (i := 105) dX8_tear_27 flX8_55 (by omega) (sh_r105 _ _) rfl ?_
  refine ss_iload_n dX8_tear_30 2 rfl ?_
  refine ss_iconst (v := -1) dX8_tear_31 (by decide) ?_
  refine ss_iast (i := 119) dX8_tear_32 (by omega) (sh_r119) (by omega) (by decide) ?_
  refine ss_iload_n dX8_tear_33 0 rfl ?_
  exact ss_iret dX8_tear_34 rfl rfl (hQ)
set_option maxHeartbeats 1000000 in
set_option maxRecDepth 100000 in
theorem r_tear_t {c : cx} {d : Nat} {X : nX} {Y : nY} {s : Nat} (hs : s < 4) {k : Nat} (hk : k ≤ 1100) (hh : X 119 s = nI k) : sc c mX8_tear (d + 2) [.ref (c_ad c 105), .int (nI s)] (X) (Y) (some (.int (nI 1))) (up2 X 119 s (-1)) (Y) := by
  intro Q hQ
  show ss c mX8_tear (d + 2) Q 0 [(0, .ref (c_ad c 105)), (1, .int (nI s))] [] (X) (Y)
  have hs9 : ix (nI s) 4 = true := ix_of hs (by decide)
  refine ss_iload_n dX8_tear_0 1 rfl ?_
  refine ss_callS (As := [_]) dX8_tear_1 vlX8_99 clX8_isSheet rfl rfl (Nat.le_of_ble_eq_true rfl) (Nat.le_of_ble_eq_true rfl) (m_isSheet) ?_
  refine sy_if_ne 11 dX8_tear_4 (by decide) (fun c4 => ?_) (fun c4 => by first | exact kd_tf (hs9) c4 | exact kd_ft (hs9) c4 | exact absurd (hs9) c4 | exact absurd c4 (hs9))
  refine ss_aload_n dX8_tear_11 0 rfl ?_
  refine ss_get (i := 105) dX8_tear_12 flX8_55 (by omega) (sh_r105 _ _) rfl ?_
  refine ss_iload_n dX8_tear_15 1 rfl ?_
  refine ss_iald (i := 119) dX8_tear_16 (by omega) (sh_r119) (by omega) (by decide) ?_
  rw [hh]
  refine ss_if_ge 24 dX8_tear_17 (by decide) (fun c17 => ?_) (fun c17 => by first | exact kd_tf (nI_pos' (by omega)) c17 | exact kd_ft (nI_pos' (by omega)) c17 | exact absurd (nI_pos' (by omega)) c17 | exact absurd c17 (nI_pos' (by omega)))
  refine ss_iconst (v := nI 1) dX8_tear_24 (by decide) ?_
  refine ss_istore_n (lv' := [(2, _), (0, _), (1, _)]) dX8_tear_25 (by decide) rfl ?_
  refine ss_aload_n dX8_tear_26 1 rfl ?_
  refine ss_get (i := 105) dX8_tear_27 flX8_55 (by omega) (sh_r105 _ _) rfl ?_
  refine ss_iload_n dX8_tear_30 2 rfl ?_
  refine ss_iconst (v := -1) dX8_tear_31 (by decide) ?_
  refine ss_iast (i := 119) dX8_tear_32 (by omega) (sh_r119) (by omega) (by decide) ?_
  refine ss_iload_n dX8_tear_33 0 rfl ?_
  exact ss_iret dX8_tear_34 rfl rfl (hQ)
set_option maxHeartbeats 1000000 in
set_option maxRecDepth 100000 in
theorem r_put_u {c : cx} {d : Nat} {X : nX} {Y : nY} {s : Int32} (hs : ix s 4 = false) {f i : Int32} {v : Int64} : sc c mX8_put (d + 3) [.ref (c_ad c 105), .int s, .int f, .int i, .long v] (X) (Y) (some (.long (-1001))) (X) (Y) := by
  intro Q hQ
  show ss c mX8_put (d + 3) Q 0 [(0, .ref (c_ad c 105)), (1, .int s), (2, .int f), (3, .int i), (4, .long v)] [] (X) (Y)
  refine ss_iload_n dX8_put_0 1 rfl ?_
  refine ss_callS (As := [_]) dX8_put_1 vlX8_99 clX8_isSheet rfl rfl (Nat.le_of_ble_eq_true rfl) (Nat.le_of_ble_eq_true rfl) (m_isSheet) ?_
  refine sy_if_ne 11 dX8_put_4 (by decide) (fun c4 => by first | exact kd_tf (hs) c4 | exact kd_ft (hs) c4 | exact absurd (hs) c4 | exact absurd c4 (hs)) (fun c4 => ?_)
  refine ss_ldc2 dX8_put_7 kcX8_108 ?_
  exact ss_lret dX8_put_10 rfl (hQ)
set_option maxHeartbeats 1000000 in
set_option maxRecDepth 100000 in
theorem r_put_o {c : cx} {d : Nat} {X : nX} {Y : nY} {s : Nat} (hs : s < 4) {f i : Int32} {v : Int64} (hf : ix f 3 = false) : sc c mX8_put (d + 3) [.ref (c_ad c 105), .int (nI s), .int f, .int i, .long v] (X) (Y) (some (.long (-1002))) (X) (Y) := by
  intro Q hQ
  show ss c mX8_put (d + 3) Q 0 [(0, .ref (c_ad c 105)), (1, .int (nI s)), (2, .int f), (3, .int i), (4, .long v)] [] (X) (Y)
  have hs9 : ix (nI s) 4 = true := ix_of hs (by decide)
  refine ss_iload_n dX8_put_0 1 rfl ?_
  refine ss_callS (As := [_]) dX8_put_1 vlX8_99 clX8_isSheet rfl rfl (Nat.le_of_ble_eq_true rfl) (Nat.le_of_ble_eq_true rfl) (m_isSheet) ?_
  refine sy_if_ne 11 dX8_put_4 (by decide) (fun c4 => ?_) (fun c4 => by first | exact kd_tf (hs9) c4 | exact kd_ft (hs9) c4 | exact absurd (hs9) c4 | exact absurd c4 (hs9))
  refine ss_iload_n dX8_put_11 2 rfl ?_
  refine ss_i2l dX8_put_12 ?_
  refine ss_lconst (v := 0) dX8_put_13 (by decide) ?_
  refine ss_ldc2 dX8_put_14 kcX8_103 ?_
  refine ss_callS (As := [_, _, _]) dX8_put_17 vlX8_89 clX8_within rfl rfl (Nat.le_of_ble_eq_true rfl) (Nat.le_of_ble_eq_true rfl) (m_within) ?_
  refine sy_if_ne 27 dX8_put_20 (by decide) (fun c20 => by first | exact kd_tf (by rw [wi_ix (n := 3) rfl]; exact hf) c20 | exact kd_ft (by rw [wi_ix (n := 3) rfl]; exact hf) c20 | exact absurd (by rw [wi_ix (n := 3) rfl]; exact hf) c20 | exact absurd c20 (by rw [wi_ix (n := 3) rfl]; exact hf)) (fun c20 => ?_)
  refine ss_ldc2 dX8_put_23 kcX8_110 ?_
  exact ss_lret dX8_put_26 rfl (hQ)
set_option maxHeartbeats 1000000 in
set_option maxRecDepth 100000 in
theorem r_put_c1 {c : cx} {d : Nat} {X : nX} {Y : nY} {s : Nat} (hs : s < 4) {f i : Int32} {v : Int64} (hf : ix f 3 = true) (hh : X 119 s = -1) : sc c mX8_put (d + 3) [.ref (c_ad c 105), .int (nI s), .int f, .int i, .long v] (X) (Y) (some (.long 0)) (up2 X 105 19 (nI 1)) (Y) := by
  intro Q hQ
  show ss c mX8_put (d + 3) Q 0 [(0, .ref (c_ad c 105)), (1, .int (nI s)), (2, .int f), (3, .int i), (4, .long v)] [] (X) (Y)
  have hs9 : ix (nI s) 4 = true := ix_of hs (by decide)
  refine ss_iload_n dX8_put_0 1 rfl ?_
  refine ss_callS (As := [_]) dX8_put_1 vlX8_99 clX8_isSheet rfl rfl (Nat.le_of_ble_eq_true rfl) (Nat.le_of_ble_eq_true rfl) (m_isSheet) ?_
  refine sy_if_ne 11 dX8_put_4 (by decide) (fun c4 => ?_) (fun c4 => by first | exact kd_tf (hs9) c4 | exact kd_ft (hs9) c4 | exact absurd (hs9) c4 | exact absurd c4 (hs9))
  refine ss_iload_n dX8_put_11 2 rfl ?_
  refine ss_i2l dX8_put_12 ?_
  refine ss_lconst (v := 0) dX8_put_13 (by decide) ?_
  refine ss_ldc2 dX8_put_14 kcX8_103 ?_
  refine ss_callS (As := [_, _, _]) dX8_put_17 vlX8_89 clX8_within rfl rfl (Nat.le_of_ble_eq_true rfl) (Nat.le_of_ble_eq_true rfl) (m_within) ?_
  refine sy_if_ne 27 dX8_put_20 (by decide) (fun c20 => ?_) (fun c20 => by first | exact kd_tf (by rw [wi_ix (n := 3) rfl]; exact hf) c20 | exact kd_ft (by rw [wi_ix (n := 3) rfl]; exact hf) c20 | exact absurd (by rw [wi_ix (n := 3) rfl]; exact hf) c20 | exact absurd c20 (by rw [wi_ix (n := 3) rfl]; exact hf))
  refine ss_aload_n dX8_put_27 0 rfl ?_
  refine ss_aload_n dX8_put_28 0 rfl ?_
  refine ss_get (i := 105) dX8_put_29 flX8_55 (by omega) (sh_r105 _ _) rfl ?_
  refine ss_iload_n dX8_put_32 1 rfl ?_
  refine ss_iald (i := 119) dX8_put_33 (by omega) (sh_r119) (by omega) (by decide) ?_
  rw [hh]
  refine ss_if_ge 41 dX8_put_34 (by decide) (fun c34 => by first | exact kd_tf (by decide) c34 | exact kd_ft (by decide) c34 | exact absurd (by decide) c34 | exact absurd c34 (by decide)) (fun c34 => ?_)
  refine ss_iconst (v := nI 1) dX8_put_37 (by decide) ?_
  refine ss_goto 78 dX8_put_38 (by decide) ?_
  refine ss_put (i := 105) dX8_put_78 fwX8_105 (by omega) (sh_r105 _ _) rfl rfl (Nat.le_of_ble_eq_true rfl) (sh_r105 _ _) ?_
  refine ss_aload_n dX8_put_81 0 rfl ?_
  refine ss_get (i := 105) dX8_put_82 flX8_105 (by omega) (sh_r105 _ _) rfl ?_
  rw [up2_at, if_pos ⟨rfl, rfl⟩]
  refine ss_if_le 90 dX8_put_85 (by decide) (fun c85 => by first | exact kd_tf (by decide) c85 | exact kd_ft (by decide) c85 | exact absurd (by decide) c85 | exact absurd c85 (by decide)) (fun c85 => ?_)
  refine ss_lconst (v := 0) dX8_put_88 (by decide) ?_
  exact ss_lret dX8_put_89 rfl (hQ)
set_option maxHeartbeats 1000000 in
set_option maxRecDepth 100000 in
theorem r_put_c2 {c : cx} {d : Nat} {X : nX} {Y : nY} {s : Nat} (hs : s < 4) {f i : Int32} {v : Int64} (hf : ix f 3 = true) {k : Nat} (hk : k ≤ 1100) (hh : X 119 s = nI k) (hff : ¬ X 120 s = f) : sc c mX8_put (d + 3) [.ref (c_ad c 105), .int (nI s), .int f, .int i, .long v] (X) (Y) (some (.long 0)) (up2 X 105 19 (nI 2)) (Y) := by
  intro Q hQ
  show ss c mX8_put (d + 3) Q 0 [(0, .ref (c_ad c 105)), (1, .int (nI s)), (2, .int f), (3, .int i), (4, .long v)] [] (X) (Y)
  have hs9 : ix (nI s) 4 = true := ix_of hs (by decide)
  refine ss_iload_n dX8_put_0 1 rfl ?_
  refine ss_callS (As := [_]) dX8_put_1 vlX8_99 clX8_isSheet rfl rfl (Nat.le_of_ble_eq_true rfl) (Nat.le_of_ble_eq_true rfl) (m_isSheet) ?_
  refine sy_if_ne 11 dX8_put_4 (by decide) (fun c4 => ?_) (fun c4 => by first | exact kd_tf (hs9) c4 | exact kd_ft (hs9) c4 | exact absurd (hs9) c4 | exact absurd c4 (hs9))
  refine ss_iload_n dX8_put_11 2 rfl ?_
  refine ss_i2l dX8_put_12 ?_
  refine ss_lconst (v := 0) dX8_put_13 (by decide) ?_
  refine ss_ldc2 dX8_put_14 kcX8_103 ?_
  refine ss_callS (As := [_, _, _]) dX8_put_17 vlX8_89 clX8_within rfl rfl (Nat.le_of_ble_eq_true rfl) (Nat.le_of_ble_eq_true rfl) (m_within) ?_
  refine sy_if_ne 27 dX8_put_20 (by decide) (fun c20 => ?_) (fun c20 => by first | exact kd_tf (by rw [wi_ix (n := 3) rfl]; exact hf) c20 | exact kd_ft (by rw [wi_ix (n := 3) rfl]; exact hf) c20 | exact absurd (by rw [wi_ix (n := 3) rfl]; exact hf) c20 | exact absurd c20 (by rw [wi_ix (n := 3) rfl]; exact hf))
  refine ss_aload_n dX8_put_27 0 rfl ?_
  refine ss_aload_n dX8_put_28 0 rfl ?_
  refine ss_get (i := 105) dX8_put_29 flX8_55 (by omega) (sh_r105 _ _) rfl ?_
  refine ss_iload_n dX8_put_32 1 rfl ?_
  refine ss_iald (i := 119) dX8_put_33 (by omega) (sh_r119) (by omega) (by decide) ?_
  rw [hh]
  refine ss_if_ge 41 dX8_put_34 (by decide) (fun c34 => ?_) (fun c34 => by first | exact kd_tf (nI_pos' (by omega)) c34 | exact kd_ft (nI_pos' (by omega)) c34 | exact absurd (nI_pos' (by omega)) c34 | exact absurd c34 (nI_pos' (by omega)))
  refine ss_aload_n dX8_put_41 0 rfl ?_
  refine ss_get (i := 105) dX8_put_42 flX8_58 (by omega) (sh_r105 _ _) rfl ?_
  refine ss_iload_n dX8_put_45 1 rfl ?_
  refine ss_iald (i := 120) dX8_put_46 (by omega) (sh_r120) (by omega) (by decide) ?_
  refine ss_iload_n dX8_put_47 2 rfl ?_
  refine ss_icmp_eq 55 dX8_put_48 (by decide) (fun c48 => by first | exact kd_tf (hff) c48 | exact kd_ft (hff) c48 | exact absurd (hff) c48 | exact absurd c48 (hff)) (fun c48 => ?_)
  refine ss_iconst (v := nI 2) dX8_put_51 (by decide) ?_
  refine ss_goto 78 dX8_put_52 (by decide) ?_
  refine ss_put (i := 105) dX8_put_78 fwX8_105 (by omega) (sh_r105 _ _) rfl rfl (Nat.le_of_ble_eq_true rfl) (sh_r105 _ _) ?_
  refine ss_aload_n dX8_put_81 0 rfl ?_
  refine ss_get (i := 105) dX8_put_82 flX8_105 (by omega) (sh_r105 _ _) rfl ?_
  rw [up2_at, if_pos ⟨rfl, rfl⟩]
  refine ss_if_le 90 dX8_put_85 (by decide) (fun c85 => by first | exact kd_tf (by decide) c85 | exact kd_ft (by decide) c85 | exact absurd (by decide) c85 | exact absurd c85 (by decide)) (fun c85 => ?_)
  refine ss_lconst (v := 0) dX8_put_88 (by decide) ?_
  exact ss_lret dX8_put_89 rfl (hQ)
set_option maxHeartbeats 1000000 in
set_option maxRecDepth 100000 in
theorem r_put_c3 {c : cx} {d : Nat} {X : nX} {Y : nY} {s : Nat} (hs : s < 4) {f i : Int32} {v : Int64} (hf : ix f 3 = true) {k : Nat} (hk : k ≤ 1100) (hh : X 119 s = nI k) (hff : X 120 s = f) (hi : ix i k = false) : sc c mX8_put (d + 3) [.ref (c_ad c 105), .int (nI s), .int f, .int i, .long v] (X) (Y) (some (.long 0)) (up2 X 105 19 (nI 3)) (Y) := by
  intro Q hQ
  show ss c mX8_put (d + 3) Q 0 [(0, .ref (c_ad c 105)), (1, .int (nI s)), (2, .int f), (3, .int i), (4, .long v)] [] (X) (Y)
  have hs9 : ix (nI s) 4 = true := ix_of hs (by decide)
  refine ss_iload_n dX8_put_0 1 rfl ?_
  refine ss_callS (As := [_]) dX8_put_1 vlX8_99 clX8_isSheet rfl rfl (Nat.le_of_ble_eq_true rfl) (Nat.le_of_ble_eq_true rfl) (m_isSheet) ?_
  refine sy_if_ne 11 dX8_put_4 (by decide) (fun c4 => ?_) (fun c4 => by first | exact kd_tf (hs9) c4 | exact kd_ft (hs9) c4 | exact absurd (hs9) c4 | exact absurd c4 (hs9))
  refine ss_iload_n dX8_put_11 2 rfl ?_
  refine ss_i2l dX8_put_12 ?_
  refine ss_lconst (v := 0) dX8_put_13 (by decide) ?_
  refine ss_ldc2 dX8_put_14 kcX8_103 ?_
  refine ss_callS (As := [_, _, _]) dX8_put_17 vlX8_89 clX8_within rfl rfl (Nat.le_of_ble_eq_true rfl) (Nat.le_of_ble_eq_true rfl) (m_within) ?_
  refine sy_if_ne 27 dX8_put_20 (by decide) (fun c20 => ?_) (fun c20 => by first | exact kd_tf (by rw [wi_ix (n := 3) rfl]; exact hf) c20 | exact kd_ft (by rw [wi_ix (n := 3) rfl]; exact hf) c20 | exact absurd (by rw [wi_ix (n := 3) rfl]; exact hf) c20 | exact absurd c20 (by rw [wi_ix (n := 3) rfl]; exact hf))
  refine ss_aload_n dX8_put_27 0 rfl ?_
  refine ss_aload_n dX8_put_28 0 rfl ?_
  refine ss_get (i := 105) dX8_put_29 flX8_55 (by omega) (sh_r105 _ _) rfl ?_
  refine ss_iload_n dX8_put_32 1 rfl ?_
  refine ss_iald (i := 119) dX8_put_33 (by omega) (sh_r119) (by omega) (by decide) ?_
  rw [hh]
  refine ss_if_ge 41 dX8_put_34 (by decide) (fun c34 => ?_) (fun c34 => by first | exact kd_tf (nI_pos' (by omega)) c34 | exact kd_ft (nI_pos' (by omega)) c34 | exact absurd (nI_pos' (by omega)) c34 | exact absurd c34 (nI_pos' (by omega)))
  refine ss_aload_n dX8_put_41 0 rfl ?_
  refine ss_get (i := 105) dX8_put_42 flX8_58 (by omega) (sh_r105 _ _) rfl ?_
  refine ss_iload_n dX8_put_45 1 rfl ?_
  refine ss_iald (i := 120) dX8_put_46 (by omega) (sh_r120) (by omega) (by decide) ?_
  refine ss_iload_n dX8_put_47 2 rfl ?_
  refine ss_icmp_eq 55 dX8_put_48 (by decide) (fun c48 => ?_) (fun c48 => by first | exact kd_tf (hff) c48 | exact kd_ft (hff) c48 | exact absurd (hff) c48 | exact absurd c48 (hff))
  refine ss_iload_n dX8_put_55 3 rfl ?_
  refine ss_i2l dX8_put_56 ?_
  refine ss_lconst (v := 0) dX8_put_57 (by decide) ?_
  refine ss_aload_n dX8_put_58 0 rfl ?_
  refine ss_get (i := 105) dX8_put_59 flX8_55 (by omega) (sh_r105 _ _) rfl ?_
  refine ss_iload_n dX8_put_62 1 rfl ?_
  refine ss_iald (i := 119) dX8_put_63 (by omega) (sh_r119) (by omega) (by decide) ?_
  rw [hh]
  refine ss_iconst (v := nI 1) dX8_put_64 (by decide) ?_
  refine ss_isub dX8_put_65 ?_
  refine ss_i2l dX8_put_66 ?_
  refine ss_callS (As := [_, _, _]) dX8_put_67 vlX8_89 clX8_within rfl rfl (Nat.le_of_ble_eq_true rfl) (Nat.le_of_ble_eq_true rfl) (m_within) ?_
  refine sy_if_ne 77 dX8_put_70 (by decide) (fun c70 => by first | exact kd_tf (by rw [wi_ix (nI_s1l (by omega))]; exact hi) c70 | exact kd_ft (by rw [wi_ix (nI_s1l (by omega))]; exact hi) c70 | exact absurd (by rw [wi_ix (nI_s1l (by omega))]; exact hi) c70 | exact absurd c70 (by rw [wi_ix (nI_s1l (by omega))]; exact hi)) (fun c70 => ?_)
  refine ss_iconst (v := nI 3) dX8_put_73 (by decide) ?_
  refine ss_goto 78 dX8_put_74 (by decide) ?_
  refine ss_put (i := 105) dX8_put_78 fwX8_105 (by omega) (sh_r105 _ _) rfl rfl (Nat.le_of_ble_eq_true rfl) (sh_r105 _ _) ?_
  refine ss_aload_n dX8_put_81 0 rfl ?_
  refine ss_get (i := 105) dX8_put_82 flX8_105 (by omega) (sh_r105 _ _) rfl ?_
  rw [up2_at, if_pos ⟨rfl, rfl⟩]
  refine ss_if_le 90 dX8_put_85 (by decide) (fun c85 => by first | exact kd_tf (by decide) c85 | exact kd_ft (by decide) c85 | exact absurd (by decide) c85 | exact absurd c85 (by decide)) (fun c85 => ?_)
  refine ss_lconst (v := 0) dX8_put_88 (by decide) ?_
  exact ss_lret dX8_put_89 rfl (hQ)
set_option maxHeartbeats 1000000 in
set_option maxRecDepth 100000 in
theorem r_put_k0 {c : cx} {d : Nat} {X : nX} {Y : nY} {s : Nat} (hs : s < 4) {v : Int64} (hff : X 120 s = nI 0) {k i : Nat} (hk : k ≤ 1100) (hh : X 119 s = nI k) (hi : i < k) : sc c mX8_put (d + 3) [.ref (c_ad c 105), .int (nI s), .int (nI 0), .int (nI i), .long v] (X) (Y) (some (.long (v.toInt32.toInt8.toInt32.toInt64))) (up2 X 105 19 (nI 0)) (upl Y 121 (1100 * s + i) (v.toInt32.toInt8.toInt32.toInt64)) := by
  intro Q hQ
  show ss c mX8_put (d + 3) Q 0 [(0, .ref (c_ad c 105)), (1, .int (nI s)), (2, .int (nI 0)), (3, .int (nI i)), (4, .long v)] [] (X) (Y)
  have hs9 : ix (nI s) 4 = true := ix_of hs (by decide)
  refine ss_iload_n dX8_put_0 1 rfl ?_
  refine ss_callS (As := [_]) dX8_put_1 vlX8_99 clX8_isSheet rfl rfl (Nat.le_of_ble_eq_true rfl) (Nat.le_of_ble_eq_true rfl) (m_isSheet) ?_
  refine sy_if_ne 11 dX8_put_4 (by decide) (fun c4 => ?_) (fun c4 => by first | exact kd_tf (hs9) c4 | exact kd_ft (hs9) c4 | exact absurd (hs9) c4 | exact absurd c4 (hs9))
  refine ss_iload_n dX8_put_11 2 rfl ?_
  refine ss_i2l dX8_put_12 ?_
  refine ss_lconst (v := 0) dX8_put_13 (by decide) ?_
  refine ss_ldc2 dX8_put_14 kcX8_103 ?_
  refine ss_callS (As := [_, _, _]) dX8_put_17 vlX8_89 clX8_within rfl rfl (Nat.le_of_ble_eq_true rfl) (Nat.le_of_ble_eq_true rfl) (m_within) ?_
  refine sy_if_ne 27 dX8_put_20 (by decide) (fun c20 => ?_) (fun c20 => by first | exact kd_tf (by rw [wi_ix (n := 3) rfl]; exact ix_of (by decide) (by decide)) c20 | exact kd_ft (by rw [wi_ix (n := 3) rfl]; exact ix_of (by decide) (by decide)) c20 | exact absurd (by rw [wi_ix (n := 3) rfl]; exact ix_of (by decide) (by decide)) c20 | exact absurd c20 (by rw [wi_ix (n := 3) rfl]; exact ix_of (by decide) (by decide)))
  refine ss_aload_n dX8_put_27 0 rfl ?_
  refine ss_aload_n dX8_put_28 0 rfl ?_
  refine ss_get (i := 105) dX8_put_29 flX8_55 (by omega) (sh_r105 _ _) rfl ?_
  refine ss_iload_n dX8_put_32 1 rfl ?_
  refine ss_iald (i := 119) dX8_put_33 (by omega) (sh_r119) (by omega) (by decide) ?_
  rw [hh]
  refine ss_if_ge 41 dX8_put_34 (by decide) (fun c34 => ?_) (fun c34 => by first | exact kd_tf (nI_pos' (by omega)) c34 | exact kd_ft (nI_pos' (by omega)) c34 | exact absurd (nI_pos' (by omega)) c34 | exact absurd c34 (nI_pos' (by omega)))
  refine ss_aload_n dX8_put_41 0 rfl ?_
  refine ss_get (i := 105) dX8_put_42 flX8_58 (by omega) (sh_r105 _ _) rfl ?_
  refine ss_iload_n dX8_put_45 1 rfl ?_
  refine ss_iald (i := 120) dX8_put_46 (by omega) (sh_r120) (by omega) (by decide) ?_
  refine ss_iload_n dX8_put_47 2 rfl ?_
  refine ss_icmp_eq 55 dX8_put_48 (by decide) (fun c48 => ?_) (fun c48 => by first | exact kd_tf (hff) c48 | exact kd_ft (hff) c48 | exact absurd (hff) c48 | exact absurd c48 (hff))
  refine ss_iload_n dX8_put_55 3 rfl ?_
  refine ss_i2l dX8_put_56 ?_
  refine ss_lconst (v := 0) dX8_put_57 (by decide) ?_
  refine ss_aload_n dX8_put_58 0 rfl ?_
  refine ss_get (i := 105) dX8_put_59 flX8_55 (by omega) (sh_r105 _ _) rfl ?_
  refine ss_iload_n dX8_put_62 1 rfl ?_
  refine ss_iald (i := 119) dX8_put_63 (by omega) (sh_r119) (by omega) (by decide) ?_
  rw [hh]
  refine ss_iconst (v := nI 1) dX8_put_64 (by decide) ?_
  refine ss_isub dX8_put_65 ?_
  refine ss_i2l dX8_put_66 ?_
  refine ss_callS (As := [_, _, _]) dX8_put_67 vlX8_89 clX8_within rfl rfl (Nat.le_of_ble_eq_true rfl) (Nat.le_of_ble_eq_true rfl) (m_within) ?_
  refine sy_if_ne 77 dX8_put_70 (by decide) (fun c70 => ?_) (fun c70 => by first | exact kd_tf (by rw [wi_ix (nI_s1l (by omega))]; exact ix_of hi (by omega)) c70 | exact kd_ft (by rw [wi_ix (nI_s1l (by omega))]; exact ix_of hi (by omega)) c70 | exact absurd (by rw [wi_ix (nI_s1l (by omega))]; exact ix_of hi (by omega)) c70 | exact absurd c70 (by rw [wi_ix (nI_s1l (by omega))]; exact ix_of hi (by omega)))
  refine ss_iconst (v := nI 0) dX8_put_77 (by decide) ?_
  refine ss_put (i := 105) dX8_put_78 fwX8_105 (by omega) (sh_r105 _ _) rfl rfl (Nat.le_of_ble_eq_true rfl) (sh_r105 _ _) ?_
  refine ss_aload_n dX8_put_81 0 rfl ?_
  refine ss_get (i := 105) dX8_put_82 flX8_105 (by omega) (sh_r105 _ _) rfl ?_
  rw [up2_at, if_pos ⟨rfl, rfl⟩]
  refine ss_if_le 90 dX8_put_85 (by decide) (fun c85 => ?_) (fun c85 => by first | exact kd_tf (by decide) c85 | exact kd_ft (by decide) c85 | exact absurd (by decide) c85 | exact absurd c85 (by decide))
  refine ss_aload_n dX8_put_90 0 rfl ?_
  refine ss_get (i := 105) dX8_put_91 flX8_61 (by omega) (sh_r105 _ _) rfl ?_
  refine ss_sipush (v := nI 1100) dX8_put_94 (by decide) ?_
  refine ss_iload_n dX8_put_97 1 rfl ?_
  refine sz_imul dX8_put_98 ?_
  refine ss_iload_n dX8_put_99 3 rfl ?_
  refine sz_iadd dX8_put_100 ?_
  refine ss_iload_n dX8_put_101 2 rfl ?_
  refine sz_if_ne 113 dX8_put_102 (by decide) (by omega) (fun c102 => by omega) (fun c102 => ?_)
  refine ss_lload dX8_put_105 4 rfl ?_
  refine ss_l2i dX8_put_107 ?_
  refine ss_i2b dX8_put_108 ?_
  refine ss_i2l dX8_put_109 ?_
  refine ss_goto 127 dX8_put_110 (by decide) ?_
  refine ss_last (i := 121) dX8_put_127 (by omega) (sh_r121) (by omega) (by decide) ?_
  refine ss_aload_n dX8_put_128 0 rfl ?_
  refine ss_get (i := 105) dX8_put_129 flX8_61 (by omega) (sh_r105 _ _) rfl ?_
  refine ss_sipush (v := nI 1100) dX8_put_132 (by decide) ?_
  refine ss_iload_n dX8_put_135 1 rfl ?_
  refine sz_imul dX8_put_136 ?_
  refine ss_iload_n dX8_put_137 3 rfl ?_
  refine sz_iadd dX8_put_138 ?_
  refine ss_lald (i := 121) dX8_put_139 (by omega) (sh_r121) (by omega) (by decide) ?_
  rw [upl_at, if_pos ⟨rfl, rfl⟩]
  exact ss_lret dX8_put_140 rfl (hQ)
set_option maxHeartbeats 1000000 in
set_option maxRecDepth 100000 in
theorem r_put_k1 {c : cx} {d : Nat} {X : nX} {Y : nY} {s : Nat} (hs : s < 4) {v : Int64} (hff : X 120 s = nI 1) {k i : Nat} (hk : k ≤ 1100) (hh : X 119 s = nI k) (hi : i < k) : sc c mX8_put (d + 3) [.ref (c_ad c 105), .int (nI s), .int (nI 1), .int (nI i), .long v] (X) (Y) (some (.long (v.toInt32.toInt64))) (up2 X 105 19 (nI 0)) (upl Y 121 (1100 * s + i) (v.toInt32.toInt64)) := by
  intro Q hQ
  show ss c mX8_put (d + 3) Q 0 [(0, .ref (c_ad c 105)), (1, .int (nI s)), (2, .int (nI 1)), (3, .int (nI i)), (4, .long v)] [] (X) (Y)
  have hs9 : ix (nI s) 4 = true := ix_of hs (by decide)
  refine ss_iload_n dX8_put_0 1 rfl ?_
  refine ss_callS (As := [_]) dX8_put_1 vlX8_99 clX8_isSheet rfl rfl (Nat.le_of_ble_eq_true rfl) (Nat.le_of_ble_eq_true rfl) (m_isSheet) ?_
  refine sy_if_ne 11 dX8_put_4 (by decide) (fun c4 => ?_) (fun c4 => by first | exact kd_tf (hs9) c4 | exact kd_ft (hs9) c4 | exact absurd (hs9) c4 | exact absurd c4 (hs9))
  refine ss_iload_n dX8_put_11 2 rfl ?_
  refine ss_i2l dX8_put_12 ?_
  refine ss_lconst (v := 0) dX8_put_13 (by decide) ?_
  refine ss_ldc2 dX8_put_14 kcX8_103 ?_
  refine ss_callS (As := [_, _, _]) dX8_put_17 vlX8_89 clX8_within rfl rfl (Nat.le_of_ble_eq_true rfl) (Nat.le_of_ble_eq_true rfl) (m_within) ?_
  refine sy_if_ne 27 dX8_put_20 (by decide) (fun c20 => ?_) (fun c20 => by first | exact kd_tf (by rw [wi_ix (n := 3) rfl]; exact ix_of (by decide) (by decide)) c20 | exact kd_ft (by rw [wi_ix (n := 3) rfl]; exact ix_of (by decide) (by decide)) c20 | exact absurd (by rw [wi_ix (n := 3) rfl]; exact ix_of (by decide) (by decide)) c20 | exact absurd c20 (by rw [wi_ix (n := 3) rfl]; exact ix_of (by decide) (by decide)))
  refine ss_aload_n dX8_put_27 0 rfl ?_
  refine ss_aload_n dX8_put_28 0 rfl ?_
  refine ss_get (i := 105) dX8_put_29 flX8_55 (by omega) (sh_r105 _ _) rfl ?_
  refine ss_iload_n dX8_put_32 1 rfl ?_
  refine ss_iald (i := 119) dX8_put_33 (by omega) (sh_r119) (by omega) (by decide) ?_
  rw [hh]
  refine ss_if_ge 41 dX8_put_34 (by decide) (fun c34 => ?_) (fun c34 => by first | exact kd_tf (nI_pos' (by omega)) c34 | exact kd_ft (nI_pos' (by omega)) c34 | exact absurd (nI_pos' (by omega)) c34 | exact absurd c34 (nI_pos' (by omega)))
  refine ss_aload_n dX8_put_41 0 rfl ?_
  refine ss_get (i := 105) dX8_put_42 flX8_58 (by omega) (sh_r105 _ _) rfl ?_
  refine ss_iload_n dX8_put_45 1 rfl ?_
  refine ss_iald (i := 120) dX8_put_46 (by omega) (sh_r120) (by omega) (by decide) ?_
  refine ss_iload_n dX8_put_47 2 rfl ?_
  refine ss_icmp_eq 55 dX8_put_48 (by decide) (fun c48 => ?_) (fun c48 => by first | exact kd_tf (hff) c48 | exact kd_ft (hff) c48 | exact absurd (hff) c48 | exact absurd c48 (hff))
  refine ss_iload_n dX8_put_55 3 rfl ?_
  refine ss_i2l dX8_put_56 ?_
  refine ss_lconst (v := 0) dX8_put_57 (by decide) ?_
  refine ss_aload_n dX8_put_58 0 rfl ?_
  refine ss_get (i := 105) dX8_put_59 flX8_55 (by omega) (sh_r105 _ _) rfl ?_
  refine ss_iload_n dX8_put_62 1 rfl ?_
  refine ss_iald (i := 119) dX8_put_63 (by omega) (sh_r119) (by omega) (by decide) ?_
  rw [hh]
  refine ss_iconst (v := nI 1) dX8_put_64 (by decide) ?_
  refine ss_isub dX8_put_65 ?_
  refine ss_i2l dX8_put_66 ?_
  refine ss_callS (As := [_, _, _]) dX8_put_67 vlX8_89 clX8_within rfl rfl (Nat.le_of_ble_eq_true rfl) (Nat.le_of_ble_eq_true rfl) (m_within) ?_
  refine sy_if_ne 77 dX8_put_70 (by decide) (fun c70 => ?_) (fun c70 => by first | exact kd_tf (by rw [wi_ix (nI_s1l (by omega))]; exact ix_of hi (by omega)) c70 | exact kd_ft (by rw [wi_ix (nI_s1l (by omega))]; exact ix_of hi (by omega)) c70 | exact absurd (by rw [wi_ix (nI_s1l (by omega))]; exact ix_of hi (by omega)) c70 | exact absurd c70 (by rw [wi_ix (nI_s1l (by omega))]; exact ix_of hi (by omega)))
  refine ss_iconst (v := nI 0) dX8_put_77 (by decide) ?_
  refine ss_put (i := 105) dX8_put_78 fwX8_105 (by omega) (sh_r105 _ _) rfl rfl (Nat.le_of_ble_eq_true rfl) (sh_r105 _ _) ?_
  refine ss_aload_n dX8_put_81 0 rfl ?_
  refine ss_get (i := 105) dX8_put_82 flX8_105 (by omega) (sh_r105 _ _) rfl ?_
  rw [up2_at, if_pos ⟨rfl, rfl⟩]
  refine ss_if_le 90 dX8_put_85 (by decide) (fun c85 => ?_) (fun c85 => by first | exact kd_tf (by decide) c85 | exact kd_ft (by decide) c85 | exact absurd (by decide) c85 | exact absurd c85 (by decide))
  refine ss_aload_n dX8_put_90 0 rfl ?_
  refine ss_get (i := 105) dX8_put_91 flX8_61 (by omega) (sh_r105 _ _) rfl ?_
  refine ss_sipush (v := nI 1100) dX8_put_94 (by decide) ?_
  refine ss_iload_n dX8_put_97 1 rfl ?_
  refine sz_imul dX8_put_98 ?_
  refine ss_iload_n dX8_put_99 3 rfl ?_
  refine sz_iadd dX8_put_100 ?_
  refine ss_iload_n dX8_put_101 2 rfl ?_
  refine sz_if_ne 113 dX8_put_102 (by decide) (by omega) (fun c102 => ?_) (fun c102 => by omega)
  refine ss_iload_n dX8_put_113 2 rfl ?_
  refine ss_iconst (v := nI 1) dX8_put_114 (by decide) ?_
  refine sz_icmp_ne 125 dX8_put_115 (by decide) (by omega) (by omega) (fun c115 => by omega) (fun c115 => ?_)
  refine ss_lload dX8_put_118 4 rfl ?_
  refine ss_l2i dX8_put_120 ?_
  refine ss_i2l dX8_put_121 ?_
  refine ss_goto 127 dX8_put_122 (by decide) ?_
  refine ss_last (i := 121) dX8_put_127 (by omega) (sh_r121) (by omega) (by decide) ?_
  refine ss_aload_n dX8_put_128 0 rfl ?_
  refine ss_get (i := 105) dX8_put_129 flX8_61 (by omega) (sh_r105 _ _) rfl ?_
  refine ss_sipush (v := nI 1100) dX8_put_132 (by decide) ?_
  refine ss_iload_n dX8_put_135 1 rfl ?_
  refine sz_imul dX8_put_136 ?_
  refine ss_iload_n dX8_put_137 3 rfl ?_
  refine sz_iadd dX8_put_138 ?_
  refine ss_lald (i := 121) dX8_put_139 (by omega) (sh_r121) (by omega) (by decide) ?_
  rw [upl_at, if_pos ⟨rfl, rfl⟩]
  exact ss_lret dX8_put_140 rfl (hQ)
set_option maxHeartbeats 1000000 in
set_option maxRecDepth 100000 in
theorem r_put_k2 {c : cx} {d : Nat} {X : nX} {Y : nY} {s : Nat} (hs : s < 4) {v : Int64} (hff : X 120 s = nI 2) {k i : Nat} (hk : k ≤ 1100) (hh : X 119 s = nI k) (hi : i < k) : sc c mX8_put (d + 3) [.ref (c_ad c 105), .int (nI s), .int (nI 2), .int (nI i), .long v] (X) (Y) (some (.long (v))) (up2 X 105 19 (nI 0)) (upl Y 121 (1100 * s + i) (v)) := by
  intro Q hQ
  show ss c mX8_put (d + 3) Q 0 [(0, .ref (c_ad c 105)), (1, .int (nI s)), (2, .int (nI 2)), (3, .int (nI i)), (4, .long v)] [] (X) (Y)
  have hs9 : ix (nI s) 4 = true := ix_of hs (by decide)
  refine ss_iload_n dX8_put_0 1 rfl ?_
  refine ss_callS (As := [_]) dX8_put_1 vlX8_99 clX8_isSheet rfl rfl (Nat.le_of_ble_eq_true rfl) (Nat.le_of_ble_eq_true rfl) (m_isSheet) ?_
  refine sy_if_ne 11 dX8_put_4 (by decide) (fun c4 => ?_) (fun c4 => by first | exact kd_tf (hs9) c4 | exact kd_ft (hs9) c4 | exact absurd (hs9) c4 | exact absurd c4 (hs9))
  refine ss_iload_n dX8_put_11 2 rfl ?_
  refine ss_i2l dX8_put_12 ?_
  refine ss_lconst (v := 0) dX8_put_13 (by decide) ?_
  refine ss_ldc2 dX8_put_14 kcX8_103 ?_
  refine ss_callS (As := [_, _, _]) dX8_put_17 vlX8_89 clX8_within rfl rfl (Nat.le_of_ble_eq_true rfl) (Nat.le_of_ble_eq_true rfl) (m_within) ?_
  refine sy_if_ne 27 dX8_put_20 (by decide) (fun c20 => ?_) (fun c20 => by first | exact kd_tf (by rw [wi_ix (n := 3) rfl]; exact ix_of (by decide) (by decide)) c20 | exact kd_ft (by rw [wi_ix (n := 3) rfl]; exact ix_of (by decide) (by decide)) c20 | exact absurd (by rw [wi_ix (n := 3) rfl]; exact ix_of (by decide) (by decide)) c20 | exact absurd c20 (by rw [wi_ix (n := 3) rfl]; exact ix_of (by decide) (by decide)))
  refine ss_aload_n dX8_put_27 0 rfl ?_
  refine ss_aload_n dX8_put_28 0 rfl ?_
  refine ss_get (i := 105) dX8_put_29 flX8_55 (by omega) (sh_r105 _ _) rfl ?_
  refine ss_iload_n dX8_put_32 1 rfl ?_
  refine ss_iald (i := 119) dX8_put_33 (by omega) (sh_r119) (by omega) (by decide) ?_
  rw [hh]
  refine ss_if_ge 41 dX8_put_34 (by decide) (fun c34 => ?_) (fun c34 => by first | exact kd_tf (nI_pos' (by omega)) c34 | exact kd_ft (nI_pos' (by omega)) c34 | exact absurd (nI_pos' (by omega)) c34 | exact absurd c34 (nI_pos' (by omega)))
  refine ss_aload_n dX8_put_41 0 rfl ?_
  refine ss_get (i := 105) dX8_put_42 flX8_58 (by omega) (sh_r105 _ _) rfl ?_
  refine ss_iload_n dX8_put_45 1 rfl ?_
  refine ss_iald (i := 120) dX8_put_46 (by omega) (sh_r120) (by omega) (by decide) ?_
  refine ss_iload_n dX8_put_47 2 rfl ?_
  refine ss_icmp_eq 55 dX8_put_48 (by decide) (fun c48 => ?_) (fun c48 => by first | exact kd_tf (hff) c48 | exact kd_ft (hff) c48 | exact absurd (hff) c48 | exact absurd c48 (hff))
  refine ss_iload_n dX8_put_55 3 rfl ?_
  refine ss_i2l dX8_put_56 ?_
  refine ss_lconst (v := 0) dX8_put_57 (by decide) ?_
  refine ss_aload_n dX8_put_58 0 rfl ?_
  refine ss_get (i := 105) dX8_put_59 flX8_55 (by omega) (sh_r105 _ _) rfl ?_
  refine ss_iload_n dX8_put_62 1 rfl ?_
  refine ss_iald (i := 119) dX8_put_63 (by omega) (sh_r119) (by omega) (by decide) ?_
  rw [hh]
  refine ss_iconst (v := nI 1) dX8_put_64 (by decide) ?_
  refine ss_isub dX8_put_65 ?_
  refine ss_i2l dX8_put_66 ?_
  refine ss_callS (As := [_, _, _]) dX8_put_67 vlX8_89 clX8_within rfl rfl (Nat.le_of_ble_eq_true rfl) (Nat.le_of_ble_eq_true rfl) (m_within) ?_
  refine sy_if_ne 77 dX8_put_70 (by decide) (fun c70 => ?_) (fun c70 => by first | exact kd_tf (by rw [wi_ix (nI_s1l (by omega))]; exact ix_of hi (by omega)) c70 | exact kd_ft (by rw [wi_ix (nI_s1l (by omega))]; exact ix_of hi (by omega)) c70 | exact absurd (by rw [wi_ix (nI_s1l (by omega))]; exact ix_of hi (by omega)) c70 | exact absurd c70 (by rw [wi_ix (nI_s1l (by omega))]; exact ix_of hi (by omega)))
  refine ss_iconst (v := nI 0) dX8_put_77 (by decide) ?_
  refine ss_put (i := 105) dX8_put_78 fwX8_105 (by omega) (sh_r105 _ _) rfl rfl (Nat.le_of_ble_eq_true rfl) (sh_r105 _ _) ?_
  refine ss_aload_n dX8_put_81 0 rfl ?_
  refine ss_get (i := 105) dX8_put_82 flX8_105 (by omega) (sh_r105 _ _) rfl ?_
  rw [up2_at, if_pos ⟨rfl, rfl⟩]
  refine ss_if_le 90 dX8_put_85 (by decide) (fun c85 => ?_) (fun c85 => by first | exact kd_tf (by decide) c85 | exact kd_ft (by decide) c85 | exact absurd (by decide) c85 | exact absurd c85 (by decide))
  refine ss_aload_n dX8_put_90 0 rfl ?_
  refine ss_get (i := 105) dX8_put_91 flX8_61 (by omega) (sh_r105 _ _) rfl ?_
  refine ss_sipush (v := nI 1100) dX8_put_94 (by decide) ?_
  refine ss_iload_n dX8_put_97 1 rfl ?_
  refine sz_imul dX8_put_98 ?_
  refine ss_iload_n dX8_put_99 3 rfl ?_
  refine sz_iadd dX8_put_100 ?_
  refine ss_iload_n dX8_put_101 2 rfl ?_
  refine sz_if_ne 113 dX8_put_102 (by decide) (by omega) (fun c102 => ?_) (fun c102 => by omega)
  refine ss_iload_n dX8_put_113 2 rfl ?_
  refine ss_iconst (v := nI 1) dX8_put_114 (by decide) ?_
  refine sz_icmp_ne 125 dX8_put_115 (by decide) (by omega) (by omega) (fun c115 => ?_) (fun c115 => by omega)
  refine ss_lload dX8_put_125 4 rfl ?_
  refine ss_last (i := 121) dX8_put_127 (by omega) (sh_r121) (by omega) (by decide) ?_
  refine ss_aload_n dX8_put_128 0 rfl ?_
  refine ss_get (i := 105) dX8_put_129 flX8_61 (by omega) (sh_r105 _ _) rfl ?_
  refine ss_sipush (v := nI 1100) dX8_put_132 (by decide) ?_
  refine ss_iload_n dX8_put_135 1 rfl ?_
  refine sz_imul dX8_put_136 ?_
  refine ss_iload_n dX8_put_137 3 rfl ?_
  refine sz_iadd dX8_put_138 ?_
  refine ss_lald (i := 121) dX8_put_139 (by omega) (sh_r121) (by omega) (by decide) ?_
  rw [upl_at, if_pos ⟨rfl, rfl⟩]
  exact ss_lret dX8_put_140 rfl (hQ)
set_option maxHeartbeats 1000000 in
set_option maxRecDepth 100000 in
theorem r_at_u {c : cx} {d : Nat} {X : nX} {Y : nY} {s : Int32} (hs : ix s 4 = false) {i : Int32} : sc c mX8_at (d + 3) [.ref (c_ad c 105), .int s, .int i] (X) (Y) (some (.long (-1001))) (X) (Y) := by
  intro Q hQ
  show ss c mX8_at (d + 3) Q 0 [(0, .ref (c_ad c 105)), (1, .int s), (2, .int i)] [] (X) (Y)
  refine ss_iload_n dX8_at_0 1 rfl ?_
  refine ss_callS (As := [_]) dX8_at_1 vlX8_99 clX8_isSheet rfl rfl (Nat.le_of_ble_eq_true rfl) (Nat.le_of_ble_eq_true rfl) (m_isSheet) ?_
  refine sy_if_ne 11 dX8_at_4 (by decide) (fun c4 => by first | exact kd_tf (hs) c4 | exact kd_ft (hs) c4 | exact absurd (hs) c4 | exact absurd c4 (hs)) (fun c4 => ?_)
  refine ss_ldc2 dX8_at_7 kcX8_108 ?_
  exact ss_lret dX8_at_10 rfl (hQ)
set_option maxHeartbeats 1000000 in
set_option maxRecDepth 100000 in
theorem r_at_c1 {c : cx} {d : Nat} {X : nX} {Y : nY} {s : Nat} (hs : s < 4) {i : Int32} (hh : X 119 s = -1) : sc c mX8_at (d + 3) [.ref (c_ad c 105), .int (nI s), .int i] (X) (Y) (some (.long 0)) (up2 X 105 19 (nI 1)) (Y) := by
  intro Q hQ
  show ss c mX8_at (d + 3) Q 0 [(0, .ref (c_ad c 105)), (1, .int (nI s)), (2, .int i)] [] (X) (Y)
  have hs9 : ix (nI s) 4 = true := ix_of hs (by decide)
  refine ss_iload_n dX8_at_0 1 rfl ?_
  refine ss_callS (As := [_]) dX8_at_1 vlX8_99 clX8_isSheet rfl rfl (Nat.le_of_ble_eq_true rfl) (Nat.le_of_ble_eq_true rfl) (m_isSheet) ?_
  refine sy_if_ne 11 dX8_at_4 (by decide) (fun c4 => ?_) (fun c4 => by first | exact kd_tf (hs9) c4 | exact kd_ft (hs9) c4 | exact absurd (hs9) c4 | exact absurd c4 (hs9))
  refine ss_aload_n dX8_at_11 0 rfl ?_
  refine ss_aload_n dX8_at_12 0 rfl ?_
  refine ss_get (i := 105) dX8_at_13 flX8_55 (by omega) (sh_r105 _ _) rfl ?_
  refine ss_iload_n dX8_at_16 1 rfl ?_
  refine ss_iald (i := 119) dX8_at_17 (by omega) (sh_r119) (by omega) (by decide) ?_
  rw [hh]
  refine ss_if_ge 25 dX8_at_18 (by decide) (fun c18 => by first | exact kd_tf (by decide) c18 | exact kd_ft (by decide) c18 | exact absurd (by decide) c18 | exact absurd c18 (by decide)) (fun c18 => ?_)
  refine ss_iconst (v := nI 1) dX8_at_21 (by decide) ?_
  refine ss_goto 48 dX8_at_22 (by decide) ?_
  refine ss_put (i := 105) dX8_at_48 fwX8_105 (by omega) (sh_r105 _ _) rfl rfl (Nat.le_of_ble_eq_true rfl) (sh_r105 _ _) ?_
  refine ss_aload_n dX8_at_51 0 rfl ?_
  refine ss_get (i := 105) dX8_at_52 flX8_105 (by omega) (sh_r105 _ _) rfl ?_
  rw [up2_at, if_pos ⟨rfl, rfl⟩]
  refine ss_if_le 62 dX8_at_55 (by decide) (fun c55 => by first | exact kd_tf (by decide) c55 | exact kd_ft (by decide) c55 | exact absurd (by decide) c55 | exact absurd c55 (by decide)) (fun c55 => ?_)
  refine ss_lconst (v := 0) dX8_at_58 (by decide) ?_
  refine ss_goto 74 dX8_at_59 (by decide) ?_
  exact ss_lret dX8_at_74 rfl (hQ)
set_option maxHeartbeats 1000000 in
set_option maxRecDepth 100000 in
theorem r_at_c3 {c : cx} {d : Nat} {X : nX} {Y : nY} {s : Nat} (hs : s < 4) {i : Int32} {k : Nat} (hk : k ≤ 1100) (hh : X 119 s = nI k) (hi : ix i k = false) : sc c mX8_at (d + 3) [.ref (c_ad c 105), .int (nI s), .int i] (X) (Y) (some (.long 0)) (up2 X 105 19 (nI 3)) (Y) := by
  intro Q hQ
  show ss c mX8_at (d + 3) Q 0 [(0, .ref (c_ad c 105)), (1, .int (nI s)), (2, .int i)] [] (X) (Y)
  have hs9 : ix (nI s) 4 = true := ix_of hs (by decide)
  refine ss_iload_n dX8_at_0 1 rfl ?_
  refine ss_callS (As := [_]) dX8_at_1 vlX8_99 clX8_isSheet rfl rfl (Nat.le_of_ble_eq_true rfl) (Nat.le_of_ble_eq_true rfl) (m_isSheet) ?_
  refine sy_if_ne 11 dX8_at_4 (by decide) (fun c4 => ?_) (fun c4 => by first | exact kd_tf (hs9) c4 | exact kd_ft (hs9) c4 | exact absurd (hs9) c4 | exact absurd c4 (hs9))
  refine ss_aload_n dX8_at_11 0 rfl ?_
  refine ss_aload_n dX8_at_12 0 rfl ?_
  refine ss_get (i := 105) dX8_at_13 flX8_55 (by omega) (sh_r105 _ _) rfl ?_
  refine ss_iload_n dX8_at_16 1 rfl ?_
  refine ss_iald (i := 119) dX8_at_17 (by omega) (sh_r119) (by omega) (by decide) ?_
  rw [hh]
  refine ss_if_ge 25 dX8_at_18 (by decide) (fun c18 => ?_) (fun c18 => by first | exact kd_tf (nI_pos' (by omega)) c18 | exact kd_ft (nI_pos' (by omega)) c18 | exact absurd (nI_pos' (by omega)) c18 | exact absurd c18 (nI_pos' (by omega)))
  refine ss_iload_n dX8_at_25 2 rfl ?_
  refine ss_i2l dX8_at_26 ?_
  refine ss_lconst (v := 0) dX8_at_27 (by decide) ?_
  refine ss_aload_n dX8_at_28 0 rfl ?_
  refine ss_get (i := 105) dX8_at_29 flX8_55 (by omega) (sh_r105 _ _) rfl ?_
  refine ss_iload_n dX8_at_32 1 rfl ?_
  refine ss_iald (i := 119) dX8_at_33 (by omega) (sh_r119) (by omega) (by decide) ?_
  rw [hh]
  refine ss_iconst (v := nI 1) dX8_at_34 (by decide) ?_
  refine ss_isub dX8_at_35 ?_
  refine ss_i2l dX8_at_36 ?_
  refine ss_callS (As := [_, _, _]) dX8_at_37 vlX8_89 clX8_within rfl rfl (Nat.le_of_ble_eq_true rfl) (Nat.le_of_ble_eq_true rfl) (m_within) ?_
  refine sy_if_ne 47 dX8_at_40 (by decide) (fun c40 => by first | exact kd_tf (by rw [wi_ix (nI_s1l (by omega))]; exact hi) c40 | exact kd_ft (by rw [wi_ix (nI_s1l (by omega))]; exact hi) c40 | exact absurd (by rw [wi_ix (nI_s1l (by omega))]; exact hi) c40 | exact absurd c40 (by rw [wi_ix (nI_s1l (by omega))]; exact hi)) (fun c40 => ?_)
  refine ss_iconst (v := nI 3) dX8_at_43 (by decide) ?_
  refine ss_goto 48 dX8_at_44 (by decide) ?_
  refine ss_put (i := 105) dX8_at_48 fwX8_105 (by omega) (sh_r105 _ _) rfl rfl (Nat.le_of_ble_eq_true rfl) (sh_r105 _ _) ?_
  refine ss_aload_n dX8_at_51 0 rfl ?_
  refine ss_get (i := 105) dX8_at_52 flX8_105 (by omega) (sh_r105 _ _) rfl ?_
  rw [up2_at, if_pos ⟨rfl, rfl⟩]
  refine ss_if_le 62 dX8_at_55 (by decide) (fun c55 => by first | exact kd_tf (by decide) c55 | exact kd_ft (by decide) c55 | exact absurd (by decide) c55 | exact absurd c55 (by decide)) (fun c55 => ?_)
  refine ss_lconst (v := 0) dX8_at_58 (by decide) ?_
  refine ss_goto 74 dX8_at_59 (by decide) ?_
  exact ss_lret dX8_at_74 rfl (hQ)
set_option maxHeartbeats 1000000 in
set_option maxRecDepth 100000 in
theorem r_at_k {c : cx} {d : Nat} {X : nX} {Y : nY} {s : Nat} (hs : s < 4) {i : Nat} {k : Nat} (hk : k ≤ 1100) (hh : X 119 s = nI k) (hi : i < k) : sc c mX8_at (d + 3) [.ref (c_ad c 105), .int (nI s), .int (nI i)] (X) (Y) (some (.long (Y 121 (1100 * s + i)))) (up2 X 105 19 (nI 0)) (Y) := by
  intro Q hQ
  show ss c mX8_at (d + 3) Q 0 [(0, .ref (c_ad c 105)), (1, .int (nI s)), (2, .int (nI i))] [] (X) (Y)
  have hs9 : ix (nI s) 4 = true := ix_of hs (by decide)
  refine ss_iload_n dX8_at_0 1 rfl ?_
  refine ss_callS (As := [_]) dX8_at_1 vlX8_99 clX8_isSheet rfl rfl (Nat.le_of_ble_eq_true rfl) (Nat.le_of_ble_eq_true rfl) (m_isSheet) ?_
  refine sy_if_ne 11 dX8_at_4 (by decide) (fun c4 => ?_) (fun c4 => by first | exact kd_tf (hs9) c4 | exact kd_ft (hs9) c4 | exact absurd (hs9) c4 | exact absurd c4 (hs9))
  refine ss_aload_n dX8_at_11 0 rfl ?_
  refine ss_aload_n dX8_at_12 0 rfl ?_
  refine ss_get (i := 105) dX8_at_13 flX8_55 (by omega) (sh_r105 _ _) rfl ?_
  refine ss_iload_n dX8_at_16 1 rfl ?_
  refine ss_iald (i := 119) dX8_at_17 (by omega) (sh_r119) (by omega) (by decide) ?_
  rw [hh]
  refine ss_if_ge 25 dX8_at_18 (by decide) (fun c18 => ?_) (fun c18 => by first | exact kd_tf (nI_pos' (by omega)) c18 | exact kd_ft (nI_pos' (by omega)) c18 | exact absurd (nI_pos' (by omega)) c18 | exact absurd c18 (nI_pos' (by omega)))
  refine ss_iload_n dX8_at_25 2 rfl ?_
  refine ss_i2l dX8_at_26 ?_
  refine ss_lconst (v := 0) dX8_at_27 (by decide) ?_
  refine ss_aload_n dX8_at_28 0 rfl ?_
  refine ss_get (i := 105) dX8_at_29 flX8_55 (by omega) (sh_r105 _ _) rfl ?_
  refine ss_iload_n dX8_at_32 1 rfl ?_
  refine ss_iald (i := 119) dX8_at_33 (by omega) (sh_r119) (by omega) (by decide) ?_
  rw [hh]
  refine ss_iconst (v := nI 1) dX8_at_34 (by decide) ?_
  refine ss_isub dX8_at_35 ?_
  refine ss_i2l dX8_at_36 ?_
  refine ss_callS (As := [_, _, _]) dX8_at_37 vlX8_89 clX8_within rfl rfl (Nat.le_of_ble_eq_true rfl) (Nat.le_of_ble_eq_true rfl) (m_within) ?_
  refine sy_if_ne 47 dX8_at_40 (by decide) (fun c40 => ?_) (fun c40 => by first | exact kd_tf (by rw [wi_ix (nI_s1l (by omega))]; exact ix_of hi (by omega)) c40 | exact kd_ft (by rw [wi_ix (nI_s1l (by omega))]; exact ix_of hi (by omega)) c40 | exact absurd (by rw [wi_ix (nI_s1l (by omega))]; exact ix_of hi (by omega)) c40 | exact absurd c40 (by rw [wi_ix (nI_s1l (by omega))]; exact ix_of hi (by omega)))
  refine ss_iconst (v := nI 0) dX8_at_47 (by decide) ?_
  refine ss_put (i := 105) dX8_at_48 fwX8_105 (by omega) (sh_r105 _ _) rfl rfl (Nat.le_of_ble_eq_true rfl) (sh_r105 _ _) ?_
  refine ss_aload_n dX8_at_51 0 rfl ?_
  refine ss_get (i := 105) dX8_at_52 flX8_105 (by omega) (sh_r105 _ _) rfl ?_
  rw [up2_at, if_pos ⟨rfl, rfl⟩]
  refine ss_if_le 62 dX8_at_55 (by decide) (fun c55 => ?_) (fun c55 => by first | exact kd_tf (by decide) c55 | exact kd_ft (by decide) c55 | exact absurd (by decide) c55 | exact absurd c55 (by decide))
  refine ss_aload_n dX8_at_62 0 rfl ?_
  refine ss_get (i := 105) dX8_at_63 flX8_61 (by omega) (sh_r105 _ _) rfl ?_
  refine ss_sipush (v := nI 1100) dX8_at_66 (by decide) ?_
  refine ss_iload_n dX8_at_69 1 rfl ?_
  refine sz_imul dX8_at_70 ?_
  refine ss_iload_n dX8_at_71 2 rfl ?_
  refine sz_iadd dX8_at_72 ?_
  refine ss_lald (i := 121) dX8_at_73 (by omega) (sh_r121) (by omega) (by decide) ?_
  exact ss_lret dX8_at_74 rfl (hQ)
set_option maxHeartbeats 1000000 in
set_option maxRecDepth 100000 in
theorem r_worth_o {c : cx} {d : Nat} {X : nX} {Y : nY} {k : Int32} (hk : ix k 5 = false) : sc c mX8_worth (d + 2) [.ref (c_ad c 105), .int k] (X) (Y) (some (.int (-1002))) (X) (Y) := by
  intro Q hQ
  show ss c mX8_worth (d + 2) Q 0 [(0, .ref (c_ad c 105)), (1, .int k)] [] (X) (Y)
  refine ss_iload_n dX8_worth_0 1 rfl ?_
  refine ss_i2l dX8_worth_1 ?_
  refine ss_lconst (v := 0) dX8_worth_2 (by decide) ?_
  refine ss_ldc2 dX8_worth_3 kcX8_152 ?_
  refine ss_callS (As := [_, _, _]) dX8_worth_6 vlX8_89 clX8_within rfl rfl (Nat.le_of_ble_eq_true rfl) (Nat.le_of_ble_eq_true rfl) (m_within) ?_
  refine sy_if_ne 18 dX8_worth_9 (by decide) (fun c9 => by first | exact kd_tf (by rw [wi_ix (n := 5) rfl]; exact hk) c9 | exact kd_ft (by rw [wi_ix (n := 5) rfl]; exact hk) c9 | exact absurd (by rw [wi_ix (n := 5) rfl]; exact hk) c9 | exact absurd c9 (by rw [wi_ix (n := 5) rfl]; exact hk)) (fun c9 => ?_)
  refine ss_sipush (v := -1002) dX8_worth_12 (by decide) ?_
  refine ss_goto 38 dX8_worth_15 (by decide) ?_
  exact ss_iret dX8_worth_38 rfl rfl (hQ)
set_option maxHeartbeats 1000000 in
set_option maxRecDepth 100000 in
theorem r_worth_f {c : cx} {d : Nat} {X : nX} {Y : nY} {k : Int32} (hk : ix k 5 = true) (h7 : X 105 1 = nI 12) : sc c mX8_worth (d + 2) [.ref (c_ad c 105), .int k] (X) (Y) (some (.int (-1004))) (X) (Y) := by
  intro Q hQ
  show ss c mX8_worth (d + 2) Q 0 [(0, .ref (c_ad c 105)), (1, .int k)] [] (X) (Y)
  refine ss_iload_n dX8_worth_0 1 rfl ?_
  refine ss_i2l dX8_worth_1 ?_
  refine ss_lconst (v := 0) dX8_worth_2 (by decide) ?_
  refine ss_ldc2 dX8_worth_3 kcX8_152 ?_
  refine ss_callS (As := [_, _, _]) dX8_worth_6 vlX8_89 clX8_within rfl rfl (Nat.le_of_ble_eq_true rfl) (Nat.le_of_ble_eq_true rfl) (m_within) ?_
  refine sy_if_ne 18 dX8_worth_9 (by decide) (fun c9 => ?_) (fun c9 => by first | exact kd_tf (by rw [wi_ix (n := 5) rfl]; exact hk) c9 | exact kd_ft (by rw [wi_ix (n := 5) rfl]; exact hk) c9 | exact absurd (by rw [wi_ix (n := 5) rfl]; exact hk) c9 | exact absurd c9 (by rw [wi_ix (n := 5) rfl]; exact hk))
  refine ss_aload_n dX8_worth_18 0 rfl ?_
  refine ss_get (i := 105) dX8_worth_19 flX8_84 (by omega) (sh_r105 _ _) rfl ?_
  rw [h7]
  refine ss_bipush (v := nI 12) dX8_worth_22 (by decide) ?_
  refine sz_icmp_ne 33 dX8_worth_24 (by decide) (by omega) (by omega) (fun c24 => by omega) (fun c24 => ?_)
  refine ss_sipush (v := -1004) dX8_worth_27 (by decide) ?_
  refine ss_goto 38 dX8_worth_30 (by decide) ?_
  exact ss_iret dX8_worth_38 rfl rfl (hQ)
set_option maxHeartbeats 1000000 in
set_option maxRecDepth 100000 in
theorem r_worth_k {c : cx} {d : Nat} {X : nX} {Y : nY} {w : Nat} (hw : w < 12) (h7 : X 105 1 = nI w) {k : Int32} (hk : ix k 5 = true) : sc c mX8_worth (d + 2) [.ref (c_ad c 105), .int k] (X) (Y) (some (.int (nI w))) (x_fr X w k) (y_fr Y w) := by
  intro Q hQ
  show ss c mX8_worth (d + 2) Q 0 [(0, .ref (c_ad c 105)), (1, .int k)] [] (X) (Y)
  refine ss_iload_n dX8_worth_0 1 rfl ?_
  refine ss_i2l dX8_worth_1 ?_
  refine ss_lconst (v := 0) dX8_worth_2 (by decide) ?_
  refine ss_ldc2 dX8_worth_3 kcX8_152 ?_
  refine ss_callS (As := [_, _, _]) dX8_worth_6 vlX8_89 clX8_within rfl rfl (Nat.le_of_ble_eq_true rfl) (Nat.le_of_ble_eq_true rfl) (m_within) ?_
  refine sy_if_ne 18 dX8_worth_9 (by decide) (fun c9 => ?_) (fun c9 => by first | exact kd_tf (by rw [wi_ix (n := 5) rfl]; exact hk) c9 | exact kd_ft (by rw [wi_ix (n := 5) rfl]; exact hk) c9 | exact absurd (by rw [wi_ix (n := 5) rfl]; exact hk) c9 | exact absurd c9 (by rw [wi_ix (n := 5) rfl]; exact hk))
  refine ss_aload_n dX8_worth_18 0 rfl ?_
  refine ss_get (i := 105) dX8_worth_19 flX8_84 (by omega) (sh_r105 _ _) rfl ?_
  rw [h7]
  refine ss_bipush (v := nI 12) dX8_worth_22 (by decide) ?_
  refine sz_icmp_ne 33 dX8_worth_24 (by decide) (by omega) (by omega) (fun c24 => ?_) (fun c24 => by omega)
  refine ss_aload_n dX8_worth_33 0 rfl ?_
  refine ss_iload_n dX8_worth_34 1 rfl ?_
  refine ss_callV (As := [_]) (i := 105) dX8_worth_35 vlX8_154 clX8_fresh rfl rfl (by omega) (sh_r105 _ _) rfl (Nat.le_of_ble_eq_true rfl) (Nat.le_of_ble_eq_true rfl) (m_fresh hw h7) ?_
  exact ss_iret dX8_worth_38 rfl rfl (hQ)
set_option maxHeartbeats 1000000 in
set_option maxRecDepth 100000 in
theorem r_sum_f {c : cx} {d : Nat} {X : nX} {Y : nY} (h7 : X 105 1 = nI 12) : sc c mX8_sum (d + 2) [.ref (c_ad c 105)] (X) (Y) (some (.int (-1004))) (X) (Y) := by
  intro Q hQ
  show ss c mX8_sum (d + 2) Q 0 [(0, .ref (c_ad c 105))] [] (X) (Y)
  refine ss_aload_n dX8_sum_0 0 rfl ?_
  refine ss_get (i := 105) dX8_sum_1 flX8_84 (by omega) (sh_r105 _ _) rfl ?_
  rw [h7]
  refine ss_bipush (v := nI 12) dX8_sum_4 (by decide) ?_
  refine sz_icmp_ne 15 dX8_sum_6 (by decide) (by omega) (by omega) (fun c6 => by omega) (fun c6 => ?_)
  refine ss_sipush (v := -1004) dX8_sum_9 (by decide) ?_
  refine ss_goto 20 dX8_sum_12 (by decide) ?_
  exact ss_iret dX8_sum_20 rfl rfl (hQ)
set_option maxHeartbeats 1000000 in
set_option maxRecDepth 100000 in
theorem r_sum_k {c : cx} {d : Nat} {X : nX} {Y : nY} {w : Nat} (hw : w < 12) (h7 : X 105 1 = nI w) : sc c mX8_sum (d + 2) [.ref (c_ad c 105)] (X) (Y) (some (.int (nI w))) (x_fr X w (nI 5)) (y_fr Y w) := by
  intro Q hQ
  show ss c mX8_sum (d + 2) Q 0 [(0, .ref (c_ad c 105))] [] (X) (Y)
  refine ss_aload_n dX8_sum_0 0 rfl ?_
  refine ss_get (i := 105) dX8_sum_1 flX8_84 (by omega) (sh_r105 _ _) rfl ?_
  rw [h7]
  refine ss_bipush (v := nI 12) dX8_sum_4 (by decide) ?_
  refine sz_icmp_ne 15 dX8_sum_6 (by decide) (by omega) (by omega) (fun c6 => ?_) (fun c6 => by omega)
  refine ss_aload_n dX8_sum_15 0 rfl ?_
  refine ss_iconst (v := nI 5) dX8_sum_16 (by decide) ?_
  refine ss_callV (As := [_]) (i := 105) dX8_sum_17 vlX8_154 clX8_fresh rfl rfl (by omega) (sh_r105 _ _) rfl (Nat.le_of_ble_eq_true rfl) (Nat.le_of_ble_eq_true rfl) (m_fresh hw h7) ?_
  exact ss_iret dX8_sum_20 rfl rfl (hQ)
set_option maxHeartbeats 1000000 in
set_option maxRecDepth 100000 in
theorem r_made_u {c : cx} {d : Nat} {X : nX} {Y : nY} {n : Nat} (hn : n ≤ 10) (h6 : X 105 0 = nI n) {m : Nat} (hm : m ≤ 12) (h7 : X 105 1 = nI m) {k w s : Int32} (hu : ix w m = false ∨ ix s (2 ^ n) = false) : sc c mX8_made (d + 6) [.ref (c_ad c 105), .int k, .int w, .int s] (X) (Y) (some (.int (-1001))) (X) (Y) := by
  intro Q hQ
  show ss c mX8_made (d + 6) Q 0 [(0, .ref (c_ad c 105)), (1, .int k), (2, .int w), (3, .int s)] [] (X) (Y)
  refine ss_aload_n dX8_made_0 0 rfl ?_
  refine ss_iload_n dX8_made_1 2 rfl ?_
  refine ss_callV (As := [_]) (i := 105) dX8_made_2 vlX8_157 clX8_isWorth rfl rfl (by omega) (sh_r105 _ _) rfl (Nat.le_of_ble_eq_true rfl) (Nat.le_of_ble_eq_true rfl) (m_isWorth hm h7) ?_
  refine sy_if_eq 16 dX8_made_5 (by decide) (fun c5 => ?_) (fun c5 => ?_)
  · skip
    refine ss_sipush (v := -1001) dX8_made_16 (by decide) ?_
    exact ss_iret dX8_made_19 rfl rfl (hQ)
  · skip
    refine ss_aload_n dX8_made_8 0 rfl ?_
    refine ss_iload_n dX8_made_9 3 rfl ?_
    refine ss_callV (As := [_]) (i := 105) dX8_made_10 vlX8_160 clX8_isSet rfl rfl (by omega) (sh_r105 _ _) rfl (Nat.le_of_ble_eq_true rfl) (Nat.le_of_ble_eq_true rfl) (m_isSet hn h6) ?_
    refine sy_if_ne 20 dX8_made_13 (by decide) (fun c13 => by rcases hu with h8 | h8; exact kd_tf c5 h8; exact kd_tf c13 h8) (fun c13 => ?_)
    refine ss_sipush (v := -1001) dX8_made_16 (by decide) ?_
    exact ss_iret dX8_made_19 rfl rfl (hQ)
set_option maxHeartbeats 1000000 in
set_option maxRecDepth 100000 in
theorem r_made_f {c : cx} {d : Nat} {X : nX} {Y : nY} {n : Nat} (hn : n ≤ 10) (h6 : X 105 0 = nI n) (h7 : X 105 1 = nI 12) {k : Int32} {j : Nat} (hjm : j < 12) {s : Nat} (hs : s < 2 ^ n) : sc c mX8_made (d + 6) [.ref (c_ad c 105), .int k, .int (nI j), .int (nI s)] (X) (Y) (some (.int (-1004))) (X) (Y) := by
  intro Q hQ
  show ss c mX8_made (d + 6) Q 0 [(0, .ref (c_ad c 105)), (1, .int k), (2, .int (nI j)), (3, .int (nI s))] [] (X) (Y)
  have hwj : ix (nI j) 12 = true := ix_of hjm (by omega)
  have hs9 : ix (nI s) (2 ^ n) = true := ix_of hs (by have := p2_le hn; omega)
  have hs8 := ix_2p hs hn
  refine ss_aload_n dX8_made_0 0 rfl ?_
  refine ss_iload_n dX8_made_1 2 rfl ?_
  refine ss_callV (As := [_]) (i := 105) dX8_made_2 vlX8_157 clX8_isWorth rfl rfl (by omega) (sh_r105 _ _) rfl (Nat.le_of_ble_eq_true rfl) (Nat.le_of_ble_eq_true rfl) (m_isWorth (m := 12) (by omega) h7) ?_
  refine sy_if_eq 16 dX8_made_5 (by decide) (fun c5 => by first | exact kd_tf (hwj) c5 | exact kd_ft (hwj) c5 | exact absurd (hwj) c5 | exact absurd c5 (hwj)) (fun c5 => ?_)
  refine ss_aload_n dX8_made_8 0 rfl ?_
  refine ss_iload_n dX8_made_9 3 rfl ?_
  refine ss_callV (As := [_]) (i := 105) dX8_made_10 vlX8_160 clX8_isSet rfl rfl (by omega) (sh_r105 _ _) rfl (Nat.le_of_ble_eq_true rfl) (Nat.le_of_ble_eq_true rfl) (m_isSet hn h6) ?_
  refine sy_if_ne 20 dX8_made_13 (by decide) (fun c13 => ?_) (fun c13 => by first | exact kd_tf (hs9) c13 | exact kd_ft (hs9) c13 | exact absurd (hs9) c13 | exact absurd c13 (hs9))
  refine ss_aload_n dX8_made_20 0 rfl ?_
  refine ss_get (i := 105) dX8_made_21 flX8_84 (by omega) (sh_r105 _ _) rfl ?_
  rw [h7]
  refine ss_bipush (v := nI 12) dX8_made_24 (by decide) ?_
  refine sz_icmp_ne 33 dX8_made_26 (by decide) (by omega) (by omega) (fun c26 => by omega) (fun c26 => ?_)
  refine ss_sipush (v := -1004) dX8_made_29 (by decide) ?_
  exact ss_iret dX8_made_32 rfl rfl (hQ)
def x_md (X : nX) (w : Nat) (k : Int32) (q s : Nat) : nX := up2 (up2 (x_fr X w k) 115 w (nI q)) 116 w (nI s)
set_option maxHeartbeats 1000000 in
set_option maxRecDepth 100000 in
theorem r_made_l {c : cx} {d : Nat} {X : nX} {Y : nY} {n : Nat} (hn : n ≤ 10) (h6 : X 105 0 = nI n) {w q : Nat} (hw : w < 12) (h7 : X 105 1 = nI w) (hqw : q < w) {k : Int32} {s : Nat} (hs : s < 2 ^ n) {Y1 : nY} (hW : sc c mX8_work (d + 5) [.ref (c_ad c 105), .int (nI w)] (x_md X w k q s) (y_fr Y w) (some (.int (bI false))) (x_md X w k q s) Y1) : sc c mX8_made (d + 6) [.ref (c_ad c 105), .int k, .int (nI q), .int (nI s)] (X) (Y) (some (.int (-1005))) (up2 (x_md X w k q s) 105 1 (nI (w + 1 - 1))) (Y1) := by
  intro Q hQ
  show ss c mX8_made (d + 6) Q 0 [(0, .ref (c_ad c 105)), (1, .int k), (2, .int (nI q)), (3, .int (nI s))] [] (X) (Y)
  have hq9 : ix (nI q) w = true := ix_of hqw (by omega)
  have hs9 : ix (nI s) (2 ^ n) = true := ix_of hs (by have := p2_le hn; omega)
  have hs8 := ix_2p hs hn
  refine ss_aload_n dX8_made_0 0 rfl ?_
  refine ss_iload_n dX8_made_1 2 rfl ?_
  refine ss_callV (As := [_]) (i := 105) dX8_made_2 vlX8_157 clX8_isWorth rfl rfl (by omega) (sh_r105 _ _) rfl (Nat.le_of_ble_eq_true rfl) (Nat.le_of_ble_eq_true rfl) (m_isWorth (m := w) (by omega) h7) ?_
  refine sy_if_eq 16 dX8_made_5 (by decide) (fun c5 => by first | exact kd_tf (hq9) c5 | exact kd_ft (hq9) c5 | exact absurd (hq9) c5 | exact absurd c5 (hq9)) (fun c5 => ?_)
  refine ss_aload_n dX8_made_8 0 rfl ?_
  refine ss_iload_n dX8_made_9 3 rfl ?_
  refine ss_callV (As := [_]) (i := 105) dX8_made_10 vlX8_160 clX8_isSet rfl rfl (by omega) (sh_r105 _ _) rfl (Nat.le_of_ble_eq_true rfl) (Nat.le_of_ble_eq_true rfl) (m_isSet hn h6) ?_
  refine sy_if_ne 20 dX8_made_13 (by decide) (fun c13 => ?_) (fun c13 => by first | exact kd_tf (hs9) c13 | exact kd_ft (hs9) c13 | exact absurd (hs9) c13 | exact absurd c13 (hs9))
  refine ss_aload_n dX8_made_20 0 rfl ?_
  refine ss_get (i := 105) dX8_made_21 flX8_84 (by omega) (sh_r105 _ _) rfl ?_
  rw [h7]
  refine ss_bipush (v := nI 12) dX8_made_24 (by decide) ?_
  refine sz_icmp_ne 33 dX8_made_26 (by decide) (by omega) (by omega) (fun c26 => ?_) (fun c26 => by omega)
  refine ss_aload_n dX8_made_33 0 rfl ?_
  refine ss_iload_n dX8_made_34 1 rfl ?_
  refine ss_callV (As := [_]) (i := 105) dX8_made_35 vlX8_154 clX8_fresh rfl rfl (by omega) (sh_r105 _ _) rfl (Nat.le_of_ble_eq_true rfl) (Nat.le_of_ble_eq_true rfl) (m_fresh hw h7) ?_
  refine ss_istore (lv' := [(4, _), (0, _), (1, _), (2, _), (3, _)]) dX8_made_38 (by decide) rfl ?_
  refine ss_aload_n dX8_made_40 1 rfl ?_
  refine ss_get (i := 105) dX8_made_41 flX8_39 (by omega) (sh_r105 _ _) rfl ?_
  refine ss_iload dX8_made_44 0 rfl ?_
  refine ss_iload_n dX8_made_46 3 rfl ?_
  refine ss_iast (i := 115) dX8_made_47 (by omega) (sh_r115) (by omega) (by decide) ?_
  refine ss_aload_n dX8_made_48 1 rfl ?_
  refine ss_get (i := 105) dX8_made_49 flX8_42 (by omega) (sh_r105 _ _) rfl ?_
  refine ss_iload dX8_made_52 0 rfl ?_
  refine ss_iload_n dX8_made_54 4 rfl ?_
  refine ss_iast (i := 116) dX8_made_55 (by omega) (sh_r116) (by omega) (by decide) ?_
  refine ss_aload_n dX8_made_56 1 rfl ?_
  refine ss_iload dX8_made_57 0 rfl ?_
  refine ss_callV (As := [_]) (i := 105) dX8_made_59 vlX8_163 clX8_work rfl rfl (by omega) (sh_r105 _ _) rfl (Nat.le_of_ble_eq_true rfl) (Nat.le_of_ble_eq_true rfl) (hW) ?_
  refine sy_if_ne 79 dX8_made_62 (by decide) (fun c62 => by first | exact kd_tf (rfl) c62 | exact kd_ft (rfl) c62 | exact absurd (rfl) c62 | exact absurd c62 (rfl)) (fun c62 => ?_)
  refine ss_aload_n dX8_made_65 1 rfl ?_
  refine ss_dup dX8_made_66 rfl ?_
  refine ss_get (i := 105) dX8_made_67 flX8_84 (by omega) (sh_r105 _ _) rfl ?_
  rw [show x_md X w k q s 105 1 = nI (w + 1) from by simp [x_md, x_fr, up2_at]]
  refine ss_iconst (v := nI 1) dX8_made_70 (by decide) ?_
  refine sz_isub dX8_made_71 (by omega) ?_
  refine ss_put (i := 105) dX8_made_72 fwX8_84 (by omega) (sh_r105 _ _) rfl rfl (Nat.le_of_ble_eq_true rfl) (sh_r105 _ _) ?_
  refine ss_sipush (v := -1005) dX8_made_75 (by decide) ?_
  exact ss_iret dX8_made_78 rfl rfl (hQ)
set_option maxHeartbeats 1000000 in
set_option maxRecDepth 100000 in
theorem r_made_k {c : cx} {d : Nat} {X : nX} {Y : nY} {n : Nat} (hn : n ≤ 10) (h6 : X 105 0 = nI n) {w q : Nat} (hw : w < 12) (h7 : X 105 1 = nI w) (hqw : q < w) {k : Int32} {s : Nat} (hs : s < 2 ^ n) {Y1 : nY} (hW : sc c mX8_work (d + 5) [.ref (c_ad c 105), .int (nI w)] (x_md X w k q s) (y_fr Y w) (some (.int (bI true))) (x_md X w k q s) Y1) : sc c mX8_made (d + 6) [.ref (c_ad c 105), .int k, .int (nI q), .int (nI s)] (X) (Y) (some (.int (nI w))) (up2 (x_md X w k q s) 107 q (nI 1)) (Y1) := by
  intro Q hQ
  show ss c mX8_made (d + 6) Q 0 [(0, .ref (c_ad c 105)), (1, .int k), (2, .int (nI q)), (3, .int (nI s))] [] (X) (Y)
  have hq9 : ix (nI q) w = true := ix_of hqw (by omega)
  have hs9 : ix (nI s) (2 ^ n) = true := ix_of hs (by have := p2_le hn; omega)
  have hs8 := ix_2p hs hn
  refine ss_aload_n dX8_made_0 0 rfl ?_
  refine ss_iload_n dX8_made_1 2 rfl ?_
  refine ss_callV (As := [_]) (i := 105) dX8_made_2 vlX8_157 clX8_isWorth rfl rfl (by omega) (sh_r105 _ _) rfl (Nat.le_of_ble_eq_true rfl) (Nat.le_of_ble_eq_true rfl) (m_isWorth (m := w) (by omega) h7) ?_
  refine sy_if_eq 16 dX8_made_5 (by decide) (fun c5 => by first | exact kd_tf (hq9) c5 | exact kd_ft (hq9) c5 | exact absurd (hq9) c5 | exact absurd c5 (hq9)) (fun c5 => ?_)
  refine ss_aload_n dX8_made_8 0 rfl ?_
  refine ss_iload_n dX8_made_9 3 rfl ?_
  refine ss_callV (As := [_]) (i := 105) dX8_made_10 vlX8_160 clX8_isSet rfl rfl (by omega) (sh_r105 _ _) rfl (Nat.le_of_ble_eq_true rfl) (Nat.le_of_ble_eq_true rfl) (m_isSet hn h6) ?_
  refine sy_if_ne 20 dX8_made_13 (by decide) (fun c13 => ?_) (fun c13 => by first | exact kd_tf (hs9) c13 | exact kd_ft (hs9) c13 | exact absurd (hs9) c13 | exact absurd c13 (hs9))
  refine ss_aload_n dX8_made_20 0 rfl ?_
  refine ss_get (i := 105) dX8_made_21 flX8_84 (by omega) (sh_r105 _ _) rfl ?_
  rw [h7]
  refine ss_bipush (v := nI 12) dX8_made_24 (by decide) ?_
  refine sz_icmp_ne 33 dX8_made_26 (by decide) (by omega) (by omega) (fun c26 => ?_) (fun c26 => by omega)
  refine ss_aload_n dX8_made_33 0 rfl ?_
  refine ss_iload_n dX8_made_34 1 rfl ?_
  refine ss_callV (As := [_]) (i := 105) dX8_made_35 vlX8_154 clX8_fresh rfl rfl (by omega) (sh_r105 _ _) rfl (Nat.le_of_ble_eq_true rfl) (Nat.le_of_ble_eq_true rfl) (m_fresh hw h7) ?_
  refine ss_istore (lv' := [(4, _), (0, _), (1, _), (2, _), (3, _)]) dX8_made_38 (by decide) rfl ?_
  refine ss_aload_n dX8_made_40 1 rfl ?_
  refine ss_get (i := 105) dX8_made_41 flX8_39 (by omega) (sh_r105 _ _) rfl ?_
  refine ss_iload dX8_made_44 0 rfl ?_
  refine ss_iload_n dX8_made_46 3 rfl ?_
  refine ss_iast (i := 115) dX8_made_47 (by omega) (sh_r115) (by omega) (by decide) ?_
  refine ss_aload_n dX8_made_48 1 rfl ?_
  refine ss_get (i := 105) dX8_made_49 flX8_42 (by omega) (sh_r105 _ _) rfl ?_
  refine ss_iload dX8_made_52 0 rfl ?_
  refine ss_iload_n dX8_made_54 4 rfl ?_
  refine ss_iast (i := 116) dX8_made_55 (by omega) (sh_r116) (by omega) (by decide) ?_
  refine ss_aload_n dX8_made_56 1 rfl ?_
  refine ss_iload dX8_made_57 0 rfl ?_
  refine ss_callV (As := [_]) (i := 105) dX8_made_59 vlX8_163 clX8_work rfl rfl (by omega) (sh_r105 _ _) rfl (Nat.le_of_ble_eq_true rfl) (Nat.le_of_ble_eq_true rfl) (hW) ?_
  refine sy_if_ne 79 dX8_made_62 (by decide) (fun c62 => ?_) (fun c62 => by first | exact kd_tf (rfl) c62 | exact kd_ft (rfl) c62 | exact absurd (rfl) c62 | exact absurd c62 (rfl))
  refine ss_aload_n dX8_made_79 1 rfl ?_
  refine ss_get (i := 105) dX8_made_80 flX8_13 (by omega) (sh_r105 _ _) rfl ?_
  refine ss_iload_n dX8_made_83 3 rfl ?_
  refine ss_iconst (v := nI 1) dX8_made_84 (by decide) ?_
  refine ss_zast (i := 107) dX8_made_85 (by omega) (sh_r107) (by omega) (by decide) rfl ?_
  refine ss_iload dX8_made_86 0 rfl ?_
  exact ss_iret dX8_made_88 rfl rfl (hQ)
set_option maxHeartbeats 1000000 in
set_option maxRecDepth 100000 in
theorem r_part {c : cx} {d : Nat} {X : nX} {Y : nY} {w s r : Int32} {X1 : nX} {Y1 : nY} (hM : sc c mX8_made d [.ref (c_ad c 105), .int (nI 6), .int w, .int s] X Y (some (.int r)) X1 Y1) : sc c mX8_part (d + 1) [.ref (c_ad c 105), .int w, .int s] (X) (Y) (some (.int r)) (X1) (Y1) := by
  intro Q hQ
  show ss c mX8_part (d + 1) Q 0 [(0, .ref (c_ad c 105)), (1, .int w), (2, .int s)] [] (X) (Y)
  refine ss_aload_n dX8_part_0 0 rfl ?_
  refine ss_bipush (v := nI 6) dX8_part_1 (by decide) ?_
  refine ss_iload_n dX8_part_3 1 rfl ?_
  refine ss_iload_n dX8_part_4 2 rfl ?_
  refine ss_callV (As := [_, _, _]) (i := 105) dX8_part_5 vlX8_166 clX8_made rfl rfl (by omega) (sh_r105 _ _) rfl (Nat.le_of_ble_eq_true rfl) (Nat.le_of_ble_eq_true rfl) (hM) ?_
  exact ss_iret dX8_part_8 rfl rfl (hQ)
set_option maxHeartbeats 1000000 in
set_option maxRecDepth 100000 in
theorem r_beyond {c : cx} {d : Nat} {X : nX} {Y : nY} {w s r : Int32} {X1 : nX} {Y1 : nY} (hM : sc c mX8_made d [.ref (c_ad c 105), .int (nI 7), .int w, .int s] X Y (some (.int r)) X1 Y1) : sc c mX8_beyond (d + 1) [.ref (c_ad c 105), .int w, .int s] (X) (Y) (some (.int r)) (X1) (Y1) := by
  intro Q hQ
  show ss c mX8_beyond (d + 1) Q 0 [(0, .ref (c_ad c 105)), (1, .int w), (2, .int s)] [] (X) (Y)
  refine ss_aload_n dX8_beyond_0 0 rfl ?_
  refine ss_bipush (v := nI 7) dX8_beyond_1 (by decide) ?_
  refine ss_iload_n dX8_beyond_3 1 rfl ?_
  refine ss_iload_n dX8_beyond_4 2 rfl ?_
  refine ss_callV (As := [_, _, _]) (i := 105) dX8_beyond_5 vlX8_166 clX8_made rfl rfl (by omega) (sh_r105 _ _) rfl (Nat.le_of_ble_eq_true rfl) (Nat.le_of_ble_eq_true rfl) (hM) ?_
  exact ss_iret dX8_beyond_8 rfl rfl (hQ)
set_option maxHeartbeats 1000000 in
set_option maxRecDepth 100000 in
theorem r_kind_u {c : cx} {d : Nat} {X : nX} {Y : nY} {m : Nat} (hm : m ≤ 12) (h7 : X 105 1 = nI m) {w : Int32} (hw : ix w m = false) : sc c mX8_kind (d + 2) [.ref (c_ad c 105), .int w] (X) (Y) (some (.int (-1001))) (X) (Y) := by
  intro Q hQ
  show ss c mX8_kind (d + 2) Q 0 [(0, .ref (c_ad c 105)), (1, .int w)] [] (X) (Y)
  refine ss_aload_n dX8_kind_0 0 rfl ?_
  refine ss_iload_n dX8_kind_1 1 rfl ?_
  refine ss_callV (As := [_]) (i := 105) dX8_kind_2 vlX8_157 clX8_isWorth rfl rfl (by omega) (sh_r105 _ _) rfl (Nat.le_of_ble_eq_true rfl) (Nat.le_of_ble_eq_true rfl) (m_isWorth hm h7) ?_
  refine sy_if_eq 17 dX8_kind_5 (by decide) (fun c5 => ?_) (fun c5 => by first | exact kd_tf (hw) c5 | exact kd_ft (hw) c5 | exact absurd (hw) c5 | exact absurd c5 (hw))
  refine ss_sipush (v := -1001) dX8_kind_17 (by decide) ?_
  exact ss_iret dX8_kind_20 rfl rfl (hQ)
set_option maxHeartbeats 1000000 in
set_option maxRecDepth 100000 in
theorem r_kind_k {c : cx} {d : Nat} {X : nX} {Y : nY} {m : Nat} (hm : m ≤ 12) (h7 : X 105 1 = nI m) {j : Nat} (hjm : j < m) : sc c mX8_kind (d + 2) [.ref (c_ad c 105), .int (nI j)] (X) (Y) (some (.int (X 106 j))) (X) (Y) := by
  intro Q hQ
  show ss c mX8_kind (d + 2) Q 0 [(0, .ref (c_ad c 105)), (1, .int (nI j))] [] (X) (Y)
  have hj : j < 12 := by omega
  have hwj : ix (nI j) m = true := ix_of hjm (by omega)
  refine ss_aload_n dX8_kind_0 0 rfl ?_
  refine ss_iload_n dX8_kind_1 1 rfl ?_
  refine ss_callV (As := [_]) (i := 105) dX8_kind_2 vlX8_157 clX8_isWorth rfl rfl (by omega) (sh_r105 _ _) rfl (Nat.le_of_ble_eq_true rfl) (Nat.le_of_ble_eq_true rfl) (m_isWorth hm h7) ?_
  refine sy_if_eq 17 dX8_kind_5 (by decide) (fun c5 => by first | exact kd_tf (hwj) c5 | exact kd_ft (hwj) c5 | exact absurd (hwj) c5 | exact absurd c5 (hwj)) (fun c5 => ?_)
  refine ss_aload_n dX8_kind_8 0 rfl ?_
  refine ss_get (i := 105) dX8_kind_9 flX8_7 (by omega) (sh_r105 _ _) rfl ?_
  refine ss_iload_n dX8_kind_12 1 rfl ?_
  refine ss_iald (i := 106) dX8_kind_13 (by omega) (sh_r106) (by omega) (by decide) ?_
  refine ss_goto 20 dX8_kind_14 (by decide) ?_
  exact ss_iret dX8_kind_20 rfl rfl (hQ)
set_option maxHeartbeats 1000000 in
set_option maxRecDepth 100000 in
theorem r_count_o {c : cx} {d : Nat} {X : nX} {Y : nY} {i w : Int32} (hi : ix i 7 = false) : sc c mX8_count (d + 2) [.ref (c_ad c 105), .int i, .int w] (X) (Y) (some (.int (-1002))) (X) (Y) := by
  intro Q hQ
  show ss c mX8_count (d + 2) Q 0 [(0, .ref (c_ad c 105)), (1, .int i), (2, .int w)] [] (X) (Y)
  refine ss_iload_n dX8_count_0 1 rfl ?_
  refine ss_i2l dX8_count_1 ?_
  refine ss_lconst (v := 0) dX8_count_2 (by decide) ?_
  refine ss_ldc2 dX8_count_3 kcX8_170 ?_
  refine ss_callS (As := [_, _, _]) dX8_count_6 vlX8_89 clX8_within rfl rfl (Nat.le_of_ble_eq_true rfl) (Nat.le_of_ble_eq_true rfl) (m_within) ?_
  refine sy_if_ne 16 dX8_count_9 (by decide) (fun c9 => by first | exact kd_tf (by rw [wi_ix (n := 7) rfl]; exact hi) c9 | exact kd_ft (by rw [wi_ix (n := 7) rfl]; exact hi) c9 | exact absurd (by rw [wi_ix (n := 7) rfl]; exact hi) c9 | exact absurd c9 (by rw [wi_ix (n := 7) rfl]; exact hi)) (fun c9 => ?_)
  refine ss_sipush (v := -1002) dX8_count_12 (by decide) ?_
  exact ss_iret dX8_count_15 rfl rfl (hQ)
set_option maxHeartbeats 1000000 in
set_option maxRecDepth 100000 in
theorem r_count_0 {c : cx} {d : Nat} {X : nX} {Y : nY} {n : Nat} (hn : n ≤ 10) (h6 : X 105 0 = nI n) {w : Int32} : sc c mX8_count (d + 2) [.ref (c_ad c 105), .int (nI 0), .int w] (X) (Y) (some (.int (nI n))) (X) (Y) := by
  intro Q hQ
  show ss c mX8_count (d + 2) Q 0 [(0, .ref (c_ad c 105)), (1, .int (nI 0)), (2, .int w)] [] (X) (Y)
  refine ss_iload_n dX8_count_0 1 rfl ?_
  refine ss_i2l dX8_count_1 ?_
  refine ss_lconst (v := 0) dX8_count_2 (by decide) ?_
  refine ss_ldc2 dX8_count_3 kcX8_170 ?_
  refine ss_callS (As := [_, _, _]) dX8_count_6 vlX8_89 clX8_within rfl rfl (Nat.le_of_ble_eq_true rfl) (Nat.le_of_ble_eq_true rfl) (m_within) ?_
  refine sy_if_ne 16 dX8_count_9 (by decide) (fun c9 => ?_) (fun c9 => by first | exact kd_tf (by rw [wi_ix (n := 7) rfl]; exact ix_of (by omega) (by decide)) c9 | exact kd_ft (by rw [wi_ix (n := 7) rfl]; exact ix_of (by omega) (by decide)) c9 | exact absurd (by rw [wi_ix (n := 7) rfl]; exact ix_of (by omega) (by decide)) c9 | exact absurd c9 (by rw [wi_ix (n := 7) rfl]; exact ix_of (by omega) (by decide)))
  refine ss_iload_n dX8_count_16 1 rfl ?_
  refine ss_iconst (v := nI 2) dX8_count_17 (by decide) ?_
  refine sz_icmp_ge 37 dX8_count_18 (by decide) (by omega) (by omega) (fun c18 => by omega) (fun c18 => ?_)
  refine ss_iload_n dX8_count_21 1 rfl ?_
  refine sz_if_ne 32 dX8_count_22 (by decide) (by omega) (fun c22 => by omega) (fun c22 => ?_)
  refine ss_aload_n dX8_count_25 0 rfl ?_
  refine ss_get (i := 105) dX8_count_26 flX8_80 (by omega) (sh_r105 _ _) rfl ?_
  rw [h6]
  refine ss_goto 36 dX8_count_29 (by decide) ?_
  exact ss_iret dX8_count_36 rfl rfl (hQ)
set_option maxHeartbeats 1000000 in
set_option maxRecDepth 100000 in
theorem r_count_1 {c : cx} {d : Nat} {X : nX} {Y : nY} {m : Nat} (hm : m ≤ 12) (h7 : X 105 1 = nI m) {w : Int32} : sc c mX8_count (d + 2) [.ref (c_ad c 105), .int (nI 1), .int w] (X) (Y) (some (.int (nI m))) (X) (Y) := by
  intro Q hQ
  show ss c mX8_count (d + 2) Q 0 [(0, .ref (c_ad c 105)), (1, .int (nI 1)), (2, .int w)] [] (X) (Y)
  refine ss_iload_n dX8_count_0 1 rfl ?_
  refine ss_i2l dX8_count_1 ?_
  refine ss_lconst (v := 0) dX8_count_2 (by decide) ?_
  refine ss_ldc2 dX8_count_3 kcX8_170 ?_
  refine ss_callS (As := [_, _, _]) dX8_count_6 vlX8_89 clX8_within rfl rfl (Nat.le_of_ble_eq_true rfl) (Nat.le_of_ble_eq_true rfl) (m_within) ?_
  refine sy_if_ne 16 dX8_count_9 (by decide) (fun c9 => ?_) (fun c9 => by first | exact kd_tf (by rw [wi_ix (n := 7) rfl]; exact ix_of (by omega) (by decide)) c9 | exact kd_ft (by rw [wi_ix (n := 7) rfl]; exact ix_of (by omega) (by decide)) c9 | exact absurd (by rw [wi_ix (n := 7) rfl]; exact ix_of (by omega) (by decide)) c9 | exact absurd c9 (by rw [wi_ix (n := 7) rfl]; exact ix_of (by omega) (by decide)))
  refine ss_iload_n dX8_count_16 1 rfl ?_
  refine ss_iconst (v := nI 2) dX8_count_17 (by decide) ?_
  refine sz_icmp_ge 37 dX8_count_18 (by decide) (by omega) (by omega) (fun c18 => by omega) (fun c18 => ?_)
  refine ss_iload_n dX8_count_21 1 rfl ?_
  refine sz_if_ne 32 dX8_count_22 (by decide) (by omega) (fun c22 => ?_) (fun c22 => by omega)
  refine ss_aload_n dX8_count_32 0 rfl ?_
  refine ss_get (i := 105) dX8_count_33 flX8_84 (by omega) (sh_r105 _ _) rfl ?_
  rw [h7]
  exact ss_iret dX8_count_36 rfl rfl (hQ)
set_option maxHeartbeats 1000000 in
set_option maxRecDepth 100000 in
theorem r_count_u {c : cx} {d : Nat} {X : nX} {Y : nY} {m : Nat} (hm : m ≤ 12) (h7 : X 105 1 = nI m) {w : Int32} {k : Nat} (hk : 2 ≤ k) (hk7 : k < 7) (hw : ix w m = false) : sc c mX8_count (d + 2) [.ref (c_ad c 105), .int (nI k), .int w] (X) (Y) (some (.int (-1001))) (X) (Y) := by
  intro Q hQ
  show ss c mX8_count (d + 2) Q 0 [(0, .ref (c_ad c 105)), (1, .int (nI k)), (2, .int w)] [] (X) (Y)
  refine ss_iload_n dX8_count_0 1 rfl ?_
  refine ss_i2l dX8_count_1 ?_
  refine ss_lconst (v := 0) dX8_count_2 (by decide) ?_
  refine ss_ldc2 dX8_count_3 kcX8_170 ?_
  refine ss_callS (As := [_, _, _]) dX8_count_6 vlX8_89 clX8_within rfl rfl (Nat.le_of_ble_eq_true rfl) (Nat.le_of_ble_eq_true rfl) (m_within) ?_
  refine sy_if_ne 16 dX8_count_9 (by decide) (fun c9 => ?_) (fun c9 => by first | exact kd_tf (by rw [wi_ix (n := 7) rfl]; exact ix_of (by omega) (by decide)) c9 | exact kd_ft (by rw [wi_ix (n := 7) rfl]; exact ix_of (by omega) (by decide)) c9 | exact absurd (by rw [wi_ix (n := 7) rfl]; exact ix_of (by omega) (by decide)) c9 | exact absurd c9 (by rw [wi_ix (n := 7) rfl]; exact ix_of (by omega) (by decide)))
  refine ss_iload_n dX8_count_16 1 rfl ?_
  refine ss_iconst (v := nI 2) dX8_count_17 (by decide) ?_
  refine sz_icmp_ge 37 dX8_count_18 (by decide) (by omega) (by omega) (fun c18 => ?_) (fun c18 => by omega)
  refine ss_aload_n dX8_count_37 0 rfl ?_
  refine ss_iload_n dX8_count_38 2 rfl ?_
  refine ss_callV (As := [_]) (i := 105) dX8_count_39 vlX8_157 clX8_isWorth rfl rfl (by omega) (sh_r105 _ _) rfl (Nat.le_of_ble_eq_true rfl) (Nat.le_of_ble_eq_true rfl) (m_isWorth hm h7) ?_
  refine sy_if_ne 49 dX8_count_42 (by decide) (fun c42 => by first | exact kd_tf (hw) c42 | exact kd_ft (hw) c42 | exact absurd (hw) c42 | exact absurd c42 (hw)) (fun c42 => ?_)
  refine ss_sipush (v := -1001) dX8_count_45 (by decide) ?_
  exact ss_iret dX8_count_48 rfl rfl (hQ)
set_option maxHeartbeats 1000000 in
set_option maxRecDepth 100000 in
theorem r_count_2 {c : cx} {d : Nat} {X : nX} {Y : nY} {m : Nat} (hm : m ≤ 12) (h7 : X 105 1 = nI m) {j : Nat} (hjm : j < m) : sc c mX8_count (d + 2) [.ref (c_ad c 105), .int (nI 2), .int (nI j)] (X) (Y) (some (.int (if X 106 j = nI 1 then X 109 j else 0))) (X) (Y) := by
  intro Q hQ
  show ss c mX8_count (d + 2) Q 0 [(0, .ref (c_ad c 105)), (1, .int (nI 2)), (2, .int (nI j))] [] (X) (Y)
  have hj : j < 12 := by omega
  have hwj : ix (nI j) m = true := ix_of hjm (by omega)
  refine ss_iload_n dX8_count_0 1 rfl ?_
  refine ss_i2l dX8_count_1 ?_
  refine ss_lconst (v := 0) dX8_count_2 (by decide) ?_
  refine ss_ldc2 dX8_count_3 kcX8_170 ?_
  refine ss_callS (As := [_, _, _]) dX8_count_6 vlX8_89 clX8_within rfl rfl (Nat.le_of_ble_eq_true rfl) (Nat.le_of_ble_eq_true rfl) (m_within) ?_
  refine sy_if_ne 16 dX8_count_9 (by decide) (fun c9 => ?_) (fun c9 => by first | exact kd_tf (by rw [wi_ix (n := 7) rfl]; exact ix_of (by omega) (by decide)) c9 | exact kd_ft (by rw [wi_ix (n := 7) rfl]; exact ix_of (by omega) (by decide)) c9 | exact absurd (by rw [wi_ix (n := 7) rfl]; exact ix_of (by omega) (by decide)) c9 | exact absurd c9 (by rw [wi_ix (n := 7) rfl]; exact ix_of (by omega) (by decide)))
  refine ss_iload_n dX8_count_16 1 rfl ?_
  refine ss_iconst (v := nI 2) dX8_count_17 (by decide) ?_
  refine sz_icmp_ge 37 dX8_count_18 (by decide) (by omega) (by omega) (fun c18 => ?_) (fun c18 => by omega)
  refine ss_aload_n dX8_count_37 0 rfl ?_
  refine ss_iload_n dX8_count_38 2 rfl ?_
  refine ss_callV (As := [_]) (i := 105) dX8_count_39 vlX8_157 clX8_isWorth rfl rfl (by omega) (sh_r105 _ _) rfl (Nat.le_of_ble_eq_true rfl) (Nat.le_of_ble_eq_true rfl) (m_isWorth hm h7) ?_
  refine sy_if_ne 49 dX8_count_42 (by decide) (fun c42 => ?_) (fun c42 => by first | exact kd_tf (hwj) c42 | exact kd_ft (hwj) c42 | exact absurd (hwj) c42 | exact absurd c42 (hwj))
  refine ss_iload_n dX8_count_49 1 rfl ?_
  refine ss_iconst (v := nI 2) dX8_count_50 (by decide) ?_
  refine sz_icmp_ne 58 dX8_count_51 (by decide) (by omega) (by omega) (fun c51 => by omega) (fun c51 => ?_)
  refine ss_iconst (v := nI 1) dX8_count_54 (by decide) ?_
  refine ss_goto 77 dX8_count_55 (by decide) ?_
  refine ss_istore_n (lv' := [(3, _), (0, _), (1, _), (2, _)]) dX8_count_77 (by decide) rfl ?_
  refine ss_iload_n dX8_count_78 2 rfl ?_
  refine ss_bipush (v := nI 6) dX8_count_79 (by decide) ?_
  refine sz_icmp_ne 101 dX8_count_81 (by decide) (by omega) (by omega) (fun c81 => ?_) (fun c81 => by omega)
  refine ss_aload_n dX8_count_101 1 rfl ?_
  refine ss_get (i := 105) dX8_count_102 flX8_7 (by omega) (sh_r105 _ _) rfl ?_
  refine ss_iload_n dX8_count_105 3 rfl ?_
  refine ss_iald (i := 106) dX8_count_106 (by omega) (sh_r106) (by omega) (by decide) ?_
  refine ss_iload_n dX8_count_107 0 rfl ?_
  refine ss_icmp_ne 120 dX8_count_108 (by decide) (fun c108 => ?_) (fun c108 => ?_)
  · skip
    refine ss_iconst (v := 0) dX8_count_120 (by decide) ?_
    exact ss_iret dX8_count_121 rfl rfl (cvi (by rw [if_neg c108]) hQ)
  · skip
    refine ss_aload_n dX8_count_111 1 rfl ?_
    refine ss_get (i := 105) dX8_count_112 flX8_21 (by omega) (sh_r105 _ _) rfl ?_
    refine ss_iload_n dX8_count_115 3 rfl ?_
    refine ss_iald (i := 109) dX8_count_116 (by omega) (sh_r109) (by omega) (by decide) ?_
    refine ss_goto 121 dX8_count_117 (by decide) ?_
    exact ss_iret dX8_count_121 rfl rfl (cvi (by rw [if_pos c108]) hQ)
set_option maxHeartbeats 1000000 in
set_option maxRecDepth 100000 in
theorem r_count_3 {c : cx} {d : Nat} {X : nX} {Y : nY} {m : Nat} (hm : m ≤ 12) (h7 : X 105 1 = nI m) {j : Nat} (hjm : j < m) : sc c mX8_count (d + 2) [.ref (c_ad c 105), .int (nI 3), .int (nI j)] (X) (Y) (some (.int (if X 106 j = nI 2 then X 109 j else 0))) (X) (Y) := by
  intro Q hQ
  show ss c mX8_count (d + 2) Q 0 [(0, .ref (c_ad c 105)), (1, .int (nI 3)), (2, .int (nI j))] [] (X) (Y)
  have hj : j < 12 := by omega
  have hwj : ix (nI j) m = true := ix_of hjm (by omega)
  refine ss_iload_n dX8_count_0 1 rfl ?_
  refine ss_i2l dX8_count_1 ?_
  refine ss_lconst (v := 0) dX8_count_2 (by decide) ?_
  refine ss_ldc2 dX8_count_3 kcX8_170 ?_
  refine ss_callS (As := [_, _, _]) dX8_count_6 vlX8_89 clX8_within rfl rfl (Nat.le_of_ble_eq_true rfl) (Nat.le_of_ble_eq_true rfl) (m_within) ?_
  refine sy_if_ne 16 dX8_count_9 (by decide) (fun c9 => ?_) (fun c9 => by first | exact kd_tf (by rw [wi_ix (n := 7) rfl]; exact ix_of (by omega) (by decide)) c9 | exact kd_ft (by rw [wi_ix (n := 7) rfl]; exact ix_of (by omega) (by decide)) c9 | exact absurd (by rw [wi_ix (n := 7) rfl]; exact ix_of (by omega) (by decide)) c9 | exact absurd c9 (by rw [wi_ix (n := 7) rfl]; exact ix_of (by omega) (by decide)))
  refine ss_iload_n dX8_count_16 1 rfl ?_
  refine ss_iconst (v := nI 2) dX8_count_17 (by decide) ?_
  refine sz_icmp_ge 37 dX8_count_18 (by decide) (by omega) (by omega) (fun c18 => ?_) (fun c18 => by omega)
  refine ss_aload_n dX8_count_37 0 rfl ?_
  refine ss_iload_n dX8_count_38 2 rfl ?_
  refine ss_callV (As := [_]) (i := 105) dX8_count_39 vlX8_157 clX8_isWorth rfl rfl (by omega) (sh_r105 _ _) rfl (Nat.le_of_ble_eq_true rfl) (Nat.le_of_ble_eq_true rfl) (m_isWorth hm h7) ?_
  refine sy_if_ne 49 dX8_count_42 (by decide) (fun c42 => ?_) (fun c42 => by first | exact kd_tf (hwj) c42 | exact kd_ft (hwj) c42 | exact absurd (hwj) c42 | exact absurd c42 (hwj))
  refine ss_iload_n dX8_count_49 1 rfl ?_
  refine ss_iconst (v := nI 2) dX8_count_50 (by decide) ?_
  refine sz_icmp_ne 58 dX8_count_51 (by decide) (by omega) (by omega) (fun c51 => ?_) (fun c51 => by omega)
  refine ss_iload_n dX8_count_58 1 rfl ?_
  refine ss_iconst (v := nI 3) dX8_count_59 (by decide) ?_
  refine sz_icmp_ne 67 dX8_count_60 (by decide) (by omega) (by omega) (fun c60 => by omega) (fun c60 => ?_)
  refine ss_iconst (v := nI 2) dX8_count_63 (by decide) ?_
  refine ss_goto 77 dX8_count_64 (by decide) ?_
  refine ss_istore_n (lv' := [(3, _), (0, _), (1, _), (2, _)]) dX8_count_77 (by decide) rfl ?_
  refine ss_iload_n dX8_count_78 2 rfl ?_
  refine ss_bipush (v := nI 6) dX8_count_79 (by decide) ?_
  refine sz_icmp_ne 101 dX8_count_81 (by decide) (by omega) (by omega) (fun c81 => ?_) (fun c81 => by omega)
  refine ss_aload_n dX8_count_101 1 rfl ?_
  refine ss_get (i := 105) dX8_count_102 flX8_7 (by omega) (sh_r105 _ _) rfl ?_
  refine ss_iload_n dX8_count_105 3 rfl ?_
  refine ss_iald (i := 106) dX8_count_106 (by omega) (sh_r106) (by omega) (by decide) ?_
  refine ss_iload_n dX8_count_107 0 rfl ?_
  refine ss_icmp_ne 120 dX8_count_108 (by decide) (fun c108 => ?_) (fun c108 => ?_)
  · skip
    refine ss_iconst (v := 0) dX8_count_120 (by decide) ?_
    exact ss_iret dX8_count_121 rfl rfl (cvi (by rw [if_neg c108]) hQ)
  · skip
    refine ss_aload_n dX8_count_111 1 rfl ?_
    refine ss_get (i := 105) dX8_count_112 flX8_21 (by omega) (sh_r105 _ _) rfl ?_
    refine ss_iload_n dX8_count_115 3 rfl ?_
    refine ss_iald (i := 109) dX8_count_116 (by omega) (sh_r109) (by omega) (by decide) ?_
    refine ss_goto 121 dX8_count_117 (by decide) ?_
    exact ss_iret dX8_count_121 rfl rfl (cvi (by rw [if_pos c108]) hQ)
set_option maxHeartbeats 1000000 in
set_option maxRecDepth 100000 in
theorem r_count_4 {c : cx} {d : Nat} {X : nX} {Y : nY} {m : Nat} (hm : m ≤ 12) (h7 : X 105 1 = nI m) {j : Nat} (hjm : j < m) : sc c mX8_count (d + 2) [.ref (c_ad c 105), .int (nI 4), .int (nI j)] (X) (Y) (some (.int (if X 106 j = nI 4 then X 109 j else 0))) (X) (Y) := by
  intro Q hQ
  show ss c mX8_count (d + 2) Q 0 [(0, .ref (c_ad c 105)), (1, .int (nI 4)), (2, .int (nI j))] [] (X) (Y)
  have hj : j < 12 := by omega
  have hwj : ix (nI j) m = true := ix_of hjm (by omega)
  refine ss_iload_n dX8_count_0 1 rfl ?_
  refine ss_i2l dX8_count_1 ?_
  refine ss_lconst (v := 0) dX8_count_2 (by decide) ?_
  refine ss_ldc2 dX8_count_3 kcX8_170 ?_
  refine ss_callS (As := [_, _, _]) dX8_count_6 vlX8_89 clX8_within rfl rfl (Nat.le_of_ble_eq_true rfl) (Nat.le_of_ble_eq_true rfl) (m_within) ?_
  refine sy_if_ne 16 dX8_count_9 (by decide) (fun c9 => ?_) (fun c9 => by first | exact kd_tf (by rw [wi_ix (n := 7) rfl]; exact ix_of (by omega) (by decide)) c9 | exact kd_ft (by rw [wi_ix (n := 7) rfl]; exact ix_of (by omega) (by decide)) c9 | exact absurd (by rw [wi_ix (n := 7) rfl]; exact ix_of (by omega) (by decide)) c9 | exact absurd c9 (by rw [wi_ix (n := 7) rfl]; exact ix_of (by omega) (by decide)))
  refine ss_iload_n dX8_count_16 1 rfl ?_
  refine ss_iconst (v := nI 2) dX8_count_17 (by decide) ?_
  refine sz_icmp_ge 37 dX8_count_18 (by decide) (by omega) (by omega) (fun c18 => ?_) (fun c18 => by omega)
  refine ss_aload_n dX8_count_37 0 rfl ?_
  refine ss_iload_n dX8_count_38 2 rfl ?_
  refine ss_callV (As := [_]) (i := 105) dX8_count_39 vlX8_157 clX8_isWorth rfl rfl (by omega) (sh_r105 _ _) rfl (Nat.le_of_ble_eq_true rfl) (Nat.le_of_ble_eq_true rfl) (m_isWorth hm h7) ?_
  refine sy_if_ne 49 dX8_count_42 (by decide) (fun c42 => ?_) (fun c42 => by first | exact kd_tf (hwj) c42 | exact kd_ft (hwj) c42 | exact absurd (hwj) c42 | exact absurd c42 (hwj))
  refine ss_iload_n dX8_count_49 1 rfl ?_
  refine ss_iconst (v := nI 2) dX8_count_50 (by decide) ?_
  refine sz_icmp_ne 58 dX8_count_51 (by decide) (by omega) (by omega) (fun c51 => ?_) (fun c51 => by omega)
  refine ss_iload_n dX8_count_58 1 rfl ?_
  refine ss_iconst (v := nI 3) dX8_count_59 (by decide) ?_
  refine sz_icmp_ne 67 dX8_count_60 (by decide) (by omega) (by omega) (fun c60 => ?_) (fun c60 => by omega)
  refine ss_iload_n dX8_count_67 1 rfl ?_
  refine ss_iconst (v := nI 4) dX8_count_68 (by decide) ?_
  refine sz_icmp_ne 76 dX8_count_69 (by decide) (by omega) (by omega) (fun c69 => by omega) (fun c69 => ?_)
  refine ss_iconst (v := nI 4) dX8_count_72 (by decide) ?_
  refine ss_goto 77 dX8_count_73 (by decide) ?_
  refine ss_istore_n (lv' := [(3, _), (0, _), (1, _), (2, _)]) dX8_count_77 (by decide) rfl ?_
  refine ss_iload_n dX8_count_78 2 rfl ?_
  refine ss_bipush (v := nI 6) dX8_count_79 (by decide) ?_
  refine sz_icmp_ne 101 dX8_count_81 (by decide) (by omega) (by omega) (fun c81 => ?_) (fun c81 => by omega)
  refine ss_aload_n dX8_count_101 1 rfl ?_
  refine ss_get (i := 105) dX8_count_102 flX8_7 (by omega) (sh_r105 _ _) rfl ?_
  refine ss_iload_n dX8_count_105 3 rfl ?_
  refine ss_iald (i := 106) dX8_count_106 (by omega) (sh_r106) (by omega) (by decide) ?_
  refine ss_iload_n dX8_count_107 0 rfl ?_
  refine ss_icmp_ne 120 dX8_count_108 (by decide) (fun c108 => ?_) (fun c108 => ?_)
  · skip
    refine ss_iconst (v := 0) dX8_count_120 (by decide) ?_
    exact ss_iret dX8_count_121 rfl rfl (cvi (by rw [if_neg c108]) hQ)
  · skip
    refine ss_aload_n dX8_count_111 1 rfl ?_
    refine ss_get (i := 105) dX8_count_112 flX8_21 (by omega) (sh_r105 _ _) rfl ?_
    refine ss_iload_n dX8_count_115 3 rfl ?_
    refine ss_iald (i := 109) dX8_count_116 (by omega) (sh_r109) (by omega) (by decide) ?_
    refine ss_goto 121 dX8_count_117 (by decide) ?_
    exact ss_iret dX8_count_121 rfl rfl (cvi (by rw [if_pos c108]) hQ)
set_option maxHeartbeats 1000000 in
set_option maxRecDepth 100000 in
theorem r_count_5 {c : cx} {d : Nat} {X : nX} {Y : nY} {m : Nat} (hm : m ≤ 12) (h7 : X 105 1 = nI m) {j : Nat} (hjm : j < m) : sc c mX8_count (d + 2) [.ref (c_ad c 105), .int (nI 5), .int (nI j)] (X) (Y) (some (.int (if X 106 j = nI 5 then X 109 j else 0))) (X) (Y) := by
  intro Q hQ
  show ss c mX8_count (d + 2) Q 0 [(0, .ref (c_ad c 105)), (1, .int (nI 5)), (2, .int (nI j))] [] (X) (Y)
  have hj : j < 12 := by omega
  have hwj : ix (nI j) m = true := ix_of hjm (by omega)
  refine ss_iload_n dX8_count_0 1 rfl ?_
  refine ss_i2l dX8_count_1 ?_
  refine ss_lconst (v := 0) dX8_count_2 (by decide) ?_
  refine ss_ldc2 dX8_count_3 kcX8_170 ?_
  refine ss_callS (As := [_, _, _]) dX8_count_6 vlX8_89 clX8_within rfl rfl (Nat.le_of_ble_eq_true rfl) (Nat.le_of_ble_eq_true rfl) (m_within) ?_
  refine sy_if_ne 16 dX8_count_9 (by decide) (fun c9 => ?_) (fun c9 => by first | exact kd_tf (by rw [wi_ix (n := 7) rfl]; exact ix_of (by omega) (by decide)) c9 | exact kd_ft (by rw [wi_ix (n := 7) rfl]; exact ix_of (by omega) (by decide)) c9 | exact absurd (by rw [wi_ix (n := 7) rfl]; exact ix_of (by omega) (by decide)) c9 | exact absurd c9 (by rw [wi_ix (n := 7) rfl]; exact ix_of (by omega) (by decide)))
  refine ss_iload_n dX8_count_16 1 rfl ?_
  refine ss_iconst (v := nI 2) dX8_count_17 (by decide) ?_
  refine sz_icmp_ge 37 dX8_count_18 (by decide) (by omega) (by omega) (fun c18 => ?_) (fun c18 => by omega)
  refine ss_aload_n dX8_count_37 0 rfl ?_
  refine ss_iload_n dX8_count_38 2 rfl ?_
  refine ss_callV (As := [_]) (i := 105) dX8_count_39 vlX8_157 clX8_isWorth rfl rfl (by omega) (sh_r105 _ _) rfl (Nat.le_of_ble_eq_true rfl) (Nat.le_of_ble_eq_true rfl) (m_isWorth hm h7) ?_
  refine sy_if_ne 49 dX8_count_42 (by decide) (fun c42 => ?_) (fun c42 => by first | exact kd_tf (hwj) c42 | exact kd_ft (hwj) c42 | exact absurd (hwj) c42 | exact absurd c42 (hwj))
  refine ss_iload_n dX8_count_49 1 rfl ?_
  refine ss_iconst (v := nI 2) dX8_count_50 (by decide) ?_
  refine sz_icmp_ne 58 dX8_count_51 (by decide) (by omega) (by omega) (fun c51 => ?_) (fun c51 => by omega)
  refine ss_iload_n dX8_count_58 1 rfl ?_
  refine ss_iconst (v := nI 3) dX8_count_59 (by decide) ?_
  refine sz_icmp_ne 67 dX8_count_60 (by decide) (by omega) (by omega) (fun c60 => ?_) (fun c60 => by omega)
  refine ss_iload_n dX8_count_67 1 rfl ?_
  refine ss_iconst (v := nI 4) dX8_count_68 (by decide) ?_
  refine sz_icmp_ne 76 dX8_count_69 (by decide) (by omega) (by omega) (fun c69 => ?_) (fun c69 => by omega)
  refine ss_iconst (v := nI 5) dX8_count_76 (by decide) ?_
  refine ss_istore_n (lv' := [(3, _), (0, _), (1, _), (2, _)]) dX8_count_77 (by decide) rfl ?_
  refine ss_iload_n dX8_count_78 2 rfl ?_
  refine ss_bipush (v := nI 6) dX8_count_79 (by decide) ?_
  refine sz_icmp_ne 101 dX8_count_81 (by decide) (by omega) (by omega) (fun c81 => ?_) (fun c81 => by omega)
  refine ss_aload_n dX8_count_101 1 rfl ?_
  refine ss_get (i := 105) dX8_count_102 flX8_7 (by omega) (sh_r105 _ _) rfl ?_
  refine ss_iload_n dX8_count_105 3 rfl ?_
  refine ss_iald (i := 106) dX8_count_106 (by omega) (sh_r106) (by omega) (by decide) ?_
  refine ss_iload_n dX8_count_107 0 rfl ?_
  refine ss_icmp_ne 120 dX8_count_108 (by decide) (fun c108 => ?_) (fun c108 => ?_)
  · skip
    refine ss_iconst (v := 0) dX8_count_120 (by decide) ?_
    exact ss_iret dX8_count_121 rfl rfl (cvi (by rw [if_neg c108]) hQ)
  · skip
    refine ss_aload_n dX8_count_111 1 rfl ?_
    refine ss_get (i := 105) dX8_count_112 flX8_21 (by omega) (sh_r105 _ _) rfl ?_
    refine ss_iload_n dX8_count_115 3 rfl ?_
    refine ss_iald (i := 109) dX8_count_116 (by omega) (sh_r109) (by omega) (by decide) ?_
    refine ss_goto 121 dX8_count_117 (by decide) ?_
    exact ss_iret dX8_count_121 rfl rfl (cvi (by rw [if_pos c108]) hQ)
set_option maxHeartbeats 1000000 in
set_option maxRecDepth 100000 in
theorem r_count_6true {c : cx} {d : Nat} {X : nX} {Y : nY} {m : Nat} (hm : m ≤ 12) (h7 : X 105 1 = nI m) {j : Nat} (hjm : j < m) (hh : X 107 j = bI true) : sc c mX8_count (d + 2) [.ref (c_ad c 105), .int (nI 6), .int (nI j)] (X) (Y) (some (.int (nI 1))) (X) (Y) := by
  intro Q hQ
  show ss c mX8_count (d + 2) Q 0 [(0, .ref (c_ad c 105)), (1, .int (nI 6)), (2, .int (nI j))] [] (X) (Y)
  have hj : j < 12 := by omega
  have hwj : ix (nI j) m = true := ix_of hjm (by omega)
  refine ss_iload_n dX8_count_0 1 rfl ?_
  refine ss_i2l dX8_count_1 ?_
  refine ss_lconst (v := 0) dX8_count_2 (by decide) ?_
  refine ss_ldc2 dX8_count_3 kcX8_170 ?_
  refine ss_callS (As := [_, _, _]) dX8_count_6 vlX8_89 clX8_within rfl rfl (Nat.le_of_ble_eq_true rfl) (Nat.le_of_ble_eq_true rfl) (m_within) ?_
  refine sy_if_ne 16 dX8_count_9 (by decide) (fun c9 => ?_) (fun c9 => by first | exact kd_tf (by rw [wi_ix (n := 7) rfl]; exact ix_of (by omega) (by decide)) c9 | exact kd_ft (by rw [wi_ix (n := 7) rfl]; exact ix_of (by omega) (by decide)) c9 | exact absurd (by rw [wi_ix (n := 7) rfl]; exact ix_of (by omega) (by decide)) c9 | exact absurd c9 (by rw [wi_ix (n := 7) rfl]; exact ix_of (by omega) (by decide)))
  refine ss_iload_n dX8_count_16 1 rfl ?_
  refine ss_iconst (v := nI 2) dX8_count_17 (by decide) ?_
  refine sz_icmp_ge 37 dX8_count_18 (by decide) (by omega) (by omega) (fun c18 => ?_) (fun c18 => by omega)
  refine ss_aload_n dX8_count_37 0 rfl ?_
  refine ss_iload_n dX8_count_38 2 rfl ?_
  refine ss_callV (As := [_]) (i := 105) dX8_count_39 vlX8_157 clX8_isWorth rfl rfl (by omega) (sh_r105 _ _) rfl (Nat.le_of_ble_eq_true rfl) (Nat.le_of_ble_eq_true rfl) (m_isWorth hm h7) ?_
  refine sy_if_ne 49 dX8_count_42 (by decide) (fun c42 => ?_) (fun c42 => by first | exact kd_tf (hwj) c42 | exact kd_ft (hwj) c42 | exact absurd (hwj) c42 | exact absurd c42 (hwj))
  refine ss_iload_n dX8_count_49 1 rfl ?_
  refine ss_iconst (v := nI 2) dX8_count_50 (by decide) ?_
  refine sz_icmp_ne 58 dX8_count_51 (by decide) (by omega) (by omega) (fun c51 => ?_) (fun c51 => by omega)
  refine ss_iload_n dX8_count_58 1 rfl ?_
  refine ss_iconst (v := nI 3) dX8_count_59 (by decide) ?_
  refine sz_icmp_ne 67 dX8_count_60 (by decide) (by omega) (by omega) (fun c60 => ?_) (fun c60 => by omega)
  refine ss_iload_n dX8_count_67 1 rfl ?_
  refine ss_iconst (v := nI 4) dX8_count_68 (by decide) ?_
  refine sz_icmp_ne 76 dX8_count_69 (by decide) (by omega) (by omega) (fun c69 => ?_) (fun c69 => by omega)
  refine ss_iconst (v := nI 5) dX8_count_76 (by decide) ?_
  refine ss_istore_n (lv' := [(3, _), (0, _), (1, _), (2, _)]) dX8_count_77 (by decide) rfl ?_
  refine ss_iload_n dX8_count_78 2 rfl ?_
  refine ss_bipush (v := nI 6) dX8_count_79 (by decide) ?_
  refine sz_icmp_ne 101 dX8_count_81 (by decide) (by omega) (by omega) (fun c81 => by omega) (fun c81 => ?_)
  refine ss_aload_n dX8_count_84 1 rfl ?_
  refine ss_get (i := 105) dX8_count_85 flX8_13 (by omega) (sh_r105 _ _) rfl ?_
  refine ss_iload_n dX8_count_88 3 rfl ?_
  refine ss_zald (i := 107) dX8_count_89 (by omega) (sh_r107) (by omega) (by decide) ?_
  rw [hh]
  refine sy_if_eq 97 dX8_count_90 (by decide) (fun c90 => by first | exact kd_tf (rfl) c90 | exact kd_ft (rfl) c90 | exact absurd (rfl) c90 | exact absurd c90 (rfl)) (fun c90 => ?_)
  refine ss_iconst (v := nI 1) dX8_count_93 (by decide) ?_
  refine ss_goto 121 dX8_count_94 (by decide) ?_
  exact ss_iret dX8_count_121 rfl rfl (hQ)
set_option maxHeartbeats 1000000 in
set_option maxRecDepth 100000 in
theorem r_count_6false {c : cx} {d : Nat} {X : nX} {Y : nY} {m : Nat} (hm : m ≤ 12) (h7 : X 105 1 = nI m) {j : Nat} (hjm : j < m) (hh : X 107 j = bI false) : sc c mX8_count (d + 2) [.ref (c_ad c 105), .int (nI 6), .int (nI j)] (X) (Y) (some (.int (nI 0))) (X) (Y) := by
  intro Q hQ
  show ss c mX8_count (d + 2) Q 0 [(0, .ref (c_ad c 105)), (1, .int (nI 6)), (2, .int (nI j))] [] (X) (Y)
  have hj : j < 12 := by omega
  have hwj : ix (nI j) m = true := ix_of hjm (by omega)
  refine ss_iload_n dX8_count_0 1 rfl ?_
  refine ss_i2l dX8_count_1 ?_
  refine ss_lconst (v := 0) dX8_count_2 (by decide) ?_
  refine ss_ldc2 dX8_count_3 kcX8_170 ?_
  refine ss_callS (As := [_, _, _]) dX8_count_6 vlX8_89 clX8_within rfl rfl (Nat.le_of_ble_eq_true rfl) (Nat.le_of_ble_eq_true rfl) (m_within) ?_
  refine sy_if_ne 16 dX8_count_9 (by decide) (fun c9 => ?_) (fun c9 => by first | exact kd_tf (by rw [wi_ix (n := 7) rfl]; exact ix_of (by omega) (by decide)) c9 | exact kd_ft (by rw [wi_ix (n := 7) rfl]; exact ix_of (by omega) (by decide)) c9 | exact absurd (by rw [wi_ix (n := 7) rfl]; exact ix_of (by omega) (by decide)) c9 | exact absurd c9 (by rw [wi_ix (n := 7) rfl]; exact ix_of (by omega) (by decide)))
  refine ss_iload_n dX8_count_16 1 rfl ?_
  refine ss_iconst (v := nI 2) dX8_count_17 (by decide) ?_
  refine sz_icmp_ge 37 dX8_count_18 (by decide) (by omega) (by omega) (fun c18 => ?_) (fun c18 => by omega)
  refine ss_aload_n dX8_count_37 0 rfl ?_
  refine ss_iload_n dX8_count_38 2 rfl ?_
  refine ss_callV (As := [_]) (i := 105) dX8_count_39 vlX8_157 clX8_isWorth rfl rfl (by omega) (sh_r105 _ _) rfl (Nat.le_of_ble_eq_true rfl) (Nat.le_of_ble_eq_true rfl) (m_isWorth hm h7) ?_
  refine sy_if_ne 49 dX8_count_42 (by decide) (fun c42 => ?_) (fun c42 => by first | exact kd_tf (hwj) c42 | exact kd_ft (hwj) c42 | exact absurd (hwj) c42 | exact absurd c42 (hwj))
  refine ss_iload_n dX8_count_49 1 rfl ?_
  refine ss_iconst (v := nI 2) dX8_count_50 (by decide) ?_
  refine sz_icmp_ne 58 dX8_count_51 (by decide) (by omega) (by omega) (fun c51 => ?_) (fun c51 => by omega)
  refine ss_iload_n dX8_count_58 1 rfl ?_
  refine ss_iconst (v := nI 3) dX8_count_59 (by decide) ?_
  refine sz_icmp_ne 67 dX8_count_60 (by decide) (by omega) (by omega) (fun c60 => ?_) (fun c60 => by omega)
  refine ss_iload_n dX8_count_67 1 rfl ?_
  refine ss_iconst (v := nI 4) dX8_count_68 (by decide) ?_
  refine sz_icmp_ne 76 dX8_count_69 (by decide) (by omega) (by omega) (fun c69 => ?_) (fun c69 => by omega)
  refine ss_iconst (v := nI 5) dX8_count_76 (by decide) ?_
  refine ss_istore_n (lv' := [(3, _), (0, _), (1, _), (2, _)]) dX8_count_77 (by decide) rfl ?_
  refine ss_iload_n dX8_count_78 2 rfl ?_
  refine ss_bipush (v := nI 6) dX8_count_79 (by decide) ?_
  refine sz_icmp_ne 101 dX8_count_81 (by decide) (by omega) (by omega) (fun c81 => by omega) (fun c81 => ?_)
  refine ss_aload_n dX8_count_84 1 rfl ?_
  refine ss_get (i := 105) dX8_count_85 flX8_13 (by omega) (sh_r105 _ _) rfl ?_
  refine ss_iload_n dX8_count_88 3 rfl ?_
  refine ss_zald (i := 107) dX8_count_89 (by omega) (sh_r107) (by omega) (by decide) ?_
  rw [hh]
  refine sy_if_eq 97 dX8_count_90 (by decide) (fun c90 => ?_) (fun c90 => by first | exact kd_tf (rfl) c90 | exact kd_ft (rfl) c90 | exact absurd (rfl) c90 | exact absurd c90 (rfl))
  refine ss_iconst (v := nI 0) dX8_count_97 (by decide) ?_
  refine ss_goto 121 dX8_count_98 (by decide) ?_
  exact ss_iret dX8_count_121 rfl rfl (hQ)
set_option maxHeartbeats 1000000 in
set_option maxRecDepth 100000 in
theorem r_tell_u {c : cx} {d : Nat} {X : nX} {Y : nY} {n : Nat} (hn : n ≤ 10) (h6 : X 105 0 = nI n) {m : Nat} (hm : m ≤ 12) (h7 : X 105 1 = nI m) {w s v : Int32} (hu : ix w m = false ∨ ix s (2 ^ n) = false) : sc c mX8_tell (d + 3) [.ref (c_ad c 105), .int w, .int s, .int v] (X) (Y) (some (.int (-1001))) (X) (Y) := by
  intro Q hQ
  show ss c mX8_tell (d + 3) Q 0 [(0, .ref (c_ad c 105)), (1, .int w), (2, .int s), (3, .int v)] [] (X) (Y)
  refine ss_aload_n dX8_tell_0 0 rfl ?_
  refine ss_iload_n dX8_tell_1 1 rfl ?_
  refine ss_callV (As := [_]) (i := 105) dX8_tell_2 vlX8_157 clX8_isWorth rfl rfl (by omega) (sh_r105 _ _) rfl (Nat.le_of_ble_eq_true rfl) (Nat.le_of_ble_eq_true rfl) (m_isWorth hm h7) ?_
  refine sy_if_eq 16 dX8_tell_5 (by decide) (fun c5 => ?_) (fun c5 => ?_)
  · skip
    refine ss_sipush (v := -1001) dX8_tell_16 (by decide) ?_
    exact ss_iret dX8_tell_19 rfl rfl (hQ)
  · skip
    refine ss_aload_n dX8_tell_8 0 rfl ?_
    refine ss_iload_n dX8_tell_9 2 rfl ?_
    refine ss_callV (As := [_]) (i := 105) dX8_tell_10 vlX8_160 clX8_isSet rfl rfl (by omega) (sh_r105 _ _) rfl (Nat.le_of_ble_eq_true rfl) (Nat.le_of_ble_eq_true rfl) (m_isSet hn h6) ?_
    refine sy_if_ne 20 dX8_tell_13 (by decide) (fun c13 => by rcases hu with h8 | h8; exact kd_tf c5 h8; exact kd_tf c13 h8) (fun c13 => ?_)
    refine ss_sipush (v := -1001) dX8_tell_16 (by decide) ?_
    exact ss_iret dX8_tell_19 rfl rfl (hQ)
set_option maxHeartbeats 1000000 in
set_option maxRecDepth 100000 in
theorem r_tell_o1 {c : cx} {d : Nat} {X : nX} {Y : nY} {n : Nat} (hn : n ≤ 10) (h6 : X 105 0 = nI n) {m : Nat} (hm : m ≤ 12) (h7 : X 105 1 = nI m) {j : Nat} (hjm : j < m) {v : Int32} : sc c mX8_tell (d + 3) [.ref (c_ad c 105), .int (nI j), .int (nI 0), .int v] (X) (Y) (some (.int (-1002))) (X) (Y) := by
  intro Q hQ
  show ss c mX8_tell (d + 3) Q 0 [(0, .ref (c_ad c 105)), (1, .int (nI j)), (2, .int (nI 0)), (3, .int v)] [] (X) (Y)
  have hj : j < 12 := by omega
  have hwj : ix (nI j) m = true := ix_of hjm (by omega)
  refine ss_aload_n dX8_tell_0 0 rfl ?_
  refine ss_iload_n dX8_tell_1 1 rfl ?_
  refine ss_callV (As := [_]) (i := 105) dX8_tell_2 vlX8_157 clX8_isWorth rfl rfl (by omega) (sh_r105 _ _) rfl (Nat.le_of_ble_eq_true rfl) (Nat.le_of_ble_eq_true rfl) (m_isWorth hm h7) ?_
  refine sy_if_eq 16 dX8_tell_5 (by decide) (fun c5 => by first | exact kd_tf (hwj) c5 | exact kd_ft (hwj) c5 | exact absurd (hwj) c5 | exact absurd c5 (hwj)) (fun c5 => ?_)
  refine ss_aload_n dX8_tell_8 0 rfl ?_
  refine ss_iload_n dX8_tell_9 2 rfl ?_
  refine ss_callV (As := [_]) (i := 105) dX8_tell_10 vlX8_160 clX8_isSet rfl rfl (by omega) (sh_r105 _ _) rfl (Nat.le_of_ble_eq_true rfl) (Nat.le_of_ble_eq_true rfl) (m_isSet hn h6) ?_
  refine sy_if_ne 20 dX8_tell_13 (by decide) (fun c13 => ?_) (fun c13 => by first | exact kd_tf (ix_of p2_1 (by have := p2_le hn; omega)) c13 | exact kd_ft (ix_of p2_1 (by have := p2_le hn; omega)) c13 | exact absurd (ix_of p2_1 (by have := p2_le hn; omega)) c13 | exact absurd c13 (ix_of p2_1 (by have := p2_le hn; omega)))
  refine ss_iload_n dX8_tell_20 2 rfl ?_
  refine sz_if_eq 38 dX8_tell_21 (by decide) (by omega) (fun c21 => ?_) (fun c21 => by omega)
  refine ss_sipush (v := -1002) dX8_tell_38 (by decide) ?_
  exact ss_iret dX8_tell_41 rfl rfl (hQ)
set_option maxHeartbeats 1000000 in
set_option maxRecDepth 100000 in
theorem r_tell_o2 {c : cx} {d : Nat} {X : nX} {Y : nY} {n : Nat} (hn : n ≤ 10) (h6 : X 105 0 = nI n) {m : Nat} (hm : m ≤ 12) (h7 : X 105 1 = nI m) {j : Nat} (hjm : j < m) {s : Nat} (hs : s < 2 ^ n) {v : Int32} (h0 : s ≠ 0) (hv : wi v.toInt64 (-1000000) 1000000 = false) : sc c mX8_tell (d + 3) [.ref (c_ad c 105), .int (nI j), .int (nI s), .int v] (X) (Y) (some (.int (-1002))) (X) (Y) := by
  intro Q hQ
  show ss c mX8_tell (d + 3) Q 0 [(0, .ref (c_ad c 105)), (1, .int (nI j)), (2, .int (nI s)), (3, .int v)] [] (X) (Y)
  have hj : j < 12 := by omega
  have hwj : ix (nI j) m = true := ix_of hjm (by omega)
  have hs9 : ix (nI s) (2 ^ n) = true := ix_of hs (by have := p2_le hn; omega)
  have hs8 := ix_2p hs hn
  refine ss_aload_n dX8_tell_0 0 rfl ?_
  refine ss_iload_n dX8_tell_1 1 rfl ?_
  refine ss_callV (As := [_]) (i := 105) dX8_tell_2 vlX8_157 clX8_isWorth rfl rfl (by omega) (sh_r105 _ _) rfl (Nat.le_of_ble_eq_true rfl) (Nat.le_of_ble_eq_true rfl) (m_isWorth hm h7) ?_
  refine sy_if_eq 16 dX8_tell_5 (by decide) (fun c5 => by first | exact kd_tf (hwj) c5 | exact kd_ft (hwj) c5 | exact absurd (hwj) c5 | exact absurd c5 (hwj)) (fun c5 => ?_)
  refine ss_aload_n dX8_tell_8 0 rfl ?_
  refine ss_iload_n dX8_tell_9 2 rfl ?_
  refine ss_callV (As := [_]) (i := 105) dX8_tell_10 vlX8_160 clX8_isSet rfl rfl (by omega) (sh_r105 _ _) rfl (Nat.le_of_ble_eq_true rfl) (Nat.le_of_ble_eq_true rfl) (m_isSet hn h6) ?_
  refine sy_if_ne 20 dX8_tell_13 (by decide) (fun c13 => ?_) (fun c13 => by first | exact kd_tf (hs9) c13 | exact kd_ft (hs9) c13 | exact absurd (hs9) c13 | exact absurd c13 (hs9))
  refine ss_iload_n dX8_tell_20 2 rfl ?_
  refine sz_if_eq 38 dX8_tell_21 (by decide) (by omega) (fun c21 => by omega) (fun c21 => ?_)
  refine ss_iload_n dX8_tell_24 3 rfl ?_
  refine ss_i2l dX8_tell_25 ?_
  refine ss_ldc2 dX8_tell_26 kcX8_172 ?_
  refine ss_ldc2 dX8_tell_29 kcX8_174 ?_
  refine ss_callS (As := [_, _, _]) dX8_tell_32 vlX8_89 clX8_within rfl rfl (Nat.le_of_ble_eq_true rfl) (Nat.le_of_ble_eq_true rfl) (m_within) ?_
  refine sy_if_ne 42 dX8_tell_35 (by decide) (fun c35 => by first | exact kd_tf (hv) c35 | exact kd_ft (hv) c35 | exact absurd (hv) c35 | exact absurd c35 (hv)) (fun c35 => ?_)
  refine ss_sipush (v := -1002) dX8_tell_38 (by decide) ?_
  exact ss_iret dX8_tell_41 rfl rfl (hQ)
set_option maxHeartbeats 1000000 in
set_option maxRecDepth 100000 in
theorem r_tell_n {c : cx} {d : Nat} {X : nX} {Y : nY} {n : Nat} (hn : n ≤ 10) (h6 : X 105 0 = nI n) {m : Nat} (hm : m ≤ 12) (h7 : X 105 1 = nI m) {j : Nat} (hjm : j < m) {s : Nat} (hs : s < 2 ^ n) {v : Int32} (h0 : s ≠ 0) (hv : wi v.toInt64 (-1000000) 1000000 = true) (hh : X 107 j = bI true) : sc c mX8_tell (d + 3) [.ref (c_ad c 105), .int (nI j), .int (nI s), .int v] (X) (Y) (some (.int (-1003))) (X) (Y) := by
  intro Q hQ
  show ss c mX8_tell (d + 3) Q 0 [(0, .ref (c_ad c 105)), (1, .int (nI j)), (2, .int (nI s)), (3, .int v)] [] (X) (Y)
  have hj : j < 12 := by omega
  have hwj : ix (nI j) m = true := ix_of hjm (by omega)
  have hs9 : ix (nI s) (2 ^ n) = true := ix_of hs (by have := p2_le hn; omega)
  have hs8 := ix_2p hs hn
  refine ss_aload_n dX8_tell_0 0 rfl ?_
  refine ss_iload_n dX8_tell_1 1 rfl ?_
  refine ss_callV (As := [_]) (i := 105) dX8_tell_2 vlX8_157 clX8_isWorth rfl rfl (by omega) (sh_r105 _ _) rfl (Nat.le_of_ble_eq_true rfl) (Nat.le_of_ble_eq_true rfl) (m_isWorth hm h7) ?_
  refine sy_if_eq 16 dX8_tell_5 (by decide) (fun c5 => by first | exact kd_tf (hwj) c5 | exact kd_ft (hwj) c5 | exact absurd (hwj) c5 | exact absurd c5 (hwj)) (fun c5 => ?_)
  refine ss_aload_n dX8_tell_8 0 rfl ?_
  refine ss_iload_n dX8_tell_9 2 rfl ?_
  refine ss_callV (As := [_]) (i := 105) dX8_tell_10 vlX8_160 clX8_isSet rfl rfl (by omega) (sh_r105 _ _) rfl (Nat.le_of_ble_eq_true rfl) (Nat.le_of_ble_eq_true rfl) (m_isSet hn h6) ?_
  refine sy_if_ne 20 dX8_tell_13 (by decide) (fun c13 => ?_) (fun c13 => by first | exact kd_tf (hs9) c13 | exact kd_ft (hs9) c13 | exact absurd (hs9) c13 | exact absurd c13 (hs9))
  refine ss_iload_n dX8_tell_20 2 rfl ?_
  refine sz_if_eq 38 dX8_tell_21 (by decide) (by omega) (fun c21 => by omega) (fun c21 => ?_)
  refine ss_iload_n dX8_tell_24 3 rfl ?_
  refine ss_i2l dX8_tell_25 ?_
  refine ss_ldc2 dX8_tell_26 kcX8_172 ?_
  refine ss_ldc2 dX8_tell_29 kcX8_174 ?_
  refine ss_callS (As := [_, _, _]) dX8_tell_32 vlX8_89 clX8_within rfl rfl (Nat.le_of_ble_eq_true rfl) (Nat.le_of_ble_eq_true rfl) (m_within) ?_
  refine sy_if_ne 42 dX8_tell_35 (by decide) (fun c35 => ?_) (fun c35 => by first | exact kd_tf (hv) c35 | exact kd_ft (hv) c35 | exact absurd (hv) c35 | exact absurd c35 (hv))
  refine ss_aload_n dX8_tell_42 0 rfl ?_
  refine ss_get (i := 105) dX8_tell_43 flX8_13 (by omega) (sh_r105 _ _) rfl ?_
  refine ss_iload_n dX8_tell_46 1 rfl ?_
  refine ss_zald (i := 107) dX8_tell_47 (by omega) (sh_r107) (by omega) (by decide) ?_
  rw [hh]
  refine sy_if_eq 55 dX8_tell_48 (by decide) (fun c48 => by first | exact kd_tf (rfl) c48 | exact kd_ft (rfl) c48 | exact absurd (rfl) c48 | exact absurd c48 (rfl)) (fun c48 => ?_)
  refine ss_sipush (v := -1003) dX8_tell_51 (by decide) ?_
  exact ss_iret dX8_tell_54 rfl rfl (hQ)
set_option maxHeartbeats 1000000 in
set_option maxRecDepth 100000 in
theorem r_tell_c {c : cx} {d : Nat} {X : nX} {Y : nY} {n : Nat} (hn : n ≤ 10) (h6 : X 105 0 = nI n) {m : Nat} (hm : m ≤ 12) (h7 : X 105 1 = nI m) {j : Nat} (hjm : j < m) {s : Nat} (hs : s < 2 ^ n) {v : Int32} (h0 : s ≠ 0) (hv : wi v.toInt64 (-1000000) 1000000 = true) (hh : X 107 j = bI false) (hkd : ¬ X 106 j = nI 0) : sc c mX8_tell (d + 3) [.ref (c_ad c 105), .int (nI j), .int (nI s), .int v] (X) (Y) (some (.int (nI 0))) (up2 X 105 19 (nI 5)) (Y) := by
  intro Q hQ
  show ss c mX8_tell (d + 3) Q 0 [(0, .ref (c_ad c 105)), (1, .int (nI j)), (2, .int (nI s)), (3, .int v)] [] (X) (Y)
  have hj : j < 12 := by omega
  have hwj : ix (nI j) m = true := ix_of hjm (by omega)
  have hs9 : ix (nI s) (2 ^ n) = true := ix_of hs (by have := p2_le hn; omega)
  have hs8 := ix_2p hs hn
  refine ss_aload_n dX8_tell_0 0 rfl ?_
  refine ss_iload_n dX8_tell_1 1 rfl ?_
  refine ss_callV (As := [_]) (i := 105) dX8_tell_2 vlX8_157 clX8_isWorth rfl rfl (by omega) (sh_r105 _ _) rfl (Nat.le_of_ble_eq_true rfl) (Nat.le_of_ble_eq_true rfl) (m_isWorth hm h7) ?_
  refine sy_if_eq 16 dX8_tell_5 (by decide) (fun c5 => by first | exact kd_tf (hwj) c5 | exact kd_ft (hwj) c5 | exact absurd (hwj) c5 | exact absurd c5 (hwj)) (fun c5 => ?_)
  refine ss_aload_n dX8_tell_8 0 rfl ?_
  refine ss_iload_n dX8_tell_9 2 rfl ?_
  refine ss_callV (As := [_]) (i := 105) dX8_tell_10 vlX8_160 clX8_isSet rfl rfl (by omega) (sh_r105 _ _) rfl (Nat.le_of_ble_eq_true rfl) (Nat.le_of_ble_eq_true rfl) (m_isSet hn h6) ?_
  refine sy_if_ne 20 dX8_tell_13 (by decide) (fun c13 => ?_) (fun c13 => by first | exact kd_tf (hs9) c13 | exact kd_ft (hs9) c13 | exact absurd (hs9) c13 | exact absurd c13 (hs9))
  refine ss_iload_n dX8_tell_20 2 rfl ?_
  refine sz_if_eq 38 dX8_tell_21 (by decide) (by omega) (fun c21 => by omega) (fun c21 => ?_)
  refine ss_iload_n dX8_tell_24 3 rfl ?_
  refine ss_i2l dX8_tell_25 ?_
  refine ss_ldc2 dX8_tell_26 kcX8_172 ?_
  refine ss_ldc2 dX8_tell_29 kcX8_174 ?_
  refine ss_callS (As := [_, _, _]) dX8_tell_32 vlX8_89 clX8_within rfl rfl (Nat.le_of_ble_eq_true rfl) (Nat.le_of_ble_eq_true rfl) (m_within) ?_
  refine sy_if_ne 42 dX8_tell_35 (by decide) (fun c35 => ?_) (fun c35 => by first | exact kd_tf (hv) c35 | exact kd_ft (hv) c35 | exact absurd (hv) c35 | exact absurd c35 (hv))
  refine ss_aload_n dX8_tell_42 0 rfl ?_
  refine ss_get (i := 105) dX8_tell_43 flX8_13 (by omega) (sh_r105 _ _) rfl ?_
  refine ss_iload_n dX8_tell_46 1 rfl ?_
  refine ss_zald (i := 107) dX8_tell_47 (by omega) (sh_r107) (by omega) (by decide) ?_
  rw [hh]
  refine sy_if_eq 55 dX8_tell_48 (by decide) (fun c48 => ?_) (fun c48 => by first | exact kd_tf (rfl) c48 | exact kd_ft (rfl) c48 | exact absurd (rfl) c48 | exact absurd c48 (rfl))
  refine ss_aload_n dX8_tell_55 0 rfl ?_
  refine ss_iload_n dX8_tell_56 1 rfl ?_
  refine ss_iconst (v := nI 0) dX8_tell_57 (by decide) ?_
  refine ss_callV (As := [_, _]) (i := 105) dX8_tell_58 vlX8_176 clX8_isOf rfl rfl (by omega) (sh_r105 _ _) rfl (Nat.le_of_ble_eq_true rfl) (Nat.le_of_ble_eq_true rfl) (m_isOf_f hj hkd) ?_
  refine sy_if_ne 66 dX8_tell_61 (by decide) (fun c61 => by first | exact kd_tf (rfl) c61 | exact kd_ft (rfl) c61 | exact absurd (rfl) c61 | exact absurd c61 (rfl)) (fun c61 => ?_)
  refine ss_iconst (v := nI 0) dX8_tell_64 (by decide) ?_
  exact ss_iret dX8_tell_65 rfl rfl (hQ)
set_option maxHeartbeats 1000000 in
set_option maxRecDepth 100000 in
theorem r_tell_k {c : cx} {d : Nat} {X : nX} {Y : nY} {n : Nat} (hn : n ≤ 10) (h6 : X 105 0 = nI n) {m : Nat} (hm : m ≤ 12) (h7 : X 105 1 = nI m) {j : Nat} (hjm : j < m) {s : Nat} (hs : s < 2 ^ n) {v : Int32} (h0 : s ≠ 0) (hv : wi v.toInt64 (-1000000) 1000000 = true) (hh : X 107 j = bI false) (hkd : X 106 j = nI 0) : sc c mX8_tell (d + 3) [.ref (c_ad c 105), .int (nI j), .int (nI s), .int v] (X) (Y) (some (.int (nI 1))) (up2 X 105 19 (nI 0)) (upl Y 108 (1024 * j + s) v.toInt64) := by
  intro Q hQ
  show ss c mX8_tell (d + 3) Q 0 [(0, .ref (c_ad c 105)), (1, .int (nI j)), (2, .int (nI s)), (3, .int v)] [] (X) (Y)
  have hj : j < 12 := by omega
  have hwj : ix (nI j) m = true := ix_of hjm (by omega)
  have hs9 : ix (nI s) (2 ^ n) = true := ix_of hs (by have := p2_le hn; omega)
  have hs8 := ix_2p hs hn
  refine ss_aload_n dX8_tell_0 0 rfl ?_
  refine ss_iload_n dX8_tell_1 1 rfl ?_
  refine ss_callV (As := [_]) (i := 105) dX8_tell_2 vlX8_157 clX8_isWorth rfl rfl (by omega) (sh_r105 _ _) rfl (Nat.le_of_ble_eq_true rfl) (Nat.le_of_ble_eq_true rfl) (m_isWorth hm h7) ?_
  refine sy_if_eq 16 dX8_tell_5 (by decide) (fun c5 => by first | exact kd_tf (hwj) c5 | exact kd_ft (hwj) c5 | exact absurd (hwj) c5 | exact absurd c5 (hwj)) (fun c5 => ?_)
  refine ss_aload_n dX8_tell_8 0 rfl ?_
  refine ss_iload_n dX8_tell_9 2 rfl ?_
  refine ss_callV (As := [_]) (i := 105) dX8_tell_10 vlX8_160 clX8_isSet rfl rfl (by omega) (sh_r105 _ _) rfl (Nat.le_of_ble_eq_true rfl) (Nat.le_of_ble_eq_true rfl) (m_isSet hn h6) ?_
  refine sy_if_ne 20 dX8_tell_13 (by decide) (fun c13 => ?_) (fun c13 => by first | exact kd_tf (hs9) c13 | exact kd_ft (hs9) c13 | exact absurd (hs9) c13 | exact absurd c13 (hs9))
  refine ss_iload_n dX8_tell_20 2 rfl ?_
  refine sz_if_eq 38 dX8_tell_21 (by decide) (by omega) (fun c21 => by omega) (fun c21 => ?_)
  refine ss_iload_n dX8_tell_24 3 rfl ?_
  refine ss_i2l dX8_tell_25 ?_
  refine ss_ldc2 dX8_tell_26 kcX8_172 ?_
  refine ss_ldc2 dX8_tell_29 kcX8_174 ?_
  refine ss_callS (As := [_, _, _]) dX8_tell_32 vlX8_89 clX8_within rfl rfl (Nat.le_of_ble_eq_true rfl) (Nat.le_of_ble_eq_true rfl) (m_within) ?_
  refine sy_if_ne 42 dX8_tell_35 (by decide) (fun c35 => ?_) (fun c35 => by first | exact kd_tf (hv) c35 | exact kd_ft (hv) c35 | exact absurd (hv) c35 | exact absurd c35 (hv))
  refine ss_aload_n dX8_tell_42 0 rfl ?_
  refine ss_get (i := 105) dX8_tell_43 flX8_13 (by omega) (sh_r105 _ _) rfl ?_
  refine ss_iload_n dX8_tell_46 1 rfl ?_
  refine ss_zald (i := 107) dX8_tell_47 (by omega) (sh_r107) (by omega) (by decide) ?_
  rw [hh]
  refine sy_if_eq 55 dX8_tell_48 (by decide) (fun c48 => ?_) (fun c48 => by first | exact kd_tf (rfl) c48 | exact kd_ft (rfl) c48 | exact absurd (rfl) c48 | exact absurd c48 (rfl))
  refine ss_aload_n dX8_tell_55 0 rfl ?_
  refine ss_iload_n dX8_tell_56 1 rfl ?_
  refine ss_iconst (v := nI 0) dX8_tell_57 (by decide) ?_
  refine ss_callV (As := [_, _]) (i := 105) dX8_tell_58 vlX8_176 clX8_isOf rfl rfl (by omega) (sh_r105 _ _) rfl (Nat.le_of_ble_eq_true rfl) (Nat.le_of_ble_eq_true rfl) (m_isOf_t hj hkd) ?_
  refine sy_if_ne 66 dX8_tell_61 (by decide) (fun c61 => ?_) (fun c61 => by first | exact kd_tf (rfl) c61 | exact kd_ft (rfl) c61 | exact absurd (rfl) c61 | exact absurd c61 (rfl))
  refine ss_aload_n dX8_tell_66 0 rfl ?_
  refine ss_get (i := 105) dX8_tell_67 flX8_17 (by omega) (sh_r105 _ _) rfl ?_
  refine ss_sipush (v := nI 1024) dX8_tell_70 (by decide) ?_
  refine ss_iload_n dX8_tell_73 1 rfl ?_
  refine sz_imul dX8_tell_74 ?_
  refine ss_iload_n dX8_tell_75 2 rfl ?_
  refine sz_iadd dX8_tell_76 ?_
  refine ss_iload_n dX8_tell_77 3 rfl ?_
  refine ss_i2l dX8_tell_78 ?_
  refine ss_last (i := 108) dX8_tell_79 (by omega) (sh_r108) (by omega) (by decide) ?_
  refine ss_iconst (v := nI 1) dX8_tell_80 (by decide) ?_
  exact ss_iret dX8_tell_81 rfl rfl (hQ)
