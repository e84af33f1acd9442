set_option maxHeartbeats 4000000 in
set_option maxRecDepth 100000 in
theorem l_leastValue {c : cx} {d : Nat} {X : nX} {Y : nY} {Q : Option Value → nX → nY → Prop} {w : Nat} (hw : w < 12) {S : Nat} (hS : S ≤ 1024) (hse : X (2 + 7 * w) 7 = nI S) (hQ : Q (some (.long (lmn (Y (3 + 7 * w)) S))) X Y) : ∀ (nn i : Nat), i + nn = S → ss c mX6_leastValue (d + 1) Q 4 [(3, .int (nI i)), (1, .long (lmn (Y (3 + 7 * w)) i)), (0, .ref (c_ad c (2 + 7 * w)))] [] (X) (Y) := by
  intro nn
  induction nn with
  | zero =>
      intro i hin
      simp only [Nat.add_zero] at hin
      subst hin
      refine ss_iload_n dX6_leastValue_4 0 rfl ?_
      refine ss_aload_n dX6_leastValue_5 2 rfl ?_
      refine ss_get (i := 2 + 7 * w) dX6_leastValue_6 flX6_36 (by omega) (sh_w0 hw _ _) rfl ?_
      rw [hse]
      refine sz_icmp_ge 29 dX6_leastValue_9 (by decide) (by omega) (by omega) (fun c9 => ?_) (fun c9 => by omega)
      refine ss_lload_n dX6_leastValue_29 1 rfl ?_
      exact ss_lret dX6_leastValue_30 rfl (hQ)
  | succ nn ih =>
      intro i hin
      refine ss_iload_n dX6_leastValue_4 0 rfl ?_
      refine ss_aload_n dX6_leastValue_5 2 rfl ?_
      refine ss_get (i := 2 + 7 * w) dX6_leastValue_6 flX6_36 (by omega) (sh_w0 hw _ _) rfl ?_
      rw [hse]
      refine sz_icmp_ge 29 dX6_leastValue_9 (by decide) (by omega) (by omega) (fun c9 => by omega) (fun c9 => ?_)
      refine ss_lload_n dX6_leastValue_12 1 rfl ?_
      refine ss_aload_n dX6_leastValue_13 2 rfl ?_
      refine ss_get (i := 2 + 7 * w) dX6_leastValue_14 flX6_9 (by omega) (sh_w0 hw _ _) rfl ?_
      refine ss_iload_n dX6_leastValue_17 0 rfl ?_
      refine ss_lald (i := 3 + 7 * w) dX6_leastValue_18 (by omega) (sh_w1 hw) (by omega) (by decide) ?_
      refine ss_min dX6_leastValue_19 vlX6_81 mh_smin mh_i mh_cmin (Nat.le_of_ble_eq_true rfl) ?_
      refine ss_lstore_n (lv' := [(1, _), (3, _), (0, _)]) dX6_leastValue_22 (by decide) rfl ?_
      refine sz_inc (lv' := [(3, _), (1, _), (0, _)]) dX6_leastValue_23 1 rfl (by decide) rfl ?_
      refine ss_goto 4 dX6_leastValue_26 (by decide) ?_
      exact ih (i + 1) (by omega)
set_option maxHeartbeats 4000000 in
set_option maxRecDepth 100000 in
theorem q_leastValue {c : cx} {d : Nat} {X : nX} {Y : nY} {w : Nat} (hw : w < 12) {S : Nat} (hS : S ≤ 1024) (hse : X (2 + 7 * w) 7 = nI S) : sc c mX6_leastValue (d + 1) [.ref (c_ad c (2 + 7 * w))] X Y (some (.long (lmn (Y (3 + 7 * w)) S))) (X) (Y) := by
  intro Q hQ
  show ss c mX6_leastValue (d + 1) Q 0 [(0, .ref (c_ad c (2 + 7 * w)))] [] X Y
  refine ss_lconst (v := 0) dX6_leastValue_0 (by decide) ?_
  refine ss_lstore_n (lv' := [(1, _), (0, _)]) dX6_leastValue_1 (by decide) rfl ?_
  refine ss_iconst (v := nI 0) dX6_leastValue_2 (by decide) ?_
  refine ss_istore_n (lv' := [(3, _), (1, _), (0, _)]) dX6_leastValue_3 (by decide) rfl ?_
  exact l_leastValue hw hS hse hQ S 0 (by omega)
set_option maxHeartbeats 4000000 in
set_option maxRecDepth 100000 in
theorem l_greatestValue {c : cx} {d : Nat} {X : nX} {Y : nY} {Q : Option Value → nX → nY → Prop} {w : Nat} (hw : w < 12) {S : Nat} (hS : S ≤ 1024) (hse : X (2 + 7 * w) 7 = nI S) {k : Nat} (hk : k < 2 ^ 31) (hQ : Q (some (.long (lmx (fun s => decide (cnt s 10 ≤ k)) (Y (3 + 7 * w)) S))) X Y) : ∀ (nn i : Nat), i + nn = S → ss c mX6_greatestValue (d + 1) Q 5 [(4, .int (nI i)), (2, .long (lmx (fun s => decide (cnt s 10 ≤ k)) (Y (3 + 7 * w)) i)), (0, .ref (c_ad c (2 + 7 * w))), (1, .int (nI k))] [] (X) (Y) := by
  intro nn
  induction nn with
  | zero =>
      intro i hin
      simp only [Nat.add_zero] at hin
      subst hin
      refine ss_iload dX6_greatestValue_5 0 rfl ?_
      refine ss_aload_n dX6_greatestValue_7 2 rfl ?_
      refine ss_get (i := 2 + 7 * w) dX6_greatestValue_8 flX6_36 (by omega) (sh_w0 hw _ _) rfl ?_
      rw [hse]
      refine sz_icmp_ge 41 dX6_greatestValue_11 (by decide) (by omega) (by omega) (fun c11 => ?_) (fun c11 => by omega)
      refine ss_lload_n dX6_greatestValue_41 1 rfl ?_
      exact ss_lret dX6_greatestValue_42 rfl (hQ)
  | succ nn ih =>
      intro i hin
      refine ss_iload dX6_greatestValue_5 0 rfl ?_
      refine ss_aload_n dX6_greatestValue_7 2 rfl ?_
      refine ss_get (i := 2 + 7 * w) dX6_greatestValue_8 flX6_36 (by omega) (sh_w0 hw _ _) rfl ?_
      rw [hse]
      refine sz_icmp_ge 41 dX6_greatestValue_11 (by decide) (by omega) (by omega) (fun c11 => by omega) (fun c11 => ?_)
      refine ss_iload dX6_greatestValue_14 0 rfl ?_
      refine ss_callS (As := [_]) dX6_greatestValue_16 vlX6_57 clJ6_bitCount_0f7a4 rfl rfl (Nat.le_of_ble_eq_true rfl) (Nat.le_of_ble_eq_true rfl) (q_bitCount (by omega)) ?_
      refine ss_iload_n dX6_greatestValue_19 3 rfl ?_
      refine sz_icmp_gt 35 dX6_greatestValue_20 (by decide) (by have := cnt_le i 10; omega) (by omega) (fun c20 => ?_) (fun c20 => ?_)
      · skip
        refine sz_inc (lv' := [(4, _), (2, _), (0, _), (1, _)]) dX6_greatestValue_35 0 rfl (by decide) rfl ?_
        refine ss_goto 5 dX6_greatestValue_38 (by decide) ?_
        have e9 : lmx (fun s => decide (cnt s 10 ≤ k)) (Y (3 + 7 * w)) (i + 1) = lmx (fun s => decide (cnt s 10 ≤ k)) (Y (3 + 7 * w)) i := by
          show (if decide (cnt i 10 ≤ k) = true then _ else _) = _
          rw [if_neg (by simp; omega)]
        rw [← e9]
        exact ih (i + 1) (by omega)
      · skip
        refine ss_lload_n dX6_greatestValue_23 1 rfl ?_
        refine ss_aload_n dX6_greatestValue_24 2 rfl ?_
        refine ss_get (i := 2 + 7 * w) dX6_greatestValue_25 flX6_9 (by omega) (sh_w0 hw _ _) rfl ?_
        refine ss_iload dX6_greatestValue_28 0 rfl ?_
        refine ss_lald (i := 3 + 7 * w) dX6_greatestValue_30 (by omega) (sh_w1 hw) (by omega) (by decide) ?_
        refine ss_max dX6_greatestValue_31 vlX6_66 mh_smax mh_i mh_cmax (Nat.le_of_ble_eq_true rfl) ?_
        refine ss_lstore_n (lv' := [(2, _), (4, _), (0, _), (1, _)]) dX6_greatestValue_34 (by decide) rfl ?_
        refine sz_inc (lv' := [(4, _), (2, _), (0, _), (1, _)]) dX6_greatestValue_35 1 rfl (by decide) rfl ?_
        refine ss_goto 5 dX6_greatestValue_38 (by decide) ?_
        have e9 : lmx (fun s => decide (cnt s 10 ≤ k)) (Y (3 + 7 * w)) (i + 1) = (if Y (3 + 7 * w) i < lmx (fun s => decide (cnt s 10 ≤ k)) (Y (3 + 7 * w)) i then lmx (fun s => decide (cnt s 10 ≤ k)) (Y (3 + 7 * w)) i else Y (3 + 7 * w) i) := by
          show (if decide (cnt i 10 ≤ k) = true then _ else _) = _
          rw [if_pos (by simp; omega)]
        rw [← e9]
        exact ih (i + 1) (by omega)
set_option maxHeartbeats 4000000 in
set_option maxRecDepth 100000 in
theorem q_greatestValue {c : cx} {d : Nat} {X : nX} {Y : nY} {w : Nat} (hw : w < 12) {S : Nat} (hS : S ≤ 1024) (hse : X (2 + 7 * w) 7 = nI S) {k : Nat} (hk : k < 2 ^ 31) : sc c mX6_greatestValue (d + 1) [.ref (c_ad c (2 + 7 * w)), .int (nI k)] X Y (some (.long (lmx (fun s => decide (cnt s 10 ≤ k)) (Y (3 + 7 * w)) S))) (X) (Y) := by
  intro Q hQ
  show ss c mX6_greatestValue (d + 1) Q 0 [(0, .ref (c_ad c (2 + 7 * w))), (1, .int (nI k))] [] X Y
  refine ss_lconst (v := 0) dX6_greatestValue_0 (by decide) ?_
  refine ss_lstore_n (lv' := [(2, _), (0, _), (1, _)]) dX6_greatestValue_1 (by decide) rfl ?_
  refine ss_iconst (v := nI 0) dX6_greatestValue_2 (by decide) ?_
  refine ss_istore (lv' := [(4, _), (2, _), (0, _), (1, _)]) dX6_greatestValue_3 (by decide) rfl ?_
  exact l_greatestValue hw hS hse hk hQ S 0 (by omega)
set_option maxHeartbeats 4000000 in
set_option maxRecDepth 100000 in
theorem q_piecesAs {c : cx} {d : Nat} {X : nX} {Y : nY} {w : Nat} (hw : w < 12) {k : Int32} : sc c mX6_piecesAs d [.ref (c_ad c (2 + 7 * w)), .int k] X Y (some (.int (if X (2 + 7 * w) 5 = k then X (2 + 7 * w) 8 else 0))) (X) (Y) := by
  intro Q hQ
  show ss c mX6_piecesAs d Q 0 [(0, .ref (c_ad c (2 + 7 * w))), (1, .int k)] [] X Y
  refine ss_aload_n dX6_piecesAs_0 0 rfl ?_
  refine ss_get (i := 2 + 7 * w) dX6_piecesAs_1 flX6_29 (by omega) (sh_w0 hw _ _) rfl ?_
  refine ss_iload_n dX6_piecesAs_4 1 rfl ?_
  refine ss_icmp_ne 15 dX6_piecesAs_5 (by decide) (fun c5 => ?_) (fun c5 => ?_)
  · skip
    refine ss_iconst (v := nI 0) dX6_piecesAs_15 (by decide) ?_
    exact ss_iret dX6_piecesAs_16 rfl rfl (cvi (by first | rw [if_pos c5] | (rw [if_neg c5]; rfl)) hQ)
  · skip
    refine ss_aload_n dX6_piecesAs_8 0 rfl ?_
    refine ss_get (i := 2 + 7 * w) dX6_piecesAs_9 flX6_43 (by omega) (sh_w0 hw _ _) rfl ?_
    refine ss_goto 16 dX6_piecesAs_12 (by decide) ?_
    exact ss_iret dX6_piecesAs_16 rfl rfl (cvi (by first | rw [if_pos c5] | (rw [if_neg c5]; rfl)) hQ)
def x_begin0 (X : nX) (w : Nat) (k : Int32) (n : Nat) : nX := up2 (up2 (up2 (up2 (up2 X (2 + 7 * w) 5 k) (2 + 7 * w) 6 (nI n)) (2 + 7 * w) 7 (nI (2 ^ n))) (2 + 7 * w) 4 (nI 0)) (2 + 7 * w) 8 (nI 0)
def x_begin (X : nX) (w : Nat) (k : Int32) (n : Nat) : nX := mpx (mpx (x_begin0 X w k n) (5 + 7 * w) 0 40 (fun _ => nI 0)) (8 + 7 * w) 0 10 (fun _ => nI 0)
def y_begin (Y : nY) (w n : Nat) : nY := mpl Y (3 + 7 * w) 0 (2 ^ n) (fun _ => 0)
set_option maxHeartbeats 4000000 in
set_option maxRecDepth 100000 in
theorem l_clear {c : cx} {d : Nat} {X : nX} {Y : nY} {Q : Option Value → nX → nY → Prop} {w : Nat} (hw : w < 12) (hQ : Q none (mpx X (5 + 7 * w) 0 40 (fun _ => nI 0)) Y) : ∀ (nn i : Nat), i + nn = 40 → ss c mX3_clear d Q 2 [(1, .int (nI i)), (0, .ref (c_ad c (4 + 7 * w)))] [] (mpx X (5 + 7 * w) 0 i (fun _ => nI 0)) (Y) := by
  intro nn
  induction nn with
  | zero =>
      intro i hin
      simp only [Nat.add_zero] at hin
      subst hin
      refine ss_iload_n dX3_clear_2 0 rfl ?_
      refine ss_bipush (v := nI 40) dX3_clear_3 (by decide) ?_
      refine sz_icmp_ge 21 dX3_clear_5 (by decide) (by omega) (by omega) (fun c5 => ?_) (fun c5 => by omega)
      exact ss_vret dX3_clear_21 rfl (hQ)
  | succ nn ih =>
      intro i hin
      refine ss_iload_n dX3_clear_2 0 rfl ?_
      refine ss_bipush (v := nI 40) dX3_clear_3 (by decide) ?_
      refine sz_icmp_ge 21 dX3_clear_5 (by decide) (by omega) (by omega) (fun c5 => by omega) (fun c5 => ?_)
      refine ss_aload_n dX3_clear_8 1 rfl ?_
      refine ss_get (i := 4 + 7 * w) dX3_clear_9 flX3_9 (by omega) (sh_w2 hw _ _) rfl ?_
      refine ss_iload_n dX3_clear_12 0 rfl ?_
      refine ss_iconst (v := nI 0) dX3_clear_13 (by decide) ?_
      refine ss_iast (i := 5 + 7 * w) dX3_clear_14 (by omega) (sh_w3 hw) (by omega) (by decide) ?_
      refine sz_inc (lv' := [(1, _), (0, _)]) dX3_clear_15 0 rfl (by decide) rfl ?_
      refine ss_goto 2 dX3_clear_18 (by decide) ?_
      refine ss_eX (mpx_s (Nat.zero_le _) rfl) ?_
      exact ih (i + 1) (by omega)
set_option maxHeartbeats 4000000 in
set_option maxRecDepth 100000 in
theorem q_clear {c : cx} {d : Nat} {X : nX} {Y : nY} {w : Nat} (hw : w < 12) : sc c mX3_clear d [.ref (c_ad c (4 + 7 * w))] X Y none (mpx X (5 + 7 * w) 0 40 (fun _ => nI 0)) (Y) := by
  intro Q hQ
  show ss c mX3_clear d Q 0 [(0, .ref (c_ad c (4 + 7 * w)))] [] X Y
  refine ss_iconst (v := nI 0) dX3_clear_0 (by decide) ?_
  refine ss_istore_n (lv' := [(1, _), (0, _)]) dX3_clear_1 (by decide) rfl ?_
  have h9 := l_clear (X := X) (Y := Y) (c := c) (d := d) hw hQ 40 0 (by omega)
  rw [mpx_0] at h9
  exact h9
set_option maxHeartbeats 4000000 in
set_option maxRecDepth 100000 in
theorem l_begin2 {c : cx} {d : Nat} {X : nX} {Y : nY} {Q : Option Value → nX → nY → Prop} {w : Nat} (hw : w < 12) {k : Int32} {m : Nat} (hQ : Q none (mpx X (8 + 7 * w) 0 10 (fun _ => nI 0)) Y) : ∀ (nn i : Nat), i + nn = 10 → ss c mX6_begin (d + 1) Q 59 [(3, .int (nI i)), (0, .ref (c_ad c (2 + 7 * w))), (1, .int k), (2, .int (nI m))] [] (mpx X (8 + 7 * w) 0 i (fun _ => nI 0)) (Y) := by
  intro nn
  induction nn with
  | zero =>
      intro i hin
      simp only [Nat.add_zero] at hin
      subst hin
      refine ss_iload_n dX6_begin_59 0 rfl ?_
      refine ss_bipush (v := nI 10) dX6_begin_60 (by decide) ?_
      refine sz_icmp_ge 78 dX6_begin_62 (by decide) (by omega) (by omega) (fun c62 => ?_) (fun c62 => by omega)
      exact ss_vret dX6_begin_78 rfl (hQ)
  | succ nn ih =>
      intro i hin
      refine ss_iload_n dX6_begin_59 0 rfl ?_
      refine ss_bipush (v := nI 10) dX6_begin_60 (by decide) ?_
      refine sz_icmp_ge 78 dX6_begin_62 (by decide) (by omega) (by omega) (fun c62 => by omega) (fun c62 => ?_)
      refine ss_aload_n dX6_begin_65 1 rfl ?_
      refine ss_get (i := 2 + 7 * w) dX6_begin_66 flX6_26 (by omega) (sh_w0 hw _ _) rfl ?_
      refine ss_iload_n dX6_begin_69 0 rfl ?_
      refine ss_iconst (v := nI 0) dX6_begin_70 (by decide) ?_
      refine ss_iast (i := 8 + 7 * w) dX6_begin_71 (by omega) (sh_w6 hw) (by omega) (by decide) ?_
      refine sz_inc (lv' := [(3, _), (0, _), (1, _), (2, _)]) dX6_begin_72 0 rfl (by decide) rfl ?_
      refine ss_goto 59 dX6_begin_75 (by decide) ?_
      refine ss_eX (mpx_s (Nat.zero_le _) rfl) ?_
      exact ih (i + 1) (by omega)
set_option maxHeartbeats 4000000 in
set_option maxRecDepth 100000 in
theorem l_begin1 {c : cx} {d : Nat} {X : nX} {Y : nY} {Q : Option Value → nX → nY → Prop} {w : Nat} (hw : w < 12) {k : Int32} {m : Nat} {S : Nat} (hS : S ≤ 1024) (hse : X (2 + 7 * w) 7 = nI S) (hQ : Q none (mpx (mpx X (5 + 7 * w) 0 40 (fun _ => nI 0)) (8 + 7 * w) 0 10 (fun _ => nI 0)) (mpl Y (3 + 7 * w) 0 S (fun _ => 0))) : ∀ (nn i : Nat), i + nn = S → ss c mX6_begin (d + 1) Q 29 [(3, .int (nI i)), (0, .ref (c_ad c (2 + 7 * w))), (1, .int k), (2, .int (nI m))] [] (X) (mpl Y (3 + 7 * w) 0 i (fun _ => 0)) := by
  intro nn
  induction nn with
  | zero =>
      intro i hin
      simp only [Nat.add_zero] at hin
      subst hin
      refine ss_iload_n dX6_begin_29 0 rfl ?_
      refine ss_aload_n dX6_begin_30 1 rfl ?_
      refine ss_get (i := 2 + 7 * w) dX6_begin_31 flX6_36 (by omega) (sh_w0 hw _ _) rfl ?_
      rw [hse]
      refine sz_icmp_ge 50 dX6_begin_34 (by decide) (by omega) (by omega) (fun c34 => ?_) (fun c34 => by omega)
      refine ss_aload_n dX6_begin_50 1 rfl ?_
      refine ss_get (i := 2 + 7 * w) dX6_begin_51 flX6_18 (by omega) (sh_w0 hw _ _) rfl ?_
      refine ss_callV (As := []) (i := 4 + 7 * w) dX6_begin_54 vlX6_46 clX3_clear rfl rfl (by omega) (sh_w2 hw _ _) rfl (Nat.le_of_ble_eq_true rfl) (Nat.le_of_ble_eq_true rfl) (q_clear hw) ?_
      refine ss_iconst (v := nI 0) dX6_begin_57 (by decide) ?_
      refine ss_istore_n (lv' := [(3, _), (0, _), (1, _), (2, _)]) dX6_begin_58 (by decide) rfl ?_
      have h9 := l_begin2 (X := mpx X (5 + 7 * w) 0 40 (fun _ => nI 0)) (k := k) (m := m) (c := c) (d := d) hw hQ 10 0 (by omega)
      rw [mpx_0] at h9
      exact h9
  | succ nn ih =>
      intro i hin
      refine ss_iload_n dX6_begin_29 0 rfl ?_
      refine ss_aload_n dX6_begin_30 1 rfl ?_
      refine ss_get (i := 2 + 7 * w) dX6_begin_31 flX6_36 (by omega) (sh_w0 hw _ _) rfl ?_
      rw [hse]
      refine sz_icmp_ge 50 dX6_begin_34 (by decide) (by omega) (by omega) (fun c34 => by omega) (fun c34 => ?_)
      refine ss_aload_n dX6_begin_37 1 rfl ?_
      refine ss_get (i := 2 + 7 * w) dX6_begin_38 flX6_9 (by omega) (sh_w0 hw _ _) rfl ?_
      refine ss_iload_n dX6_begin_41 0 rfl ?_
      refine ss_lconst (v := 0) dX6_begin_42 (by decide) ?_
      refine ss_last (i := 3 + 7 * w) dX6_begin_43 (by omega) (sh_w1 hw) (by omega) (by decide) ?_
      refine sz_inc (lv' := [(3, _), (0, _), (1, _), (2, _)]) dX6_begin_44 0 rfl (by decide) rfl ?_
      refine ss_goto 29 dX6_begin_47 (by decide) ?_
      refine ss_eY (mpl_s (Nat.zero_le _) rfl) ?_
      exact ih (i + 1) (by omega)
set_option maxHeartbeats 4000000 in
set_option maxRecDepth 100000 in
theorem q_begin {c : cx} {d : Nat} {X : nX} {Y : nY} {w : Nat} (hw : w < 12) {k : Int32} {n : Nat} (hn : n ≤ 10) : sc c mX6_begin (d + 1) [.ref (c_ad c (2 + 7 * w)), .int k, .int (nI n)] X Y none (x_begin X w k n) (y_begin Y w n) := by
  intro Q hQ
  show ss c mX6_begin (d + 1) Q 0 [(0, .ref (c_ad c (2 + 7 * w))), (1, .int k), (2, .int (nI n))] [] X Y
  refine ss_aload_n dX6_begin_0 0 rfl ?_
  refine ss_iload_n dX6_begin_1 1 rfl ?_
  refine ss_put (i := 2 + 7 * w) dX6_begin_2 fwX6_29 (by omega) (sh_w0 hw _ _) rfl rfl (Nat.le_of_ble_eq_true rfl) (sh_w0 hw _ _) ?_
  refine ss_aload_n dX6_begin_5 0 rfl ?_
  refine ss_iload_n dX6_begin_6 2 rfl ?_
  refine ss_put (i := 2 + 7 * w) dX6_begin_7 fwX6_33 (by omega) (sh_w0 hw _ _) rfl rfl (Nat.le_of_ble_eq_true rfl) (sh_w0 hw _ _) ?_
  refine ss_aload_n dX6_begin_10 0 rfl ?_
  refine ss_iconst (v := nI 1) dX6_begin_11 (by decide) ?_
  refine ss_iload_n dX6_begin_12 2 rfl ?_
  refine sz_shl1 dX6_begin_13 (by omega) ?_
  refine ss_put (i := 2 + 7 * w) dX6_begin_14 fwX6_36 (by omega) (sh_w0 hw _ _) rfl rfl (Nat.le_of_ble_eq_true rfl) (sh_w0 hw _ _) ?_
  refine ss_aload_n dX6_begin_17 0 rfl ?_
  refine ss_iconst (v := nI 0) dX6_begin_18 (by decide) ?_
  refine ss_put (i := 2 + 7 * w) dX6_begin_19 fwX6_39 (by omega) (sh_w0 hw _ _) rfl rfl (Nat.le_of_ble_eq_true rfl) (sh_w0 hw _ _) ?_
  refine ss_aload_n dX6_begin_22 0 rfl ?_
  refine ss_iconst (v := nI 0) dX6_begin_23 (by decide) ?_
  refine ss_put (i := 2 + 7 * w) dX6_begin_24 fwX6_43 (by omega) (sh_w0 hw _ _) rfl rfl (Nat.le_of_ble_eq_true rfl) (sh_w0 hw _ _) ?_
  refine ss_iconst (v := nI 0) dX6_begin_27 (by decide) ?_
  refine ss_istore_n (lv' := [(3, _), (0, _), (1, _), (2, _)]) dX6_begin_28 (by decide) rfl ?_
  have h9 := l_begin1 (X := x_begin0 X w k n) (Y := Y) (k := k) (m := n) (c := c) (d := d) hw (Nat.pow_le_pow_right (by decide) hn) (by simp [x_begin0, up2_at]) hQ (2 ^ n) 0 (by omega)
  rw [mpl_0] at h9
  exact h9
