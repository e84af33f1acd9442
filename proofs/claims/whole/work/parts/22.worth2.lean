def f_line (Y : nY) (w a b : Nat) (v : Int32) : Nat → Int64 := fun k => if hb k a = true ∧ hb k b = false then Y (3 + 7 * w) k + v.toInt64 else Y (3 + 7 * w) k
set_option maxHeartbeats 4000000 in
set_option maxRecDepth 100000 in
theorem l_takeLine {c : cx} {d : Nat} {X : nX} {Y : nY} {Q : Option Value → nX → nY → Prop} {w : Nat} (hw : w < 12) {S : Nat} (hS : S ≤ 1024) (hse : X (2 + 7 * w) 7 = nI S) {a b : Nat} (ha : a < 32) (hb0 : b < 32) {v : Int32} (hQ : Q none (X) (mpl Y (3 + 7 * w) 0 S (f_line Y w a b v))) : ∀ (nn i : Nat), i + nn = S → ss c mX6_takeLine (d + 1) Q 13 [(4, .int (nI i)), (0, .ref (c_ad c (2 + 7 * w))), (1, .int (nI a)), (2, .int (nI b)), (3, .int v)] [] (X) (mpl Y (3 + 7 * w) 0 i (f_line Y w a b v)) := by
  intro nn
  induction nn with
  | zero =>
      intro i hin
      simp only [Nat.add_zero] at hin
      subst hin
      refine ss_iload dX6_takeLine_13 0 rfl ?_
      refine ss_aload_n dX6_takeLine_15 1 rfl ?_
      refine ss_get (i := 2 + 7 * w) dX6_takeLine_16 flX6_36 (by omega) (sh_w0 hw _ _) rfl ?_
      rw [hse]
      refine sz_icmp_ge 58 dX6_takeLine_19 (by decide) (by omega) (by omega) (fun c19 => ?_) (fun c19 => by omega)
      exact ss_vret dX6_takeLine_58 rfl (hQ)
  | succ nn ih =>
      intro i hin
      refine ss_iload dX6_takeLine_13 0 rfl ?_
      refine ss_aload_n dX6_takeLine_15 1 rfl ?_
      refine ss_get (i := 2 + 7 * w) dX6_takeLine_16 flX6_36 (by omega) (sh_w0 hw _ _) rfl ?_
      rw [hse]
      refine sz_icmp_ge 58 dX6_takeLine_19 (by decide) (by omega) (by omega) (fun c19 => by omega) (fun c19 => ?_)
      refine ss_iload dX6_takeLine_22 0 rfl ?_
      refine ss_iload_n dX6_takeLine_24 2 rfl ?_
      refine ss_callSN (As := [_, _]) dX6_takeLine_25 vlX6_49 clX7_hasThing rfl rfl (Nat.le_of_ble_eq_true rfl) (Nat.le_of_ble_eq_true rfl) (q_hasThing (by omega) ha) ?_
      refine sy_if_eq 52 dX6_takeLine_28 (by decide) (fun c28 => ?_) (fun c28 => ?_)
      · skip
        refine sz_inc (lv' := [(4, _), (0, _), (1, _), (2, _), (3, _)]) dX6_takeLine_52 0 rfl (by decide) rfl ?_
        refine ss_goto 13 dX6_takeLine_55 (by decide) ?_
        refine ss_eY (mpl_k ?_) ?_
        · simp [f_line, *]
        exact ih (i + 1) (by omega)
      · skip
        refine ss_iload dX6_takeLine_31 0 rfl ?_
        refine ss_iload_n dX6_takeLine_33 3 rfl ?_
        refine ss_callSN (As := [_, _]) dX6_takeLine_34 vlX6_49 clX7_hasThing rfl rfl (Nat.le_of_ble_eq_true rfl) (Nat.le_of_ble_eq_true rfl) (q_hasThing (by omega) hb0) ?_
        refine sy_if_ne 52 dX6_takeLine_37 (by decide) (fun c37 => ?_) (fun c37 => ?_)
        · skip
          refine sz_inc (lv' := [(4, _), (0, _), (1, _), (2, _), (3, _)]) dX6_takeLine_52 0 rfl (by decide) rfl ?_
          refine ss_goto 13 dX6_takeLine_55 (by decide) ?_
          refine ss_eY (mpl_k ?_) ?_
          · simp [f_line, *]
          exact ih (i + 1) (by omega)
        · skip
          refine ss_aload_n dX6_takeLine_40 1 rfl ?_
          refine ss_get (i := 2 + 7 * w) dX6_takeLine_41 flX6_9 (by omega) (sh_w0 hw _ _) rfl ?_
          refine ss_iload dX6_takeLine_44 0 rfl ?_
          refine ss_dup2 dX6_takeLine_46 rfl rfl ?_
          refine ss_lald (i := 3 + 7 * w) dX6_takeLine_47 (by omega) (sh_w1 hw) (by omega) (by decide) ?_
          rw [mpl_at]
          refine ss_iload_n dX6_takeLine_48 4 rfl ?_
          refine ss_i2l dX6_takeLine_49 ?_
          refine ss_ladd dX6_takeLine_50 ?_
          refine ss_last (i := 3 + 7 * w) dX6_takeLine_51 (by omega) (sh_w1 hw) (by omega) (by decide) ?_
          refine sz_inc (lv' := [(4, _), (0, _), (1, _), (2, _), (3, _)]) dX6_takeLine_52 0 rfl (by decide) rfl ?_
          refine ss_goto 13 dX6_takeLine_55 (by decide) ?_
          refine ss_eY (mpl_s (Nat.zero_le _) ?_) ?_
          · simp [f_line, *]
          exact ih (i + 1) (by omega)
set_option maxHeartbeats 4000000 in
set_option maxRecDepth 100000 in
theorem q_takeLine {c : cx} {d : Nat} {X : nX} {Y : nY} {w : Nat} (hw : w < 12) {S : Nat} (hS : S ≤ 1024) (hse : X (2 + 7 * w) 7 = nI S) {a b : Nat} (ha : a < 32) (hb0 : b < 32) {v : Int32} : sc c mX6_takeLine (d + 1) [.ref (c_ad c (2 + 7 * w)), .int (nI a), .int (nI b), .int v] X Y none (up2 X (2 + 7 * w) 8 (X (2 + 7 * w) 8 + nI 1)) (mpl Y (3 + 7 * w) 0 S (f_line Y w a b v)) := by
  intro Q hQ
  show ss c mX6_takeLine (d + 1) Q 0 [(0, .ref (c_ad c (2 + 7 * w))), (1, .int (nI a)), (2, .int (nI b)), (3, .int v)] [] X Y
  refine ss_aload_n dX6_takeLine_0 0 rfl ?_
  refine ss_dup dX6_takeLine_1 rfl ?_
  refine ss_get (i := 2 + 7 * w) dX6_takeLine_2 flX6_43 (by omega) (sh_w0 hw _ _) rfl ?_
  refine ss_iconst (v := nI 1) dX6_takeLine_5 (by decide) ?_
  refine ss_iadd dX6_takeLine_6 ?_
  refine ss_put (i := 2 + 7 * w) dX6_takeLine_7 fwX6_43 (by omega) (sh_w0 hw _ _) rfl rfl (Nat.le_of_ble_eq_true rfl) (sh_w0 hw _ _) ?_
  refine ss_iconst (v := nI 0) dX6_takeLine_10 (by decide) ?_
  refine ss_istore (lv' := [(4, _), (0, _), (1, _), (2, _), (3, _)]) dX6_takeLine_11 (by decide) rfl ?_
  have h9 := l_takeLine (X := up2 X (2 + 7 * w) 8 (X (2 + 7 * w) 8 + nI 1)) (Y := Y) (c := c) (d := d) hw hS (by simp [up2_at, hse]) ha hb0 hQ S 0 (by omega)
  rw [mpl_0] at h9
  exact h9
def f_spot (Y : nY) (w : Nat) (v : Int32) (m : Nat) : Nat → Int64 := fun k => if k &&& m = 0 then Y (3 + 7 * w) k else Y (3 + 7 * w) k + v.toInt64
set_option maxHeartbeats 4000000 in
set_option maxRecDepth 100000 in
theorem l_takeSpot {c : cx} {d : Nat} {X : nX} {Y : nY} {Q : Option Value → nX → nY → Prop} {w : Nat} (hw : w < 12) {S : Nat} (hS : S ≤ 1024) (hse : X (2 + 7 * w) 7 = nI S) {v : Int32} {m : Nat} (hQ : Q none (X) (mpl Y (3 + 7 * w) 0 S (f_spot Y w v m))) : ∀ (nn i : Nat), i + nn = S → ss c mX6_takeSpot d Q 12 [(3, .int (nI i)), (0, .ref (c_ad c (2 + 7 * w))), (1, .int v), (2, .int (nI m))] [] (X) (mpl Y (3 + 7 * w) 0 i (f_spot Y w v m)) := by
  intro nn
  induction nn with
  | zero =>
      intro i hin
      simp only [Nat.add_zero] at hin
      subst hin
      refine ss_iload_n dX6_takeSpot_12 0 rfl ?_
      refine ss_aload_n dX6_takeSpot_13 1 rfl ?_
      refine ss_get (i := 2 + 7 * w) dX6_takeSpot_14 flX6_36 (by omega) (sh_w0 hw _ _) rfl ?_
      rw [hse]
      refine sz_icmp_ge 43 dX6_takeSpot_17 (by decide) (by omega) (by omega) (fun c17 => ?_) (fun c17 => by omega)
      exact ss_vret dX6_takeSpot_43 rfl (hQ)
  | succ nn ih =>
      intro i hin
      refine ss_iload_n dX6_takeSpot_12 0 rfl ?_
      refine ss_aload_n dX6_takeSpot_13 1 rfl ?_
      refine ss_get (i := 2 + 7 * w) dX6_takeSpot_14 flX6_36 (by omega) (sh_w0 hw _ _) rfl ?_
      rw [hse]
      refine sz_icmp_ge 43 dX6_takeSpot_17 (by decide) (by omega) (by omega) (fun c17 => by omega) (fun c17 => ?_)
      refine ss_iload_n dX6_takeSpot_20 0 rfl ?_
      refine ss_iload_n dX6_takeSpot_21 3 rfl ?_
      refine sz_iand dX6_takeSpot_22 ?_
      refine sz_if_eq 37 dX6_takeSpot_23 (by decide) (by have := Nat.and_le_left (n := i) (m := m); omega) (fun c23 => ?_) (fun c23 => ?_)
      · skip
        refine sz_inc (lv' := [(3, _), (0, _), (1, _), (2, _)]) dX6_takeSpot_37 0 rfl (by decide) rfl ?_
        refine ss_goto 12 dX6_takeSpot_40 (by decide) ?_
        refine ss_eY (mpl_k ?_) ?_
        · simp [f_spot, *]
        exact ih (i + 1) (by omega)
      · skip
        refine ss_aload_n dX6_takeSpot_26 1 rfl ?_
        refine ss_get (i := 2 + 7 * w) dX6_takeSpot_27 flX6_9 (by omega) (sh_w0 hw _ _) rfl ?_
        refine ss_iload_n dX6_takeSpot_30 0 rfl ?_
        refine ss_dup2 dX6_takeSpot_31 rfl rfl ?_
        refine ss_lald (i := 3 + 7 * w) dX6_takeSpot_32 (by omega) (sh_w1 hw) (by omega) (by decide) ?_
        rw [mpl_at]
        refine ss_iload_n dX6_takeSpot_33 2 rfl ?_
        refine ss_i2l dX6_takeSpot_34 ?_
        refine ss_ladd dX6_takeSpot_35 ?_
        refine ss_last (i := 3 + 7 * w) dX6_takeSpot_36 (by omega) (sh_w1 hw) (by omega) (by decide) ?_
        refine sz_inc (lv' := [(3, _), (0, _), (1, _), (2, _)]) dX6_takeSpot_37 0 rfl (by decide) rfl ?_
        refine ss_goto 12 dX6_takeSpot_40 (by decide) ?_
        refine ss_eY (mpl_s (Nat.zero_le _) ?_) ?_
        · simp [f_spot, *]
        exact ih (i + 1) (by omega)
set_option maxHeartbeats 4000000 in
set_option maxRecDepth 100000 in
theorem q_takeSpot {c : cx} {d : Nat} {X : nX} {Y : nY} {w : Nat} (hw : w < 12) {S : Nat} (hS : S ≤ 1024) (hse : X (2 + 7 * w) 7 = nI S) {v : Int32} {m : Nat} : sc c mX6_takeSpot d [.ref (c_ad c (2 + 7 * w)), .int v, .int (nI m)] X Y none (up2 X (2 + 7 * w) 8 (X (2 + 7 * w) 8 + nI 1)) (mpl Y (3 + 7 * w) 0 S (f_spot Y w v m)) := by
  intro Q hQ
  show ss c mX6_takeSpot d Q 0 [(0, .ref (c_ad c (2 + 7 * w))), (1, .int v), (2, .int (nI m))] [] X Y
  refine ss_aload_n dX6_takeSpot_0 0 rfl ?_
  refine ss_dup dX6_takeSpot_1 rfl ?_
  refine ss_get (i := 2 + 7 * w) dX6_takeSpot_2 flX6_43 (by omega) (sh_w0 hw _ _) rfl ?_
  refine ss_iconst (v := nI 1) dX6_takeSpot_5 (by decide) ?_
  refine ss_iadd dX6_takeSpot_6 ?_
  refine ss_put (i := 2 + 7 * w) dX6_takeSpot_7 fwX6_43 (by omega) (sh_w0 hw _ _) rfl rfl (Nat.le_of_ble_eq_true rfl) (sh_w0 hw _ _) ?_
  refine ss_iconst (v := nI 0) dX6_takeSpot_10 (by decide) ?_
  refine ss_istore_n (lv' := [(3, _), (0, _), (1, _), (2, _)]) dX6_takeSpot_11 (by decide) rfl ?_
  have h9 := l_takeSpot (X := up2 X (2 + 7 * w) 8 (X (2 + 7 * w) 8 + nI 1)) (Y := Y) (c := c) (d := d) hw hS (by simp [up2_at, hse]) hQ S 0 (by omega)
  rw [mpl_0] at h9
  exact h9
set_option maxHeartbeats 4000000 in
set_option maxRecDepth 100000 in
theorem l_sumOfRises {c : cx} {d : Nat} {X : nX} {Y : nY} {Q : Option Value → nX → nY → Prop} {w : Nat} (hw : w < 12) {m : Nat} (hm : m ≤ 10) (hQ : Q (some (.long (lsr (X (7 + 7 * w)) m))) X Y) : ∀ (nn i : Nat), i + nn = m → ss c mX6_sumOfRises d Q 5 [(4, .int (nI i)), (2, .long (lsr (X (7 + 7 * w)) i)), (0, .ref (c_ad c (2 + 7 * w))), (1, .int (nI m))] [] (X) (Y) := by
  intro nn
  induction nn with
  | zero =>
      intro i hin
      simp only [Nat.add_zero] at hin
      subst hin
      refine ss_iload dX6_sumOfRises_5 0 rfl ?_
      refine ss_iload_n dX6_sumOfRises_7 3 rfl ?_
      refine sz_icmp_ge 35 dX6_sumOfRises_8 (by decide) (by omega) (by omega) (fun c8 => ?_) (fun c8 => by omega)
      refine ss_lload_n dX6_sumOfRises_35 1 rfl ?_
      exact ss_lret dX6_sumOfRises_36 rfl (hQ)
  | succ nn ih =>
      intro i hin
      refine ss_iload dX6_sumOfRises_5 0 rfl ?_
      refine ss_iload_n dX6_sumOfRises_7 3 rfl ?_
      refine sz_icmp_ge 35 dX6_sumOfRises_8 (by decide) (by omega) (by omega) (fun c8 => by omega) (fun c8 => ?_)
      refine ss_iload dX6_sumOfRises_11 0 rfl ?_
      refine ss_bipush (v := nI 10) dX6_sumOfRises_13 (by decide) ?_
      refine sz_icmp_ge 35 dX6_sumOfRises_15 (by decide) (by omega) (by omega) (fun c15 => by omega) (fun c15 => ?_)
      refine ss_lload_n dX6_sumOfRises_18 1 rfl ?_
      refine ss_aload_n dX6_sumOfRises_19 2 rfl ?_
      refine ss_get (i := 2 + 7 * w) dX6_sumOfRises_20 flX6_22 (by omega) (sh_w0 hw _ _) rfl ?_
      refine ss_iload dX6_sumOfRises_23 0 rfl ?_
      refine ss_iald (i := 7 + 7 * w) dX6_sumOfRises_25 (by omega) (sh_w5 hw) (by omega) (by decide) ?_
      refine ss_i2l dX6_sumOfRises_26 ?_
      refine ss_ladd dX6_sumOfRises_27 ?_
      refine ss_lstore_n (lv' := [(2, _), (4, _), (0, _), (1, _)]) dX6_sumOfRises_28 (by decide) rfl ?_
      refine sz_inc (lv' := [(4, _), (2, _), (0, _), (1, _)]) dX6_sumOfRises_29 1 rfl (by decide) rfl ?_
      refine ss_goto 5 dX6_sumOfRises_32 (by decide) ?_
      exact ih (i + 1) (by omega)
set_option maxHeartbeats 4000000 in
set_option maxRecDepth 100000 in
theorem q_sumOfRises {c : cx} {d : Nat} {X : nX} {Y : nY} {w : Nat} (hw : w < 12) {m : Nat} (hm : m ≤ 10) : sc c mX6_sumOfRises d [.ref (c_ad c (2 + 7 * w)), .int (nI m)] X Y (some (.long (lsr (X (7 + 7 * w)) m))) (X) (Y) := by
  intro Q hQ
  show ss c mX6_sumOfRises d Q 0 [(0, .ref (c_ad c (2 + 7 * w))), (1, .int (nI m))] [] X Y
  refine ss_lconst (v := 0) dX6_sumOfRises_0 (by decide) ?_
  refine ss_lstore_n (lv' := [(2, _), (0, _), (1, _)]) dX6_sumOfRises_1 (by decide) rfl ?_
  refine ss_iconst (v := nI 0) dX6_sumOfRises_2 (by decide) ?_
  refine ss_istore (lv' := [(4, _), (2, _), (0, _), (1, _)]) dX6_sumOfRises_3 (by decide) rfl ?_
  exact l_sumOfRises hw hm hQ m 0 (by omega)
set_option maxHeartbeats 4000000 in
set_option maxRecDepth 100000 in
theorem l_takeRise1 {c : cx} {d : Nat} {X : nX} {Y : nY} {Q : Option Value → nX → nY → Prop} {w : Nat} (hw : w < 12) {P : Nat} (hP : P ≤ 10) {v : Int32} (hQ : ss c mX6_takeRise (d + 1) Q 24 [(2, .int (nI 10)), (0, .ref (c_ad c (2 + 7 * w))), (1, .int v)] [] (mpx X (7 + 7 * w) P 10 (fun _ => v)) Y) : ∀ (nn i : Nat), i + nn = 10 → P ≤ i → ss c mX6_takeRise (d + 1) Q 5 [(2, .int (nI i)), (0, .ref (c_ad c (2 + 7 * w))), (1, .int v)] [] (mpx X (7 + 7 * w) P i (fun _ => v)) (Y) := by
  intro nn
  induction nn with
  | zero =>
      intro i hin hinv
      simp only [Nat.add_zero] at hin
      subst hin
      refine ss_iload_n dX6_takeRise_5 0 rfl ?_
      refine ss_bipush (v := nI 10) dX6_takeRise_6 (by decide) ?_
      refine sz_icmp_ge 24 dX6_takeRise_8 (by decide) (by omega) (by omega) (fun c8 => ?_) (fun c8 => by omega)
      exact hQ
  | succ nn ih =>
      intro i hin hinv
      refine ss_iload_n dX6_takeRise_5 0 rfl ?_
      refine ss_bipush (v := nI 10) dX6_takeRise_6 (by decide) ?_
      refine sz_icmp_ge 24 dX6_takeRise_8 (by decide) (by omega) (by omega) (fun c8 => by omega) (fun c8 => ?_)
      refine ss_aload_n dX6_takeRise_11 1 rfl ?_
      refine ss_get (i := 2 + 7 * w) dX6_takeRise_12 flX6_22 (by omega) (sh_w0 hw _ _) rfl ?_
      refine ss_iload_n dX6_takeRise_15 0 rfl ?_
      refine ss_iload_n dX6_takeRise_16 2 rfl ?_
      refine ss_iast (i := 7 + 7 * w) dX6_takeRise_17 (by omega) (sh_w5 hw) (by omega) (by decide) ?_
      refine sz_inc (lv' := [(2, _), (0, _), (1, _)]) dX6_takeRise_18 0 rfl (by decide) rfl ?_
      refine ss_goto 5 dX6_takeRise_21 (by decide) ?_
      refine ss_eX (mpx_s hinv rfl) ?_
      exact ih (i + 1) (by omega) (by omega)
def f_rise (X : nX) (w : Nat) : Nat → Int64 := fun k => lsr (X (7 + 7 * w)) (cnt k 10)
set_option maxHeartbeats 4000000 in
set_option maxRecDepth 100000 in
theorem l_takeRise2 {c : cx} {d : Nat} {X : nX} {Y : nY} {Q : Option Value → nX → nY → Prop} {w : Nat} (hw : w < 12) {S : Nat} (hS : S ≤ 1024) (hse : X (2 + 7 * w) 7 = nI S) {v : Int32} (hQ : Q none (X) (mpl Y (3 + 7 * w) 0 S (f_rise X w))) : ∀ (nn i : Nat), i + nn = S → ss c mX6_takeRise (d + 1) Q 36 [(2, .int (nI i)), (0, .ref (c_ad c (2 + 7 * w))), (1, .int v)] [] (X) (mpl Y (3 + 7 * w) 0 i (f_rise X w)) := by
  intro nn
  induction nn with
  | zero =>
      intro i hin
      simp only [Nat.add_zero] at hin
      subst hin
      refine ss_iload_n dX6_takeRise_36 0 rfl ?_
      refine ss_aload_n dX6_takeRise_37 1 rfl ?_
      refine ss_get (i := 2 + 7 * w) dX6_takeRise_38 flX6_36 (by omega) (sh_w0 hw _ _) rfl ?_
      rw [hse]
      refine sz_icmp_ge 64 dX6_takeRise_41 (by decide) (by omega) (by omega) (fun c41 => ?_) (fun c41 => by omega)
      exact ss_vret dX6_takeRise_64 rfl (hQ)
  | succ nn ih =>
      intro i hin
      refine ss_iload_n dX6_takeRise_36 0 rfl ?_
      refine ss_aload_n dX6_takeRise_37 1 rfl ?_
      refine ss_get (i := 2 + 7 * w) dX6_takeRise_38 flX6_36 (by omega) (sh_w0 hw _ _) rfl ?_
      rw [hse]
      refine sz_icmp_ge 64 dX6_takeRise_41 (by decide) (by omega) (by omega) (fun c41 => by omega) (fun c41 => ?_)
      refine ss_aload_n dX6_takeRise_44 1 rfl ?_
      refine ss_get (i := 2 + 7 * w) dX6_takeRise_45 flX6_9 (by omega) (sh_w0 hw _ _) rfl ?_
      refine ss_iload_n dX6_takeRise_48 0 rfl ?_
      refine ss_aload_n dX6_takeRise_49 1 rfl ?_
      refine ss_iload_n dX6_takeRise_50 0 rfl ?_
      refine ss_callS (As := [_]) dX6_takeRise_51 vlX6_57 clJ6_bitCount_0f7a4 rfl rfl (Nat.le_of_ble_eq_true rfl) (Nat.le_of_ble_eq_true rfl) (q_bitCount (by omega)) ?_
      refine ss_callV (As := [_]) (i := 2 + 7 * w) dX6_takeRise_54 vlX6_72 clX6_sumOfRises rfl rfl (by omega) (sh_w0 hw _ _) rfl (Nat.le_of_ble_eq_true rfl) (Nat.le_of_ble_eq_true rfl) (q_sumOfRises hw (cnt_le _ 10)) ?_
      refine ss_last (i := 3 + 7 * w) dX6_takeRise_57 (by omega) (sh_w1 hw) (by omega) (by decide) ?_
      refine sz_inc (lv' := [(2, _), (0, _), (1, _)]) dX6_takeRise_58 0 rfl (by decide) rfl ?_
      refine ss_goto 36 dX6_takeRise_61 (by decide) ?_
      refine ss_eY (mpl_s (Nat.zero_le _) ?_) ?_
      · rfl
      exact ih (i + 1) (by omega)
def x_rise (X : nX) (w P : Nat) (v : Int32) : nX := up2 (mpx X (7 + 7 * w) P 10 (fun _ => v)) (2 + 7 * w) 8 (nI (P + 1))
set_option maxHeartbeats 4000000 in
set_option maxRecDepth 100000 in
theorem q_takeRise {c : cx} {d : Nat} {X : nX} {Y : nY} {w : Nat} (hw : w < 12) {S : Nat} (hS : S ≤ 1024) (hse : X (2 + 7 * w) 7 = nI S) {v : Int32} {P : Nat} (hP : P ≤ 10) (hpi : X (2 + 7 * w) 8 = nI P) : sc c mX6_takeRise (d + 1) [.ref (c_ad c (2 + 7 * w)), .int v] X Y none (x_rise X w P v) (mpl Y (3 + 7 * w) 0 S (f_rise (x_rise X w P v) w)) := by
  intro Q hQ
  show ss c mX6_takeRise (d + 1) Q 0 [(0, .ref (c_ad c (2 + 7 * w))), (1, .int v)] [] X Y
  refine ss_aload_n dX6_takeRise_0 0 rfl ?_
  refine ss_get (i := 2 + 7 * w) dX6_takeRise_1 flX6_43 (by omega) (sh_w0 hw _ _) rfl ?_
  rw [hpi]
  refine ss_istore_n (lv' := [(2, _), (0, _), (1, _)]) dX6_takeRise_4 (by decide) rfl ?_
  have h9 := l_takeRise1 (X := X) (Y := Y) (c := c) (d := d) (Q := Q) (v := v) hw hP ?k9 (10 - P) P (by omega) (Nat.le_refl P)
  case k9 =>
      refine ss_aload_n dX6_takeRise_24 1 rfl ?_
      refine ss_dup dX6_takeRise_25 rfl ?_
      refine ss_get (i := 2 + 7 * w) dX6_takeRise_26 flX6_43 (by omega) (sh_w0 hw _ _) rfl ?_
      rw [mpx_ne (by omega), hpi]
      refine ss_iconst (v := nI 1) dX6_takeRise_29 (by decide) ?_
      refine sz_iadd dX6_takeRise_30 ?_
      refine ss_put (i := 2 + 7 * w) dX6_takeRise_31 fwX6_43 (by omega) (sh_w0 hw _ _) rfl rfl (Nat.le_of_ble_eq_true rfl) (sh_w0 hw _ _) ?_
      refine ss_iconst (v := nI 0) dX6_takeRise_34 (by decide) ?_
      refine ss_istore_n (lv' := [(2, _), (0, _), (1, _)]) dX6_takeRise_35 (by decide) rfl ?_
      have h8 := l_takeRise2 (X := x_rise X w P v) (Y := Y) (c := c) (d := d) (Q := Q) (v := v) hw hS (by simp [x_rise, up2_at, mpx_def, hse]) hQ S 0 (by omega)
      rw [mpl_0] at h8
      exact h8
  rw [mpx_0] at h9
  exact h9
def p_with (Y : nY) (w p : Nat) (v : Int32) : Nat → Bool := fun k => !(wi (Y (3 + 7 * w) k + v.toInt64 * Y (3 + 7 * p) k) (-1000000000000) 1000000000000)
set_option maxHeartbeats 4000000 in
set_option maxRecDepth 100000 in
theorem l_isLargeWith {c : cx} {d : Nat} {X : nX} {Y : nY} {Q : Option Value → nX → nY → Prop} {w : Nat} (hw : w < 12) {p : Nat} (hp : p < 12) {S : Nat} (hS : S ≤ 1024) (hse : X (2 + 7 * w) 7 = nI S) {v : Int32} (hQ : Q (some (.int (bI (lany (p_with Y w p v) S)))) X Y) : ∀ (nn i : Nat), i + nn = S → ffind (p_with Y w p v) i = none → ss c mX6_isLargeWith (d + 2) Q 2 [(3, .int (nI i)), (0, .ref (c_ad c (2 + 7 * w))), (1, .ref (c_ad c (2 + 7 * p))), (2, .int v)] [] (X) (Y) := by
  intro nn
  induction nn with
  | zero =>
      intro i hin hinv
      simp only [Nat.add_zero] at hin
      subst hin
      refine ss_iload_n dX6_isLargeWith_2 0 rfl ?_
      refine ss_aload_n dX6_isLargeWith_3 1 rfl ?_
      refine ss_get (i := 2 + 7 * w) dX6_isLargeWith_4 flX6_36 (by omega) (sh_w0 hw _ _) rfl ?_
      rw [hse]
      refine sz_icmp_ge 43 dX6_isLargeWith_7 (by decide) (by omega) (by omega) (fun c7 => ?_) (fun c7 => by omega)
      refine ss_iconst (v := nI 0) dX6_isLargeWith_43 (by decide) ?_
      exact ss_iret dX6_isLargeWith_44 rfl rfl (cvi (by rw [lany_f hinv]; rfl) hQ)
  | succ nn ih =>
      intro i hin hinv
      refine ss_iload_n dX6_isLargeWith_2 0 rfl ?_
      refine ss_aload_n dX6_isLargeWith_3 1 rfl ?_
      refine ss_get (i := 2 + 7 * w) dX6_isLargeWith_4 flX6_36 (by omega) (sh_w0 hw _ _) rfl ?_
      rw [hse]
      refine sz_icmp_ge 43 dX6_isLargeWith_7 (by decide) (by omega) (by omega) (fun c7 => by omega) (fun c7 => ?_)
      refine ss_aload_n dX6_isLargeWith_10 1 rfl ?_
      refine ss_get (i := 2 + 7 * w) dX6_isLargeWith_11 flX6_9 (by omega) (sh_w0 hw _ _) rfl ?_
      refine ss_iload_n dX6_isLargeWith_14 0 rfl ?_
      refine ss_lald (i := 3 + 7 * w) dX6_isLargeWith_15 (by omega) (sh_w1 hw) (by omega) (by decide) ?_
      refine ss_iload_n dX6_isLargeWith_16 3 rfl ?_
      refine ss_i2l dX6_isLargeWith_17 ?_
      refine ss_aload_n dX6_isLargeWith_18 2 rfl ?_
      refine ss_get (i := 2 + 7 * p) dX6_isLargeWith_19 flX6_9 (by omega) (sh_w0 hp _ _) rfl ?_
      refine ss_iload_n dX6_isLargeWith_22 0 rfl ?_
      refine ss_lald (i := 3 + 7 * p) dX6_isLargeWith_23 (by omega) (sh_w1 hp) (by omega) (by decide) ?_
      refine ss_lmul dX6_isLargeWith_24 ?_
      refine ss_ladd dX6_isLargeWith_25 ?_
      refine ss_ldc2 dX6_isLargeWith_26 kcX6_75 ?_
      refine ss_callSN (As := [_, _]) dX6_isLargeWith_29 vlX6_77 clX7_isInSize rfl rfl (Nat.le_of_ble_eq_true rfl) (Nat.le_of_ble_eq_true rfl) (q_isInSize) ?_
      refine sy_if_ne 37 dX6_isLargeWith_32 (by decide) (fun c32 => ?_) (fun c32 => ?_)
      · skip
        refine sz_inc (lv' := [(3, _), (0, _), (1, _), (2, _)]) dX6_isLargeWith_37 0 rfl (by decide) rfl ?_
        refine ss_goto 2 dX6_isLargeWith_40 (by decide) ?_
        exact ih (i + 1) (by omega) (ff_step hinv (by simp [p_with, *]))
      · skip
        refine ss_iconst (v := nI 1) dX6_isLargeWith_35 (by decide) ?_
        exact ss_iret dX6_isLargeWith_36 rfl rfl (cvi (by rw [lany_t hinv (by simp [p_with, *]) (by omega)]; rfl) hQ)
set_option maxHeartbeats 4000000 in
set_option maxRecDepth 100000 in
theorem q_isLargeWith {c : cx} {d : Nat} {X : nX} {Y : nY} {w : Nat} (hw : w < 12) {p : Nat} (hp : p < 12) {S : Nat} (hS : S ≤ 1024) (hse : X (2 + 7 * w) 7 = nI S) {v : Int32} : sc c mX6_isLargeWith (d + 2) [.ref (c_ad c (2 + 7 * w)), .ref (c_ad c (2 + 7 * p)), .int v] X Y (some (.int (bI (lany (p_with Y w p v) S)))) (X) (Y) := by
  intro Q hQ
  show ss c mX6_isLargeWith (d + 2) Q 0 [(0, .ref (c_ad c (2 + 7 * w))), (1, .ref (c_ad c (2 + 7 * p))), (2, .int v)] [] X Y
  refine ss_iconst (v := nI 0) dX6_isLargeWith_0 (by decide) ?_
  refine ss_istore_n (lv' := [(3, _), (0, _), (1, _), (2, _)]) dX6_isLargeWith_1 (by decide) rfl ?_
  exact l_isLargeWith hw hp hS hse hQ S 0 (by omega) rfl
def f_with (Y : nY) (w p : Nat) (v : Int32) : Nat → Int64 := fun k => Y (3 + 7 * w) k + v.toInt64 * Y (3 + 7 * p) k
set_option maxHeartbeats 4000000 in
set_option maxRecDepth 100000 in
theorem l_takeWorth {c : cx} {d : Nat} {X : nX} {Y : nY} {Q : Option Value → nX → nY → Prop} {w : Nat} (hw : w < 12) {p : Nat} (hp : p < 12) (hpw : p ≠ w) {S : Nat} (hS : S ≤ 1024) (hse : X (2 + 7 * w) 7 = nI S) {v : Int32} (hQ : Q none (X) (mpl Y (3 + 7 * w) 0 S (f_with Y w p v))) : ∀ (nn i : Nat), i + nn = S → ss c mX6_takeWorth d Q 12 [(3, .int (nI i)), (0, .ref (c_ad c (2 + 7 * w))), (1, .ref (c_ad c (2 + 7 * p))), (2, .int v)] [] (X) (mpl Y (3 + 7 * w) 0 i (f_with Y w p v)) := by
  intro nn
  induction nn with
  | zero =>
      intro i hin
      simp only [Nat.add_zero] at hin
      subst hin
      refine ss_iload_n dX6_takeWorth_12 0 rfl ?_
      refine ss_aload_n dX6_takeWorth_13 1 rfl ?_
      refine ss_get (i := 2 + 7 * w) dX6_takeWorth_14 flX6_36 (by omega) (sh_w0 hw _ _) rfl ?_
      rw [hse]
      refine sz_icmp_ge 44 dX6_takeWorth_17 (by decide) (by omega) (by omega) (fun c17 => ?_) (fun c17 => by omega)
      exact ss_vret dX6_takeWorth_44 rfl (hQ)
  | succ nn ih =>
      intro i hin
      refine ss_iload_n dX6_takeWorth_12 0 rfl ?_
      refine ss_aload_n dX6_takeWorth_13 1 rfl ?_
      refine ss_get (i := 2 + 7 * w) dX6_takeWorth_14 flX6_36 (by omega) (sh_w0 hw _ _) rfl ?_
      rw [hse]
      refine sz_icmp_ge 44 dX6_takeWorth_17 (by decide) (by omega) (by omega) (fun c17 => by omega) (fun c17 => ?_)
      refine ss_aload_n dX6_takeWorth_20 1 rfl ?_
      refine ss_get (i := 2 + 7 * w) dX6_takeWorth_21 flX6_9 (by omega) (sh_w0 hw _ _) rfl ?_
      refine ss_iload_n dX6_takeWorth_24 0 rfl ?_
      refine ss_dup2 dX6_takeWorth_25 rfl rfl ?_
      refine ss_lald (i := 3 + 7 * w) dX6_takeWorth_26 (by omega) (sh_w1 hw) (by omega) (by decide) ?_
      rw [mpl_at]
      refine ss_iload_n dX6_takeWorth_27 3 rfl ?_
      refine ss_i2l dX6_takeWorth_28 ?_
      refine ss_aload_n dX6_takeWorth_29 2 rfl ?_
      refine ss_get (i := 2 + 7 * p) dX6_takeWorth_30 flX6_9 (by omega) (sh_w0 hp _ _) rfl ?_
      refine ss_iload_n dX6_takeWorth_33 0 rfl ?_
      refine ss_lald (i := 3 + 7 * p) dX6_takeWorth_34 (by omega) (sh_w1 hp) (by omega) (by decide) ?_
      rw [mpl_ne (by omega)]
      refine ss_lmul dX6_takeWorth_35 ?_
      refine ss_ladd dX6_takeWorth_36 ?_
      refine ss_last (i := 3 + 7 * w) dX6_takeWorth_37 (by omega) (sh_w1 hw) (by omega) (by decide) ?_
      refine sz_inc (lv' := [(3, _), (0, _), (1, _), (2, _)]) dX6_takeWorth_38 0 rfl (by decide) rfl ?_
      refine ss_goto 12 dX6_takeWorth_41 (by decide) ?_
      refine ss_eY (mpl_s (Nat.zero_le _) ?_) ?_
      · rfl
      exact ih (i + 1) (by omega)
set_option maxHeartbeats 4000000 in
set_option maxRecDepth 100000 in
theorem q_takeWorth {c : cx} {d : Nat} {X : nX} {Y : nY} {w : Nat} (hw : w < 12) {p : Nat} (hp : p < 12) (hpw : p ≠ w) {S : Nat} (hS : S ≤ 1024) (hse : X (2 + 7 * w) 7 = nI S) {v : Int32} : sc c mX6_takeWorth d [.ref (c_ad c (2 + 7 * w)), .ref (c_ad c (2 + 7 * p)), .int v] X Y none (up2 X (2 + 7 * w) 8 (X (2 + 7 * w) 8 + nI 1)) (mpl Y (3 + 7 * w) 0 S (f_with Y w p v)) := by
  intro Q hQ
  show ss c mX6_takeWorth d Q 0 [(0, .ref (c_ad c (2 + 7 * w))), (1, .ref (c_ad c (2 + 7 * p))), (2, .int v)] [] X Y
  refine ss_aload_n dX6_takeWorth_0 0 rfl ?_
  refine ss_dup dX6_takeWorth_1 rfl ?_
  refine ss_get (i := 2 + 7 * w) dX6_takeWorth_2 flX6_43 (by omega) (sh_w0 hw _ _) rfl ?_
  refine ss_iconst (v := nI 1) dX6_takeWorth_5 (by decide) ?_
  refine ss_iadd dX6_takeWorth_6 ?_
  refine ss_put (i := 2 + 7 * w) dX6_takeWorth_7 fwX6_43 (by omega) (sh_w0 hw _ _) rfl rfl (Nat.le_of_ble_eq_true rfl) (sh_w0 hw _ _) ?_
  refine ss_iconst (v := nI 0) dX6_takeWorth_10 (by decide) ?_
  refine ss_istore_n (lv' := [(3, _), (0, _), (1, _), (2, _)]) dX6_takeWorth_11 (by decide) rfl ?_
  have h9 := l_takeWorth (X := up2 X (2 + 7 * w) 8 (X (2 + 7 * w) 8 + nI 1)) (Y := Y) (c := c) (d := d) hw hp hpw hS (by simp [up2_at, hse]) hQ S 0 (by omega)
  rw [mpl_0] at h9
  exact h9
def p_price (X : nX) (Y : nY) (w t : Nat) (v : Int32) : Nat → Bool := fun k => hb k t && !(wi (Y (3 + 7 * w) k + (v - X (8 + 7 * w) t).toInt64) (-1000000000000) 1000000000000)
set_option maxHeartbeats 4000000 in
set_option maxRecDepth 100000 in
theorem l_isLargeWithPrice {c : cx} {d : Nat} {X : nX} {Y : nY} {Q : Option Value → nX → nY → Prop} {w : Nat} (hw : w < 12) {S : Nat} (hS : S ≤ 1024) (hse : X (2 + 7 * w) 7 = nI S) {t : Nat} (ht : t < 10) {v : Int32} (hQ : Q (some (.int (bI (lany (p_price X Y w t v) S)))) X Y) : ∀ (nn i : Nat), i + nn = S → ffind (p_price X Y w t v) i = none → ss c mX6_isLargeWithPrice (d + 2) Q 13 [(5, .int (nI i)), (3, .long (v - X (8 + 7 * w) t).toInt64), (0, .ref (c_ad c (2 + 7 * w))), (1, .int (nI t)), (2, .int v)] [] (X) (Y) := by
  intro nn
  induction nn with
  | zero =>
      intro i hin hinv
      simp only [Nat.add_zero] at hin
      subst hin
      refine ss_iload dX6_isLargeWithPrice_13 0 rfl ?_
      refine ss_aload_n dX6_isLargeWithPrice_15 2 rfl ?_
      refine ss_get (i := 2 + 7 * w) dX6_isLargeWithPrice_16 flX6_36 (by omega) (sh_w0 hw _ _) rfl ?_
      rw [hse]
      refine sz_icmp_ge 57 dX6_isLargeWithPrice_19 (by decide) (by omega) (by omega) (fun c19 => ?_) (fun c19 => by omega)
      refine ss_iconst (v := nI 0) dX6_isLargeWithPrice_57 (by decide) ?_
      exact ss_iret dX6_isLargeWithPrice_58 rfl rfl (cvi (by rw [lany_f hinv]; rfl) hQ)
  | succ nn ih =>
      intro i hin hinv
      refine ss_iload dX6_isLargeWithPrice_13 0 rfl ?_
      refine ss_aload_n dX6_isLargeWithPrice_15 2 rfl ?_
      refine ss_get (i := 2 + 7 * w) dX6_isLargeWithPrice_16 flX6_36 (by omega) (sh_w0 hw _ _) rfl ?_
      rw [hse]
      refine sz_icmp_ge 57 dX6_isLargeWithPrice_19 (by decide) (by omega) (by omega) (fun c19 => by omega) (fun c19 => ?_)
      refine ss_iload dX6_isLargeWithPrice_22 0 rfl ?_
      refine ss_iload_n dX6_isLargeWithPrice_24 3 rfl ?_
      refine ss_callSN (As := [_, _]) dX6_isLargeWithPrice_25 vlX6_49 clX7_hasThing rfl rfl (Nat.le_of_ble_eq_true rfl) (Nat.le_of_ble_eq_true rfl) (q_hasThing (by omega) (by omega)) ?_
      refine sy_if_eq 51 dX6_isLargeWithPrice_28 (by decide) (fun c28 => ?_) (fun c28 => ?_)
      · skip
        refine sz_inc (lv' := [(5, _), (3, _), (0, _), (1, _), (2, _)]) dX6_isLargeWithPrice_51 0 rfl (by decide) rfl ?_
        refine ss_goto 13 dX6_isLargeWithPrice_54 (by decide) ?_
        exact ih (i + 1) (by omega) (ff_step hinv (by simp [p_price, *]))
      · skip
        refine ss_aload_n dX6_isLargeWithPrice_31 2 rfl ?_
        refine ss_get (i := 2 + 7 * w) dX6_isLargeWithPrice_32 flX6_9 (by omega) (sh_w0 hw _ _) rfl ?_
        refine ss_iload dX6_isLargeWithPrice_35 0 rfl ?_
        refine ss_lald (i := 3 + 7 * w) dX6_isLargeWithPrice_37 (by omega) (sh_w1 hw) (by omega) (by decide) ?_
        refine ss_lload_n dX6_isLargeWithPrice_38 1 rfl ?_
        refine ss_ladd dX6_isLargeWithPrice_39 ?_
        refine ss_ldc2 dX6_isLargeWithPrice_40 kcX6_75 ?_
        refine ss_callSN (As := [_, _]) dX6_isLargeWithPrice_43 vlX6_77 clX7_isInSize rfl rfl (Nat.le_of_ble_eq_true rfl) (Nat.le_of_ble_eq_true rfl) (q_isInSize) ?_
        refine sy_if_ne 51 dX6_isLargeWithPrice_46 (by decide) (fun c46 => ?_) (fun c46 => ?_)
        · skip
          refine sz_inc (lv' := [(5, _), (3, _), (0, _), (1, _), (2, _)]) dX6_isLargeWithPrice_51 0 rfl (by decide) rfl ?_
          refine ss_goto 13 dX6_isLargeWithPrice_54 (by decide) ?_
          exact ih (i + 1) (by omega) (ff_step hinv (by simp [p_price, *]))
        · skip
          refine ss_iconst (v := nI 1) dX6_isLargeWithPrice_49 (by decide) ?_
          exact ss_iret dX6_isLargeWithPrice_50 rfl rfl (cvi (by rw [lany_t hinv (by simp [p_price, *]) (by omega)]; rfl) hQ)
set_option maxHeartbeats 4000000 in
set_option maxRecDepth 100000 in
theorem q_isLargeWithPrice {c : cx} {d : Nat} {X : nX} {Y : nY} {w : Nat} (hw : w < 12) {S : Nat} (hS : S ≤ 1024) (hse : X (2 + 7 * w) 7 = nI S) {t : Nat} (ht : t < 10) {v : Int32} : sc c mX6_isLargeWithPrice (d + 2) [.ref (c_ad c (2 + 7 * w)), .int (nI t), .int v] X Y (some (.int (bI (lany (p_price X Y w t v) S)))) (X) (Y) := by
  intro Q hQ
  show ss c mX6_isLargeWithPrice (d + 2) Q 0 [(0, .ref (c_ad c (2 + 7 * w))), (1, .int (nI t)), (2, .int v)] [] X Y
  refine ss_iload_n dX6_isLargeWithPrice_0 2 rfl ?_
  refine ss_aload_n dX6_isLargeWithPrice_1 0 rfl ?_
  refine ss_get (i := 2 + 7 * w) dX6_isLargeWithPrice_2 flX6_26 (by omega) (sh_w0 hw _ _) rfl ?_
  refine ss_iload_n dX6_isLargeWithPrice_5 1 rfl ?_
  refine ss_iald (i := 8 + 7 * w) dX6_isLargeWithPrice_6 (by omega) (sh_w6 hw) (by omega) (by decide) ?_
  refine ss_isub dX6_isLargeWithPrice_7 ?_
  refine ss_i2l dX6_isLargeWithPrice_8 ?_
  refine ss_lstore_n (lv' := [(3, _), (0, _), (1, _), (2, _)]) dX6_isLargeWithPrice_9 (by decide) rfl ?_
  refine ss_iconst (v := nI 0) dX6_isLargeWithPrice_10 (by decide) ?_
  refine ss_istore (lv' := [(5, _), (3, _), (0, _), (1, _), (2, _)]) dX6_isLargeWithPrice_11 (by decide) rfl ?_
  exact l_isLargeWithPrice hw hS hse ht hQ S 0 (by omega) rfl
def f_price (X : nX) (Y : nY) (w t : Nat) (v : Int32) : Nat → Int64 := fun k => if hb k t = true then Y (3 + 7 * w) k + (v - X (8 + 7 * w) t).toInt64 else Y (3 + 7 * w) k
set_option maxHeartbeats 4000000 in
set_option maxRecDepth 100000 in
theorem l_takePrice {c : cx} {d : Nat} {X : nX} {Y : nY} {Q : Option Value → nX → nY → Prop} {w : Nat} (hw : w < 12) {S : Nat} (hS : S ≤ 1024) (hse : X (2 + 7 * w) 7 = nI S) {t : Nat} (ht : t < 10) {v : Int32} {X0 : nX} (hQ : Q none (X) (mpl Y (3 + 7 * w) 0 S (f_price X0 Y w t v))) : ∀ (nn i : Nat), i + nn = S → ss c mX6_takePrice (d + 1) Q 20 [(5, .int (nI i)), (3, .long (v - X0 (8 + 7 * w) t).toInt64), (0, .ref (c_ad c (2 + 7 * w))), (1, .int (nI t)), (2, .int v)] [] (X) (mpl Y (3 + 7 * w) 0 i (f_price X0 Y w t v)) := by
  intro nn
  induction nn with
  | zero =>
      intro i hin
      simp only [Nat.add_zero] at hin
      subst hin
      refine ss_iload dX6_takePrice_20 0 rfl ?_
      refine ss_aload_n dX6_takePrice_22 2 rfl ?_
      refine ss_get (i := 2 + 7 * w) dX6_takePrice_23 flX6_36 (by omega) (sh_w0 hw _ _) rfl ?_
      rw [hse]
      refine sz_icmp_ge 55 dX6_takePrice_26 (by decide) (by omega) (by omega) (fun c26 => ?_) (fun c26 => by omega)
      exact ss_vret dX6_takePrice_55 rfl (hQ)
  | succ nn ih =>
      intro i hin
      refine ss_iload dX6_takePrice_20 0 rfl ?_
      refine ss_aload_n dX6_takePrice_22 2 rfl ?_
      refine ss_get (i := 2 + 7 * w) dX6_takePrice_23 flX6_36 (by omega) (sh_w0 hw _ _) rfl ?_
      rw [hse]
      refine sz_icmp_ge 55 dX6_takePrice_26 (by decide) (by omega) (by omega) (fun c26 => by omega) (fun c26 => ?_)
      refine ss_iload dX6_takePrice_29 0 rfl ?_
      refine ss_iload_n dX6_takePrice_31 3 rfl ?_
      refine ss_callSN (As := [_, _]) dX6_takePrice_32 vlX6_49 clX7_hasThing rfl rfl (Nat.le_of_ble_eq_true rfl) (Nat.le_of_ble_eq_true rfl) (q_hasThing (by omega) (by omega)) ?_
      refine sy_if_eq 49 dX6_takePrice_35 (by decide) (fun c35 => ?_) (fun c35 => ?_)
      · skip
        refine sz_inc (lv' := [(5, _), (3, _), (0, _), (1, _), (2, _)]) dX6_takePrice_49 0 rfl (by decide) rfl ?_
        refine ss_goto 20 dX6_takePrice_52 (by decide) ?_
        refine ss_eY (mpl_k ?_) ?_
        · simp [f_price, *]
        exact ih (i + 1) (by omega)
      · skip
        refine ss_aload_n dX6_takePrice_38 2 rfl ?_
        refine ss_get (i := 2 + 7 * w) dX6_takePrice_39 flX6_9 (by omega) (sh_w0 hw _ _) rfl ?_
        refine ss_iload dX6_takePrice_42 0 rfl ?_
        refine ss_dup2 dX6_takePrice_44 rfl rfl ?_
        refine ss_lald (i := 3 + 7 * w) dX6_takePrice_45 (by omega) (sh_w1 hw) (by omega) (by decide) ?_
        rw [mpl_at]
        refine ss_lload_n dX6_takePrice_46 1 rfl ?_
        refine ss_ladd dX6_takePrice_47 ?_
        refine ss_last (i := 3 + 7 * w) dX6_takePrice_48 (by omega) (sh_w1 hw) (by omega) (by decide) ?_
        refine sz_inc (lv' := [(5, _), (3, _), (0, _), (1, _), (2, _)]) dX6_takePrice_49 0 rfl (by decide) rfl ?_
        refine ss_goto 20 dX6_takePrice_52 (by decide) ?_
        refine ss_eY (mpl_s (Nat.zero_le _) ?_) ?_
        · simp [f_price, *]
        exact ih (i + 1) (by omega)
set_option maxHeartbeats 4000000 in
set_option maxRecDepth 100000 in
theorem q_takePrice {c : cx} {d : Nat} {X : nX} {Y : nY} {w : Nat} (hw : w < 12) {S : Nat} (hS : S ≤ 1024) (hse : X (2 + 7 * w) 7 = nI S) {t : Nat} (ht : t < 10) {v : Int32} : sc c mX6_takePrice (d + 1) [.ref (c_ad c (2 + 7 * w)), .int (nI t), .int v] X Y none (up2 X (8 + 7 * w) t v) (mpl Y (3 + 7 * w) 0 S (f_price X Y w t v)) := by
  intro Q hQ
  show ss c mX6_takePrice (d + 1) Q 0 [(0, .ref (c_ad c (2 + 7 * w))), (1, .int (nI t)), (2, .int v)] [] X Y
  refine ss_iload_n dX6_takePrice_0 2 rfl ?_
  refine ss_aload_n dX6_takePrice_1 0 rfl ?_
  refine ss_get (i := 2 + 7 * w) dX6_takePrice_2 flX6_26 (by omega) (sh_w0 hw _ _) rfl ?_
  refine ss_iload_n dX6_takePrice_5 1 rfl ?_
  refine ss_iald (i := 8 + 7 * w) dX6_takePrice_6 (by omega) (sh_w6 hw) (by omega) (by decide) ?_
  refine ss_isub dX6_takePrice_7 ?_
  refine ss_i2l dX6_takePrice_8 ?_
  refine ss_lstore_n (lv' := [(3, _), (0, _), (1, _), (2, _)]) dX6_takePrice_9 (by decide) rfl ?_
  refine ss_aload_n dX6_takePrice_10 1 rfl ?_
  refine ss_get (i := 2 + 7 * w) dX6_takePrice_11 flX6_26 (by omega) (sh_w0 hw _ _) rfl ?_
  refine ss_iload_n dX6_takePrice_14 2 rfl ?_
  refine ss_iload_n dX6_takePrice_15 3 rfl ?_
  refine ss_iast (i := 8 + 7 * w) dX6_takePrice_16 (by omega) (sh_w6 hw) (by omega) (by decide) ?_
  refine ss_iconst (v := nI 0) dX6_takePrice_17 (by decide) ?_
  refine ss_istore (lv' := [(5, _), (3, _), (0, _), (1, _), (2, _)]) dX6_takePrice_18 (by decide) rfl ?_
  have h9 := l_takePrice (X := up2 X (8 + 7 * w) t v) (X0 := X) (Y := Y) (c := c) (d := d) hw hS (by rw [up2_at, if_neg (by omega)]; exact hse) ht hQ S 0 (by omega)
  rw [mpl_0] at h9
  exact h9
def f_part (Y : nY) (p m : Nat) : Nat → Int64 := fun k => Y (3 + 7 * p) (k &&& m)
def f_beyond (Y : nY) (p m : Nat) : Nat → Int64 := fun k => Y (3 + 7 * p) (k ||| m) - Y (3 + 7 * p) m
set_option maxHeartbeats 4000000 in
set_option maxRecDepth 100000 in
theorem l_takePart {c : cx} {d : Nat} {X : nX} {Y : nY} {Q : Option Value → nX → nY → Prop} {w : Nat} (hw : w < 12) {p : Nat} (hp : p < 12) (hpw : p ≠ w) {S : Nat} (hS : S ≤ 1024) (hse : X (2 + 7 * w) 7 = nI S) {m : Nat} (hm : m < 1024) (hQ : Q none (X) (mpl Y (3 + 7 * w) 0 S (f_part Y p m))) : ∀ (nn i : Nat), i + nn = S → ss c mX6_takePart d Q 2 [(3, .int (nI i)), (0, .ref (c_ad c (2 + 7 * w))), (1, .ref (c_ad c (2 + 7 * p))), (2, .int (nI m))] [] (X) (mpl Y (3 + 7 * w) 0 i (f_part Y p m)) := by
  intro nn
  induction nn with
  | zero =>
      intro i hin
      simp only [Nat.add_zero] at hin
      subst hin
      refine ss_iload_n dX6_takePart_2 0 rfl ?_
      refine ss_aload_n dX6_takePart_3 1 rfl ?_
      refine ss_get (i := 2 + 7 * w) dX6_takePart_4 flX6_36 (by omega) (sh_w0 hw _ _) rfl ?_
      rw [hse]
      refine sz_icmp_ge 30 dX6_takePart_7 (by decide) (by omega) (by omega) (fun c7 => ?_) (fun c7 => by omega)
      exact ss_vret dX6_takePart_30 rfl (hQ)
  | succ nn ih =>
      intro i hin
      refine ss_iload_n dX6_takePart_2 0 rfl ?_
      refine ss_aload_n dX6_takePart_3 1 rfl ?_
      refine ss_get (i := 2 + 7 * w) dX6_takePart_4 flX6_36 (by omega) (sh_w0 hw _ _) rfl ?_
      rw [hse]
      refine sz_icmp_ge 30 dX6_takePart_7 (by decide) (by omega) (by omega) (fun c7 => by omega) (fun c7 => ?_)
      refine ss_aload_n dX6_takePart_10 1 rfl ?_
      refine ss_get (i := 2 + 7 * w) dX6_takePart_11 flX6_9 (by omega) (sh_w0 hw _ _) rfl ?_
      refine ss_iload_n dX6_takePart_14 0 rfl ?_
      refine ss_aload_n dX6_takePart_15 2 rfl ?_
      refine ss_get (i := 2 + 7 * p) dX6_takePart_16 flX6_9 (by omega) (sh_w0 hp _ _) rfl ?_
      refine ss_iload_n dX6_takePart_19 0 rfl ?_
      refine ss_iload_n dX6_takePart_20 3 rfl ?_
      refine sz_iand dX6_takePart_21 ?_
      refine ss_lald (i := 3 + 7 * p) dX6_takePart_22 (by omega) (sh_w1 hp) (xb_and10 (by omega)) (by decide) ?_
      rw [mpl_ne (by omega)]
      refine ss_last (i := 3 + 7 * w) dX6_takePart_23 (by omega) (sh_w1 hw) (by omega) (by decide) ?_
      refine sz_inc (lv' := [(3, _), (0, _), (1, _), (2, _)]) dX6_takePart_24 0 rfl (by decide) rfl ?_
      refine ss_goto 2 dX6_takePart_27 (by decide) ?_
      refine ss_eY (mpl_s (Nat.zero_le _) ?_) ?_
      · rfl
      exact ih (i + 1) (by omega)
set_option maxHeartbeats 4000000 in
set_option maxRecDepth 100000 in
theorem q_takePart {c : cx} {d : Nat} {X : nX} {Y : nY} {w : Nat} (hw : w < 12) {p : Nat} (hp : p < 12) (hpw : p ≠ w) {S : Nat} (hS : S ≤ 1024) (hse : X (2 + 7 * w) 7 = nI S) {m : Nat} (hm : m < 1024) : sc c mX6_takePart d [.ref (c_ad c (2 + 7 * w)), .ref (c_ad c (2 + 7 * p)), .int (nI m)] X Y none (X) (mpl Y (3 + 7 * w) 0 S (f_part Y p m)) := by
  intro Q hQ
  show ss c mX6_takePart d Q 0 [(0, .ref (c_ad c (2 + 7 * w))), (1, .ref (c_ad c (2 + 7 * p))), (2, .int (nI m))] [] X Y
  refine ss_iconst (v := nI 0) dX6_takePart_0 (by decide) ?_
  refine ss_istore_n (lv' := [(3, _), (0, _), (1, _), (2, _)]) dX6_takePart_1 (by decide) rfl ?_
  have h9 := l_takePart (X := X) (Y := Y) (c := c) (d := d) hw hp hpw hS hse hm hQ S 0 (by omega)
  rw [mpl_0] at h9
  exact h9
set_option maxHeartbeats 4000000 in
set_option maxRecDepth 100000 in
theorem l_takeBeyond {c : cx} {d : Nat} {X : nX} {Y : nY} {Q : Option Value → nX → nY → Prop} {w : Nat} (hw : w < 12) {p : Nat} (hp : p < 12) (hpw : p ≠ w) {S : Nat} (hS : S ≤ 1024) (hse : X (2 + 7 * w) 7 = nI S) {m : Nat} (hm : m < 1024) (hQ : Q none (X) (mpl Y (3 + 7 * w) 0 S (f_beyond Y p m))) : ∀ (nn i : Nat), i + nn = S → ss c mX6_takeBeyond d Q 2 [(3, .int (nI i)), (0, .ref (c_ad c (2 + 7 * w))), (1, .ref (c_ad c (2 + 7 * p))), (2, .int (nI m))] [] (X) (mpl Y (3 + 7 * w) 0 i (f_beyond Y p m)) := by
  intro nn
  induction nn with
  | zero =>
      intro i hin
      simp only [Nat.add_zero] at hin
      subst hin
      refine ss_iload_n dX6_takeBeyond_2 0 rfl ?_
      refine ss_aload_n dX6_takeBeyond_3 1 rfl ?_
      refine ss_get (i := 2 + 7 * w) dX6_takeBeyond_4 flX6_36 (by omega) (sh_w0 hw _ _) rfl ?_
      rw [hse]
      refine sz_icmp_ge 37 dX6_takeBeyond_7 (by decide) (by omega) (by omega) (fun c7 => ?_) (fun c7 => by omega)
      exact ss_vret dX6_takeBeyond_37 rfl (hQ)
  | succ nn ih =>
      intro i hin
      refine ss_iload_n dX6_takeBeyond_2 0 rfl ?_
      refine ss_aload_n dX6_takeBeyond_3 1 rfl ?_
      refine ss_get (i := 2 + 7 * w) dX6_takeBeyond_4 flX6_36 (by omega) (sh_w0 hw _ _) rfl ?_
      rw [hse]
      refine sz_icmp_ge 37 dX6_takeBeyond_7 (by decide) (by omega) (by omega) (fun c7 => by omega) (fun c7 => ?_)
      refine ss_aload_n dX6_takeBeyond_10 1 rfl ?_
      refine ss_get (i := 2 + 7 * w) dX6_takeBeyond_11 flX6_9 (by omega) (sh_w0 hw _ _) rfl ?_
      refine ss_iload_n dX6_takeBeyond_14 0 rfl ?_
      refine ss_aload_n dX6_takeBeyond_15 2 rfl ?_
      refine ss_get (i := 2 + 7 * p) dX6_takeBeyond_16 flX6_9 (by omega) (sh_w0 hp _ _) rfl ?_
      refine ss_iload_n dX6_takeBeyond_19 0 rfl ?_
      refine ss_iload_n dX6_takeBeyond_20 3 rfl ?_
      refine sz_ior dX6_takeBeyond_21 ?_
      refine ss_lald (i := 3 + 7 * p) dX6_takeBeyond_22 (by omega) (sh_w1 hp) (xb_or10 (by omega) hm) (by decide) ?_
      rw [mpl_ne (by omega)]
      refine ss_aload_n dX6_takeBeyond_23 2 rfl ?_
      refine ss_get (i := 2 + 7 * p) dX6_takeBeyond_24 flX6_9 (by omega) (sh_w0 hp _ _) rfl ?_
      refine ss_iload_n dX6_takeBeyond_27 3 rfl ?_
      refine ss_lald (i := 3 + 7 * p) dX6_takeBeyond_28 (by omega) (sh_w1 hp) (by omega) (by decide) ?_
      rw [mpl_ne (by omega)]
      refine ss_lsub dX6_takeBeyond_29 ?_
      refine ss_last (i := 3 + 7 * w) dX6_takeBeyond_30 (by omega) (sh_w1 hw) (by omega) (by decide) ?_
      refine sz_inc (lv' := [(3, _), (0, _), (1, _), (2, _)]) dX6_takeBeyond_31 0 rfl (by decide) rfl ?_
      refine ss_goto 2 dX6_takeBeyond_34 (by decide) ?_
      refine ss_eY (mpl_s (Nat.zero_le _) ?_) ?_
      · rfl
      exact ih (i + 1) (by omega)
set_option maxHeartbeats 4000000 in
set_option maxRecDepth 100000 in
theorem q_takeBeyond {c : cx} {d : Nat} {X : nX} {Y : nY} {w : Nat} (hw : w < 12) {p : Nat} (hp : p < 12) (hpw : p ≠ w) {S : Nat} (hS : S ≤ 1024) (hse : X (2 + 7 * w) 7 = nI S) {m : Nat} (hm : m < 1024) : sc c mX6_takeBeyond d [.ref (c_ad c (2 + 7 * w)), .ref (c_ad c (2 + 7 * p)), .int (nI m)] X Y none (X) (mpl Y (3 + 7 * w) 0 S (f_beyond Y p m)) := by
  intro Q hQ
  show ss c mX6_takeBeyond d Q 0 [(0, .ref (c_ad c (2 + 7 * w))), (1, .ref (c_ad c (2 + 7 * p))), (2, .int (nI m))] [] X Y
  refine ss_iconst (v := nI 0) dX6_takeBeyond_0 (by decide) ?_
  refine ss_istore_n (lv' := [(3, _), (0, _), (1, _), (2, _)]) dX6_takeBeyond_1 (by decide) rfl ?_
  have h9 := l_takeBeyond (X := X) (Y := Y) (c := c) (d := d) hw hp hpw hS hse hm hQ S 0 (by omega)
  rw [mpl_0] at h9
  exact h9
def p_beyond (Y : nY) (w m : Nat) : Nat → Bool := fun k => !(wi (Y (3 + 7 * w) (k ||| m) - Y (3 + 7 * w) m) (-1000000000000) 1000000000000)
set_option maxHeartbeats 4000000 in
set_option maxRecDepth 100000 in
theorem l_isLargeBeyond {c : cx} {d : Nat} {X : nX} {Y : nY} {Q : Option Value → nX → nY → Prop} {w : Nat} (hw : w < 12) {S : Nat} (hS : S ≤ 1024) (hse : X (2 + 7 * w) 7 = nI S) {m : Nat} (hm : m < 1024) (hQ : Q (some (.int (bI (lany (p_beyond Y w m) S)))) X Y) : ∀ (nn i : Nat), i + nn = S → ffind (p_beyond Y w m) i = none → ss c mX6_isLargeBeyond (d + 2) Q 2 [(2, .int (nI i)), (0, .ref (c_ad c (2 + 7 * w))), (1, .int (nI m))] [] (X) (Y) := by
  intro nn
  induction nn with
  | zero =>
      intro i hin hinv
      simp only [Nat.add_zero] at hin
      subst hin
      refine ss_iload_n dX6_isLargeBeyond_2 0 rfl ?_
      refine ss_aload_n dX6_isLargeBeyond_3 1 rfl ?_
      refine ss_get (i := 2 + 7 * w) dX6_isLargeBeyond_4 flX6_36 (by omega) (sh_w0 hw _ _) rfl ?_
      rw [hse]
      refine sz_icmp_ge 42 dX6_isLargeBeyond_7 (by decide) (by omega) (by omega) (fun c7 => ?_) (fun c7 => by omega)
      refine ss_iconst (v := nI 0) dX6_isLargeBeyond_42 (by decide) ?_
      exact ss_iret dX6_isLargeBeyond_43 rfl rfl (cvi (by rw [lany_f hinv]; rfl) hQ)
  | succ nn ih =>
      intro i hin hinv
      refine ss_iload_n dX6_isLargeBeyond_2 0 rfl ?_
      refine ss_aload_n dX6_isLargeBeyond_3 1 rfl ?_
      refine ss_get (i := 2 + 7 * w) dX6_isLargeBeyond_4 flX6_36 (by omega) (sh_w0 hw _ _) rfl ?_
      rw [hse]
      refine sz_icmp_ge 42 dX6_isLargeBeyond_7 (by decide) (by omega) (by omega) (fun c7 => by omega) (fun c7 => ?_)
      refine ss_aload_n dX6_isLargeBeyond_10 1 rfl ?_
      refine ss_get (i := 2 + 7 * w) dX6_isLargeBeyond_11 flX6_9 (by omega) (sh_w0 hw _ _) rfl ?_
      refine ss_iload_n dX6_isLargeBeyond_14 0 rfl ?_
      refine ss_iload_n dX6_isLargeBeyond_15 2 rfl ?_
      refine sz_ior dX6_isLargeBeyond_16 ?_
      refine ss_lald (i := 3 + 7 * w) dX6_isLargeBeyond_17 (by omega) (sh_w1 hw) (xb_or10 (by omega) hm) (by decide) ?_
      refine ss_aload_n dX6_isLargeBeyond_18 1 rfl ?_
      refine ss_get (i := 2 + 7 * w) dX6_isLargeBeyond_19 flX6_9 (by omega) (sh_w0 hw _ _) rfl ?_
      refine ss_iload_n dX6_isLargeBeyond_22 2 rfl ?_
      refine ss_lald (i := 3 + 7 * w) dX6_isLargeBeyond_23 (by omega) (sh_w1 hw) (by omega) (by decide) ?_
      refine ss_lsub dX6_isLargeBeyond_24 ?_
      refine ss_ldc2 dX6_isLargeBeyond_25 kcX6_75 ?_
      refine ss_callSN (As := [_, _]) dX6_isLargeBeyond_28 vlX6_77 clX7_isInSize rfl rfl (Nat.le_of_ble_eq_true rfl) (Nat.le_of_ble_eq_true rfl) (q_isInSize) ?_
      refine sy_if_ne 36 dX6_isLargeBeyond_31 (by decide) (fun c31 => ?_) (fun c31 => ?_)
      · skip
        refine sz_inc (lv' := [(2, _), (0, _), (1, _)]) dX6_isLargeBeyond_36 0 rfl (by decide) rfl ?_
        refine ss_goto 2 dX6_isLargeBeyond_39 (by decide) ?_
        exact ih (i + 1) (by omega) (ff_step hinv (by simp [p_beyond, *]))
      · skip
        refine ss_iconst (v := nI 1) dX6_isLargeBeyond_34 (by decide) ?_
        exact ss_iret dX6_isLargeBeyond_35 rfl rfl (cvi (by rw [lany_t hinv (by simp [p_beyond, *]) (by omega)]; rfl) hQ)
set_option maxHeartbeats 4000000 in
set_option maxRecDepth 100000 in
theorem q_isLargeBeyond {c : cx} {d : Nat} {X : nX} {Y : nY} {w : Nat} (hw : w < 12) {S : Nat} (hS : S ≤ 1024) (hse : X (2 + 7 * w) 7 = nI S) {m : Nat} (hm : m < 1024) : sc c mX6_isLargeBeyond (d + 2) [.ref (c_ad c (2 + 7 * w)), .int (nI m)] X Y (some (.int (bI (lany (p_beyond Y w m) S)))) (X) (Y) := by
  intro Q hQ
  show ss c mX6_isLargeBeyond (d + 2) Q 0 [(0, .ref (c_ad c (2 + 7 * w))), (1, .int (nI m))] [] X Y
  refine ss_iconst (v := nI 0) dX6_isLargeBeyond_0 (by decide) ?_
  refine ss_istore_n (lv' := [(2, _), (0, _), (1, _)]) dX6_isLargeBeyond_1 (by decide) rfl ?_
  exact l_isLargeBeyond hw hS hse hm hQ S 0 (by omega) rfl
def p_low (V : Nat → Int64) (S : Nat) : Nat → Bool := fun k => decide (V k = lmn V S)
def p_one (V : Nat → Int64) (S : Nat) (q : Int32) : Nat → Bool := fun k => p_low V S k && decide (nI (lcn (p_low V S) k) = q)
set_option maxHeartbeats 4000000 in
set_option maxRecDepth 100000 in
theorem l_leastSet {c : cx} {d : Nat} {X : nX} {Y : nY} {Q : Option Value → nX → nY → Prop} {w : Nat} (hw : w < 12) {S : Nat} (hS : S ≤ 1024) (hse : X (2 + 7 * w) 7 = nI S) {q : Int32} (hQ : Q (some (.int (fI (ffind (p_one (Y (3 + 7 * w)) S q) S)))) X Y) : ∀ (nn i : Nat), i + nn = S → ffind (p_one (Y (3 + 7 * w)) S q) i = none → ss c mX6_leastSet (d + 2) Q 11 [(5, .int (nI i)), (4, .int (nI (lcn (p_low (Y (3 + 7 * w)) S) i))), (2, .long (lmn (Y (3 + 7 * w)) S)), (0, .ref (c_ad c (2 + 7 * w))), (1, .int q)] [] (X) (Y) := by
  intro nn
  induction nn with
  | zero =>
      intro i hin hinv
      simp only [Nat.add_zero] at hin
      subst hin
      refine ss_iload dX6_leastSet_11 0 rfl ?_
      refine ss_aload_n dX6_leastSet_13 3 rfl ?_
      refine ss_get (i := 2 + 7 * w) dX6_leastSet_14 flX6_36 (by omega) (sh_w0 hw _ _) rfl ?_
      rw [hse]
      refine sz_icmp_ge 50 dX6_leastSet_17 (by decide) (by omega) (by omega) (fun c17 => ?_) (fun c17 => by omega)
      refine ss_iconst (v := -1) dX6_leastSet_50 (by decide) ?_
      exact ss_iret dX6_leastSet_51 rfl rfl (cvi (by rw [hinv]; rfl) hQ)
  | succ nn ih =>
      intro i hin hinv
      refine ss_iload dX6_leastSet_11 0 rfl ?_
      refine ss_aload_n dX6_leastSet_13 3 rfl ?_
      refine ss_get (i := 2 + 7 * w) dX6_leastSet_14 flX6_36 (by omega) (sh_w0 hw _ _) rfl ?_
      rw [hse]
      refine sz_icmp_ge 50 dX6_leastSet_17 (by decide) (by omega) (by omega) (fun c17 => by omega) (fun c17 => ?_)
      refine ss_aload_n dX6_leastSet_20 3 rfl ?_
      refine ss_get (i := 2 + 7 * w) dX6_leastSet_21 flX6_9 (by omega) (sh_w0 hw _ _) rfl ?_
      refine ss_iload dX6_leastSet_24 0 rfl ?_
      refine ss_lald (i := 3 + 7 * w) dX6_leastSet_26 (by omega) (sh_w1 hw) (by omega) (by decide) ?_
      refine ss_lload_n dX6_leastSet_27 2 rfl ?_
      refine sv_ne 44 dX6_leastSet_28 dX6_leastSet_29 (by decide) (fun c28 => ?_) (fun c28 => ?_)
      · skip
        refine sz_inc (lv' := [(5, _), (4, _), (2, _), (0, _), (1, _)]) dX6_leastSet_44 0 rfl (by decide) rfl ?_
        refine ss_goto 11 dX6_leastSet_47 (by decide) ?_
        refine ss_eL (lv' := [(5, .int (nI (i + 1))), (4, .int (nI (lcn (p_low (Y (3 + 7 * w)) S) (i + 1)))), (2, .long (lmn (Y (3 + 7 * w)) S)), (0, .ref (c_ad c (2 + 7 * w))), (1, .int q)]) (by simp [lcn, p_low, *]) ?_
        exact ih (i + 1) (by omega) (ff_step hinv (by simp [p_one, p_low, *]))
      · skip
        refine ss_iload dX6_leastSet_32 1 rfl ?_
        refine ss_iload_n dX6_leastSet_34 4 rfl ?_
        refine ss_icmp_ne 41 dX6_leastSet_35 (by decide) (fun c35 => ?_) (fun c35 => ?_)
        · skip
          refine sz_inc (lv' := [(4, _), (5, _), (2, _), (0, _), (1, _)]) dX6_leastSet_41 1 rfl (by decide) rfl ?_
          refine sz_inc (lv' := [(5, _), (4, _), (2, _), (0, _), (1, _)]) dX6_leastSet_44 1 rfl (by decide) rfl ?_
          refine ss_goto 11 dX6_leastSet_47 (by decide) ?_
          refine ss_eL (lv' := [(5, .int (nI (i + 1))), (4, .int (nI (lcn (p_low (Y (3 + 7 * w)) S) (i + 1)))), (2, .long (lmn (Y (3 + 7 * w)) S)), (0, .ref (c_ad c (2 + 7 * w))), (1, .int q)]) (by simp [lcn, p_low, *]) ?_
          exact ih (i + 1) (by omega) (ff_step hinv (by simp [p_one, p_low, *]))
        · skip
          refine ss_iload dX6_leastSet_38 0 rfl ?_
          exact ss_iret dX6_leastSet_40 rfl rfl (cvi (by rw [ff_some hinv (by simp [p_one, p_low, *]) (by omega)]; rfl) hQ)
set_option maxHeartbeats 4000000 in
set_option maxRecDepth 100000 in
theorem q_leastSet {c : cx} {d : Nat} {X : nX} {Y : nY} {w : Nat} (hw : w < 12) {S : Nat} (hS : S ≤ 1024) (hse : X (2 + 7 * w) 7 = nI S) {q : Int32} : sc c mX6_leastSet (d + 2) [.ref (c_ad c (2 + 7 * w)), .int q] X Y (some (.int (fI (ffind (p_one (Y (3 + 7 * w)) S q) S)))) (X) (Y) := by
  intro Q hQ
  show ss c mX6_leastSet (d + 2) Q 0 [(0, .ref (c_ad c (2 + 7 * w))), (1, .int q)] [] X Y
  refine ss_aload_n dX6_leastSet_0 0 rfl ?_
  refine ss_callV (As := []) (i := 2 + 7 * w) dX6_leastSet_1 vlX6_84 clX6_leastValue rfl rfl (by omega) (sh_w0 hw _ _) rfl (Nat.le_of_ble_eq_true rfl) (Nat.le_of_ble_eq_true rfl) (q_leastValue hw hS hse) ?_
  refine ss_lstore_n (lv' := [(2, _), (0, _), (1, _)]) dX6_leastSet_4 (by decide) rfl ?_
  refine ss_iconst (v := nI 0) dX6_leastSet_5 (by decide) ?_
  refine ss_istore (lv' := [(4, _), (2, _), (0, _), (1, _)]) dX6_leastSet_6 (by decide) rfl ?_
  refine ss_iconst (v := nI 0) dX6_leastSet_8 (by decide) ?_
  refine ss_istore (lv' := [(5, _), (4, _), (2, _), (0, _), (1, _)]) dX6_leastSet_9 (by decide) rfl ?_
  exact l_leastSet hw hS hse hQ S 0 (by omega) rfl
set_option maxHeartbeats 4000000 in
set_option maxRecDepth 100000 in
theorem l_greatestGain {c : cx} {d : Nat} {X : nX} {Y : nY} {Q : Option Value → nX → nY → Prop} {w : Nat} (hw : w < 12) {n : Nat} (hn : n ≤ 10) (hth : X (2 + 7 * w) 6 = nI n) {s : Nat} (hs : s < 1024) (hQ : Q (some (.int (ggs (fun t => Y (3 + 7 * w) (s ||| 2 ^ t) - Y (3 + 7 * w) s) n).1)) X Y) : ∀ (nn i : Nat), i + nn = n → ss c mX6_greatestGain (d + 1) Q 7 [(5, .int (nI i)), (3, .long (ggs (fun t => Y (3 + 7 * w) (s ||| 2 ^ t) - Y (3 + 7 * w) s) i).2), (2, .int (ggs (fun t => Y (3 + 7 * w) (s ||| 2 ^ t) - Y (3 + 7 * w) s) i).1), (0, .ref (c_ad c (2 + 7 * w))), (1, .int (nI s))] [] (X) (Y) := by
  intro nn
  induction nn with
  | zero =>
      intro i hin
      simp only [Nat.add_zero] at hin
      subst hin
      refine ss_iload dX6_greatestGain_7 0 rfl ?_
      refine ss_aload_n dX6_greatestGain_9 3 rfl ?_
      refine ss_get (i := 2 + 7 * w) dX6_greatestGain_10 flX6_33 (by omega) (sh_w0 hw _ _) rfl ?_
      rw [hth]
      refine sz_icmp_ge 45 dX6_greatestGain_13 (by decide) (by omega) (by omega) (fun c13 => ?_) (fun c13 => by omega)
      refine ss_iload_n dX6_greatestGain_45 2 rfl ?_
      exact ss_iret dX6_greatestGain_46 rfl rfl (hQ)
  | succ nn ih =>
      intro i hin
      refine ss_iload dX6_greatestGain_7 0 rfl ?_
      refine ss_aload_n dX6_greatestGain_9 3 rfl ?_
      refine ss_get (i := 2 + 7 * w) dX6_greatestGain_10 flX6_33 (by omega) (sh_w0 hw _ _) rfl ?_
      rw [hth]
      refine sz_icmp_ge 45 dX6_greatestGain_13 (by decide) (by omega) (by omega) (fun c13 => by omega) (fun c13 => ?_)
      refine ss_aload_n dX6_greatestGain_16 3 rfl ?_
      refine ss_iload_n dX6_greatestGain_17 4 rfl ?_
      refine ss_iload dX6_greatestGain_18 0 rfl ?_
      refine ss_callV (As := [_, _]) (i := 2 + 7 * w) dX6_greatestGain_20 vlX6_91 clX6_gain rfl rfl (by omega) (sh_w0 hw _ _) rfl (Nat.le_of_ble_eq_true rfl) (Nat.le_of_ble_eq_true rfl) (q_gain hw hs (by omega)) ?_
      refine ss_lload_n dX6_greatestGain_23 1 rfl ?_
      refine sv_le 39 dX6_greatestGain_24 dX6_greatestGain_25 (by decide) (fun c24 => ?_) (fun c24 => ?_)
      · skip
        refine sz_inc (lv' := [(5, _), (3, _), (2, _), (0, _), (1, _)]) dX6_greatestGain_39 0 rfl (by decide) rfl ?_
        refine ss_goto 7 dX6_greatestGain_42 (by decide) ?_
        have e9 : ggs (fun t => Y (3 + 7 * w) (s ||| 2 ^ t) - Y (3 + 7 * w) s) (i + 1) = ggs (fun t => Y (3 + 7 * w) (s ||| 2 ^ t) - Y (3 + 7 * w) s) i := by
          show (if _ then _ else _) = _
          rw [if_pos c24]
        refine ss_eL (lv' := [(5, .int (nI (i + 1))), (3, .long (ggs (fun t => Y (3 + 7 * w) (s ||| 2 ^ t) - Y (3 + 7 * w) s) (i + 1)).2), (2, .int (ggs (fun t => Y (3 + 7 * w) (s ||| 2 ^ t) - Y (3 + 7 * w) s) (i + 1)).1), (0, .ref (c_ad c (2 + 7 * w))), (1, .int (nI s))]) (by rw [e9] <;> rfl) ?_
        exact ih (i + 1) (by omega)
      · skip
        refine ss_aload_n dX6_greatestGain_28 3 rfl ?_
        refine ss_iload_n dX6_greatestGain_29 4 rfl ?_
        refine ss_iload dX6_greatestGain_30 0 rfl ?_
        refine ss_callV (As := [_, _]) (i := 2 + 7 * w) dX6_greatestGain_32 vlX6_91 clX6_gain rfl rfl (by omega) (sh_w0 hw _ _) rfl (Nat.le_of_ble_eq_true rfl) (Nat.le_of_ble_eq_true rfl) (q_gain hw hs (by omega)) ?_
        refine ss_lstore_n (lv' := [(3, _), (5, _), (2, _), (0, _), (1, _)]) dX6_greatestGain_35 (by decide) rfl ?_
        refine ss_iload dX6_greatestGain_36 1 rfl ?_
        refine ss_istore_n (lv' := [(2, _), (3, _), (5, _), (0, _), (1, _)]) dX6_greatestGain_38 (by decide) rfl ?_
        refine sz_inc (lv' := [(5, _), (2, _), (3, _), (0, _), (1, _)]) dX6_greatestGain_39 2 rfl (by decide) rfl ?_
        refine ss_goto 7 dX6_greatestGain_42 (by decide) ?_
        refine ss_sub [0, 2, 1, 3, 4] rfl ?_
        have e9 : ggs (fun t => Y (3 + 7 * w) (s ||| 2 ^ t) - Y (3 + 7 * w) s) (i + 1) = (nI i, Y (3 + 7 * w) (s ||| 2 ^ i) - Y (3 + 7 * w) s) := by
          show (if _ then _ else _) = _
          rw [if_neg c24]
        refine ss_eL (lv' := [(5, .int (nI (i + 1))), (3, .long (ggs (fun t => Y (3 + 7 * w) (s ||| 2 ^ t) - Y (3 + 7 * w) s) (i + 1)).2), (2, .int (ggs (fun t => Y (3 + 7 * w) (s ||| 2 ^ t) - Y (3 + 7 * w) s) (i + 1)).1), (0, .ref (c_ad c (2 + 7 * w))), (1, .int (nI s))]) (by rw [e9] <;> rfl) ?_
        exact ih (i + 1) (by omega)
set_option maxHeartbeats 4000000 in
set_option maxRecDepth 100000 in
theorem q_greatestGain {c : cx} {d : Nat} {X : nX} {Y : nY} {w : Nat} (hw : w < 12) {n : Nat} (hn : n ≤ 10) (hth : X (2 + 7 * w) 6 = nI n) {s : Nat} (hs : s < 1024) : sc c mX6_greatestGain (d + 1) [.ref (c_ad c (2 + 7 * w)), .int (nI s)] X Y (some (.int (ggs (fun t => Y (3 + 7 * w) (s ||| 2 ^ t) - Y (3 + 7 * w) s) n).1)) (X) (Y) := by
  intro Q hQ
  show ss c mX6_greatestGain (d + 1) Q 0 [(0, .ref (c_ad c (2 + 7 * w))), (1, .int (nI s))] [] X Y
  refine ss_iconst (v := -1) dX6_greatestGain_0 (by decide) ?_
  refine ss_istore_n (lv' := [(2, _), (0, _), (1, _)]) dX6_greatestGain_1 (by decide) rfl ?_
  refine ss_lconst (v := 0) dX6_greatestGain_2 (by decide) ?_
  refine ss_lstore_n (lv' := [(3, _), (2, _), (0, _), (1, _)]) dX6_greatestGain_3 (by decide) rfl ?_
  refine ss_iconst (v := nI 0) dX6_greatestGain_4 (by decide) ?_
  refine ss_istore (lv' := [(5, _), (3, _), (2, _), (0, _), (1, _)]) dX6_greatestGain_5 (by decide) rfl ?_
  exact l_greatestGain hw hn hth hs hQ n 0 (by omega)
set_option maxHeartbeats 4000000 in
set_option maxRecDepth 100000 in
theorem l_greedySet {c : cx} {d : Nat} {X : nX} {Y : nY} {Q : Option Value → nX → nY → Prop} {w : Nat} (hw : w < 12) {n : Nat} (hn : n ≤ 10) (hth : X (2 + 7 * w) 6 = nI n) {m : Nat} (hm : m ≤ 10) (hQ : Q (some (.int (nI (gset (Y (3 + 7 * w)) n m)))) X Y) : ∀ (nn i : Nat), i + nn = m → ss c mX6_greedySet (d + 2) Q 4 [(3, .int (nI i)), (2, .int (nI (gset (Y (3 + 7 * w)) n i))), (0, .ref (c_ad c (2 + 7 * w))), (1, .int (nI m))] [] (X) (Y) := by
  intro nn
  induction nn with
  | zero =>
      intro i hin
      simp only [Nat.add_zero] at hin
      subst hin
      refine ss_iload_n dX6_greedySet_4 0 rfl ?_
      refine ss_iload_n dX6_greedySet_5 3 rfl ?_
      refine sz_icmp_ge 37 dX6_greedySet_6 (by decide) (by omega) (by omega) (fun c6 => ?_) (fun c6 => by omega)
      refine ss_iload_n dX6_greedySet_37 1 rfl ?_
      exact ss_iret dX6_greedySet_38 rfl rfl (hQ)
  | succ nn ih =>
      intro i hin
      refine ss_iload_n dX6_greedySet_4 0 rfl ?_
      refine ss_iload_n dX6_greedySet_5 3 rfl ?_
      refine sz_icmp_ge 37 dX6_greedySet_6 (by decide) (by omega) (by omega) (fun c6 => by omega) (fun c6 => ?_)
      refine ss_aload_n dX6_greedySet_9 2 rfl ?_
      refine ss_iload_n dX6_greedySet_10 1 rfl ?_
      refine ss_callV (As := [_]) (i := 2 + 7 * w) dX6_greedySet_11 vlX6_88 clX6_greatestGain rfl rfl (by omega) (sh_w0 hw _ _) rfl (Nat.le_of_ble_eq_true rfl) (Nat.le_of_ble_eq_true rfl) (q_greatestGain hw hn hth (by have := gset_lt (Y (3 + 7 * w)) n (by omega) i; have := Nat.pow_le_pow_right (n := 2) (by decide) hn; omega)) ?_
      refine ss_istore (lv' := [(4, _), (3, _), (2, _), (0, _), (1, _)]) dX6_greedySet_14 (by decide) rfl ?_
      refine ss_iload dX6_greedySet_16 0 rfl ?_
      refine ss_iconst (v := -1) dX6_greedySet_18 (by decide) ?_
      refine ss_icmp_ne 24 dX6_greedySet_19 (by decide) (fun c19 => ?_) (fun c19 => ?_)
      · skip
        obtain ⟨t9, ht9, e9⟩ := (ggs_in (fun t => Y (3 + 7 * w) (gset (Y (3 + 7 * w)) n i ||| 2 ^ t) - Y (3 + 7 * w) (gset (Y (3 + 7 * w)) n i)) n).resolve_left c19
        have e8 : gset (Y (3 + 7 * w)) n (i + 1) = gset (Y (3 + 7 * w)) n i ||| 2 ^ t9 := by
          show (if _ then _ else _) = _
          rw [if_neg c19, e9, nI_clamp (by omega)]
        rw [e9]
        refine ss_iload_n dX6_greedySet_24 2 rfl ?_
        refine ss_iconst (v := nI 1) dX6_greedySet_25 (by decide) ?_
        refine ss_iload dX6_greedySet_26 0 rfl ?_
        refine sz_shl1 dX6_greedySet_28 (by omega) ?_
        refine sz_ior dX6_greedySet_29 ?_
        refine ss_istore_n (lv' := [(2, _), (4, _), (3, _), (0, _), (1, _)]) dX6_greedySet_30 (by decide) rfl ?_
        refine sz_inc (lv' := [(3, _), (2, _), (4, _), (0, _), (1, _)]) dX6_greedySet_31 2 rfl (by decide) rfl ?_
        refine ss_goto 4 dX6_greedySet_34 (by decide) ?_
        refine ss_sub [0, 1, 3, 4] rfl ?_
        rw [← e8]
        exact ih (i + 1) (by omega)
      · skip
        refine ss_iload_n dX6_greedySet_22 2 rfl ?_
        exact ss_iret dX6_greedySet_23 rfl rfl (cvi (by have := gset_stop c19 (m - i); rw [show i + (m - i) = m by omega] at this; rw [this]) hQ)
set_option maxHeartbeats 4000000 in
set_option maxRecDepth 100000 in
theorem q_greedySet {c : cx} {d : Nat} {X : nX} {Y : nY} {w : Nat} (hw : w < 12) {n : Nat} (hn : n ≤ 10) (hth : X (2 + 7 * w) 6 = nI n) {m : Nat} (hm : m ≤ 10) : sc c mX6_greedySet (d + 2) [.ref (c_ad c (2 + 7 * w)), .int (nI m)] X Y (some (.int (nI (gset (Y (3 + 7 * w)) n m)))) (X) (Y) := by
  intro Q hQ
  show ss c mX6_greedySet (d + 2) Q 0 [(0, .ref (c_ad c (2 + 7 * w))), (1, .int (nI m))] [] X Y
  refine ss_iconst (v := nI 0) dX6_greedySet_0 (by decide) ?_
  refine ss_istore_n (lv' := [(2, _), (0, _), (1, _)]) dX6_greedySet_1 (by decide) rfl ?_
  refine ss_iconst (v := nI 0) dX6_greedySet_2 (by decide) ?_
  refine ss_istore_n (lv' := [(3, _), (2, _), (0, _), (1, _)]) dX6_greedySet_3 (by decide) rfl ?_
  exact l_greedySet hw hn hth hm hQ m 0 (by omega)
