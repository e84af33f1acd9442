theorem rkf_le (N : Nat → Int32) (s : Nat) (R : Nat → Int64) : (rkf N s R).1 ≤ 4 := by
  unfold rkf
  exact (gel_le _ _ 4).2
def rmx (V : Nat → Int64) (s : Nat) : Nat → Int64
  | 0 => 0
  | t + 1 => if hb s t = true then (if V (s ^^^ 2 ^ t) < rmx V s t then rmx V s t else V (s ^^^ 2 ^ t)) else rmx V s t
def rko (N : Nat → Int32) (V R : Nat → Int64) (n s : Nat) : Int64 := if cnt s 10 ≤ 4 then lN (rkf N s R).1 else rmx V s n
def rkw (N : Nat → Int32) (R : Nat → Int64) (s : Nat) : Nat → Int64 := if cnt s 10 ≤ 4 then (rkf N s R).2 else R
set_option maxHeartbeats 4000000 in
set_option maxRecDepth 100000 in
theorem l_rankOf {c : cx} {d : Nat} {X : nX} {Y : nY} {Q : Option Value → nX → nY → Prop} {w : Nat} (hw : w < 12) {n : Nat} (hn : n ≤ 10) (hth : X (2 + 7 * w) 6 = nI n) {s : Nat} (hs : s < 1024) (hQ : Q (some (.long (rmx (Y (3 + 7 * w)) s n))) X Y) : ∀ (nn i : Nat), i + nn = n → ss c mX6_rankOf (d + 3) Q 23 [(4, .int (nI i)), (2, .long (rmx (Y (3 + 7 * w)) s i)), (0, .ref (c_ad c (2 + 7 * w))), (1, .int (nI s))] [] (X) (Y) := by
  intro nn
  induction nn with
  | zero =>
      intro i hin
      simp only [Nat.add_zero] at hin
      subst hin
      refine ss_iload dX6_rankOf_23 0 rfl ?_
      refine ss_aload_n dX6_rankOf_25 2 rfl ?_
      refine ss_get (i := 2 + 7 * w) dX6_rankOf_26 flX6_33 (by omega) (sh_w0 hw _ _) rfl ?_
      rw [hth]
      refine sz_icmp_ge 63 dX6_rankOf_29 (by decide) (by omega) (by omega) (fun c29 => ?_) (fun c29 => by omega)
      refine ss_lload_n dX6_rankOf_63 1 rfl ?_
      exact ss_lret dX6_rankOf_64 rfl (hQ)
  | succ nn ih =>
      intro i hin
      refine ss_iload dX6_rankOf_23 0 rfl ?_
      refine ss_aload_n dX6_rankOf_25 2 rfl ?_
      refine ss_get (i := 2 + 7 * w) dX6_rankOf_26 flX6_33 (by omega) (sh_w0 hw _ _) rfl ?_
      rw [hth]
      refine sz_icmp_ge 63 dX6_rankOf_29 (by decide) (by omega) (by omega) (fun c29 => by omega) (fun c29 => ?_)
      refine ss_iload_n dX6_rankOf_32 3 rfl ?_
      refine ss_iload dX6_rankOf_33 0 rfl ?_
      refine ss_callSN (As := [_, _]) dX6_rankOf_35 vlX6_49 clX7_hasThing rfl rfl (Nat.le_of_ble_eq_true rfl) (Nat.le_of_ble_eq_true rfl) (q_hasThing (by omega) (by omega)) ?_
      refine sy_if_eq 57 dX6_rankOf_38 (by decide) (fun c38 => ?_) (fun c38 => ?_)
      · skip
        refine sz_inc (lv' := [(4, _), (2, _), (0, _), (1, _)]) dX6_rankOf_57 0 rfl (by decide) rfl ?_
        refine ss_goto 23 dX6_rankOf_60 (by decide) ?_
        refine ss_eL (lv' := [(4, .int (nI (i + 1))), (2, .long (rmx (Y (3 + 7 * w)) s (i + 1))), (0, .ref (c_ad c (2 + 7 * w))), (1, .int (nI s))]) (by simp [rmx, c38]) ?_
        exact ih (i + 1) (by omega)
      · skip
        refine ss_lload_n dX6_rankOf_41 1 rfl ?_
        refine ss_aload_n dX6_rankOf_42 2 rfl ?_
        refine ss_get (i := 2 + 7 * w) dX6_rankOf_43 flX6_9 (by omega) (sh_w0 hw _ _) rfl ?_
        refine ss_iload_n dX6_rankOf_46 3 rfl ?_
        refine ss_iconst (v := nI 1) dX6_rankOf_47 (by decide) ?_
        refine ss_iload dX6_rankOf_48 0 rfl ?_
        refine sz_shl1 dX6_rankOf_50 (by omega) ?_
        refine sz_ixor dX6_rankOf_51 ?_
        refine ss_lald (i := 3 + 7 * w) dX6_rankOf_52 (by omega) (sh_w1 hw) (xb_xor10 hs (xb_p10 (by omega))) (by decide) ?_
        refine ss_max dX6_rankOf_53 vlX6_66 mh_smax mh_i mh_cmax (Nat.le_of_ble_eq_true rfl) ?_
        refine ss_lstore_n (lv' := [(2, _), (4, _), (0, _), (1, _)]) dX6_rankOf_56 (by decide) rfl ?_
        refine sz_inc (lv' := [(4, _), (2, _), (0, _), (1, _)]) dX6_rankOf_57 1 rfl (by decide) rfl ?_
        refine ss_goto 23 dX6_rankOf_60 (by decide) ?_
        refine ss_eL (lv' := [(4, .int (nI (i + 1))), (2, .long (rmx (Y (3 + 7 * w)) s (i + 1))), (0, .ref (c_ad c (2 + 7 * w))), (1, .int (nI s))]) (by simp [rmx, c38]) ?_
        exact ih (i + 1) (by omega)
set_option maxHeartbeats 4000000 in
set_option maxRecDepth 100000 in
theorem q_rankOf {c : cx} {d : Nat} {X : nX} {Y : nY} {w : Nat} (hw : w < 12) {n : Nat} (hn : n ≤ 10) (hth : X (2 + 7 * w) 6 = nI n) {s : Nat} (hs : s < 1024) : sc c mX6_rankOf (d + 3) [.ref (c_ad c (2 + 7 * w)), .int (nI s)] (X) (Y) (some (.long (rko (X (5 + 7 * w)) (Y (3 + 7 * w)) (Y (6 + 7 * w)) n s))) (X) (srw Y (6 + 7 * w) (rkw (X (5 + 7 * w)) (Y (6 + 7 * w)) s)) := by
  intro Q hQ
  show ss c mX6_rankOf (d + 3) Q 0 [(0, .ref (c_ad c (2 + 7 * w))), (1, .int (nI s))] [] (X) (Y)
  refine ss_iload_n dX6_rankOf_0 1 rfl ?_
  refine ss_callS (As := [_]) dX6_rankOf_1 vlX6_57 clJ6_bitCount_0f7a4 rfl rfl (Nat.le_of_ble_eq_true rfl) (Nat.le_of_ble_eq_true rfl) (q_bitCount hs) ?_
  refine ss_iconst (v := nI 4) dX6_rankOf_4 (by decide) ?_
  refine sz_icmp_gt 18 dX6_rankOf_5 (by decide) (by have := cnt_le s 10; omega) (by decide) (fun c5 => ?_) (fun c5 => ?_)
  · skip
    refine ss_lconst (v := 0) dX6_rankOf_18 (by decide) ?_
    refine ss_lstore_n (lv' := [(2, _), (0, _), (1, _)]) dX6_rankOf_19 (by decide) rfl ?_
    refine ss_iconst (v := nI 0) dX6_rankOf_20 (by decide) ?_
    refine ss_istore (lv' := [(4, _), (2, _), (0, _), (1, _)]) dX6_rankOf_21 (by decide) rfl ?_
    rw [rko, rkw, if_neg (by omega), if_neg (by omega), srw_self] at hQ
    exact l_rankOf hw hn hth hs hQ n 0 (by omega)
  · skip
    refine ss_aload_n dX6_rankOf_8 0 rfl ?_
    refine ss_get (i := 2 + 7 * w) dX6_rankOf_9 flX6_18 (by omega) (sh_w0 hw _ _) rfl ?_
    refine ss_iload_n dX6_rankOf_12 1 rfl ?_
    refine ss_callV (As := [_]) (i := 4 + 7 * w) dX6_rankOf_13 vlX6_63 clX3_rankOfFew rfl rfl (by omega) (sh_w2 hw _ _) rfl (Nat.le_of_ble_eq_true rfl) (Nat.le_of_ble_eq_true rfl) (q_rankOfFew hw hs) ?_
    refine sz_i2l dX6_rankOf_16 (by have := rkf_le (X (5 + 7 * w)) s (Y (6 + 7 * w)); omega) ?_
    exact ss_lret dX6_rankOf_17 rfl (by
      rw [rko, rkw, if_pos (by omega), if_pos (by omega)] at hQ
      exact hQ)
def ran (N : Nat → Int32) (n ch : Nat) (V R : Nat → Int64) : Nat → (Nat → Int64) × (Nat → Int64)
  | 0 => (V, R)
  | i + 1 => if hb i ch = true then (vp_updL (ran N n ch V R i).1 i (rko N (ran N n ch V R i).1 (ran N n ch V R i).2 n i), rkw N (ran N n ch V R i).2 i) else ran N n ch V R i
theorem ran_s (N : Nat → Int32) (n ch : Nat) (V R : Nat → Int64) (i : Nat) : ran N n ch V R (i + 1) = if hb i ch = true then (vp_updL (ran N n ch V R i).1 i (rko N (ran N n ch V R i).1 (ran N n ch V R i).2 n i), rkw N (ran N n ch V R i).2 i) else ran N n ch V R i := rfl
set_option maxHeartbeats 4000000 in
set_option maxRecDepth 100000 in
theorem l_rankAnew {c : cx} {d : Nat} {X : nX} {Y : nY} {Q : Option Value → nX → nY → Prop} {w : Nat} (hw : w < 12) {S : Nat} (hS : S ≤ 1024) (hse : X (2 + 7 * w) 7 = nI S) {n : Nat} (hn : n ≤ 10) (hth : X (2 + 7 * w) 6 = nI n) {ch : Nat} (hch : ch < 10) {V R : Nat → Int64} (hQ : Q none X (srw (srw Y (6 + 7 * w) (ran (X (5 + 7 * w)) n ch V R S).2) (3 + 7 * w) (ran (X (5 + 7 * w)) n ch V R S).1)) : ∀ (nn i : Nat), i + nn = S → ss c mX6_rankAnew (d + 4) Q 2 [(2, .int (nI i)), (0, .ref (c_ad c (2 + 7 * w))), (1, .int (nI ch))] [] (X) (srw (srw Y (6 + 7 * w) (ran (X (5 + 7 * w)) n ch V R i).2) (3 + 7 * w) (ran (X (5 + 7 * w)) n ch V R i).1) := by
  intro nn
  induction nn with
  | zero =>
      intro i hin
      simp only [Nat.add_zero] at hin
      subst hin
      refine ss_iload_n dX6_rankAnew_2 0 rfl ?_
      refine ss_aload_n dX6_rankAnew_3 1 rfl ?_
      refine ss_get (i := 2 + 7 * w) dX6_rankAnew_4 flX6_36 (by omega) (sh_w0 hw _ _) rfl ?_
      rw [hse]
      refine sz_icmp_ge 35 dX6_rankAnew_7 (by decide) (by omega) (by omega) (fun c7 => ?_) (fun c7 => by omega)
      exact ss_vret dX6_rankAnew_35 rfl (hQ)
  | succ nn ih =>
      intro i hin
      refine ss_iload_n dX6_rankAnew_2 0 rfl ?_
      refine ss_aload_n dX6_rankAnew_3 1 rfl ?_
      refine ss_get (i := 2 + 7 * w) dX6_rankAnew_4 flX6_36 (by omega) (sh_w0 hw _ _) rfl ?_
      rw [hse]
      refine sz_icmp_ge 35 dX6_rankAnew_7 (by decide) (by omega) (by omega) (fun c7 => by omega) (fun c7 => ?_)
      refine ss_iload_n dX6_rankAnew_10 0 rfl ?_
      refine ss_iload_n dX6_rankAnew_11 2 rfl ?_
      refine ss_callSN (As := [_, _]) dX6_rankAnew_12 vlX6_49 clX7_hasThing rfl rfl (Nat.le_of_ble_eq_true rfl) (Nat.le_of_ble_eq_true rfl) (q_hasThing (by omega) (by omega)) ?_
      refine sy_if_eq 29 dX6_rankAnew_15 (by decide) (fun c15 => ?_) (fun c15 => ?_)
      · skip
        refine sz_inc (lv' := [(2, _), (0, _), (1, _)]) dX6_rankAnew_29 0 rfl (by decide) rfl ?_
        refine ss_goto 2 dX6_rankAnew_32 (by decide) ?_
        have e9 : ran (X (5 + 7 * w)) n ch V R (i + 1) = ran (X (5 + 7 * w)) n ch V R i := by rw [ran_s, if_neg (by simp [c15])]
        have h7 := ih (i + 1) (by omega)
        rw [e9] at h7
        exact h7
      · skip
        refine ss_aload_n dX6_rankAnew_18 1 rfl ?_
        refine ss_get (i := 2 + 7 * w) dX6_rankAnew_19 flX6_9 (by omega) (sh_w0 hw _ _) rfl ?_
        refine ss_iload_n dX6_rankAnew_22 0 rfl ?_
        refine ss_aload_n dX6_rankAnew_23 1 rfl ?_
        refine ss_iload_n dX6_rankAnew_24 0 rfl ?_
        refine ss_callV (As := [_]) (i := 2 + 7 * w) dX6_rankAnew_25 vlX6_53 clX6_rankOf rfl rfl (by omega) (sh_w0 hw _ _) rfl (Nat.le_of_ble_eq_true rfl) (Nat.le_of_ble_eq_true rfl) (q_rankOf hw hn hth (by omega)) ?_
        refine ss_last (i := 3 + 7 * w) dX6_rankAnew_28 (by omega) (sh_w1 hw) (by omega) (by decide) ?_
        refine sz_inc (lv' := [(2, _), (0, _), (1, _)]) dX6_rankAnew_29 0 rfl (by decide) rfl ?_
        refine ss_goto 2 dX6_rankAnew_32 (by decide) ?_
        have h7 := ih (i + 1) (by omega)
        have e9 : ran (X (5 + 7 * w)) n ch V R (i + 1) = (vp_updL (ran (X (5 + 7 * w)) n ch V R i).1 i (rko (X (5 + 7 * w)) (ran (X (5 + 7 * w)) n ch V R i).1 (ran (X (5 + 7 * w)) n ch V R i).2 n i), rkw (X (5 + 7 * w)) (ran (X (5 + 7 * w)) n ch V R i).2 i) := by rw [ran_s, if_pos c15]
        rw [e9] at h7
        rw [srw_at, srw_ne (by omega), srw_at]
        refine ss_eY ?_ h7
        funext b k
        simp only [upl, srw]
        by_cases h1 : b = 3 + 7 * w
        · subst h1; simp [show ¬ 3 + 7 * w = 6 + 7 * w by omega]
        · by_cases h2 : b = 6 + 7 * w
          · subst h2; simp [h1]
          · simp [h1, h2]
set_option maxHeartbeats 4000000 in
set_option maxRecDepth 100000 in
theorem q_rankAnew {c : cx} {d : Nat} {X : nX} {Y : nY} {w : Nat} (hw : w < 12) {S : Nat} (hS : S ≤ 1024) (hse : X (2 + 7 * w) 7 = nI S) {n : Nat} (hn : n ≤ 10) (hth : X (2 + 7 * w) 6 = nI n) {ch : Nat} (hch : ch < 10) : sc c mX6_rankAnew (d + 4) [.ref (c_ad c (2 + 7 * w)), .int (nI ch)] (X) (Y) none (X) (srw (srw Y (6 + 7 * w) (ran (X (5 + 7 * w)) n ch (Y (3 + 7 * w)) (Y (6 + 7 * w)) S).2) (3 + 7 * w) (ran (X (5 + 7 * w)) n ch (Y (3 + 7 * w)) (Y (6 + 7 * w)) S).1) := by
  intro Q hQ
  show ss c mX6_rankAnew (d + 4) Q 0 [(0, .ref (c_ad c (2 + 7 * w))), (1, .int (nI ch))] [] (X) (Y)
  refine ss_iconst (v := nI 0) dX6_rankAnew_0 (by decide) ?_
  refine ss_istore_n (lv' := [(2, _), (0, _), (1, _)]) dX6_rankAnew_1 (by decide) rfl ?_
  have h9 := l_rankAnew (X := X) (Y := Y) (c := c) (d := d) (V := Y (3 + 7 * w)) (R := Y (6 + 7 * w)) hw hS hse hn hth hch hQ S 0 (by omega)
  rw [show (ran (X (5 + 7 * w)) n ch (Y (3 + 7 * w)) (Y (6 + 7 * w)) 0).2 = Y (6 + 7 * w) from rfl, show (ran (X (5 + 7 * w)) n ch (Y (3 + 7 * w)) (Y (6 + 7 * w)) 0).1 = Y (3 + 7 * w) from rfl, srw_self, srw_self] at h9
  exact h9
