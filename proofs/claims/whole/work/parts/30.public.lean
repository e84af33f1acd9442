/-! the public methods: a row for each way that they end -/
theorem kd_tf {P : Prop} {b : Bool} (h1 : b = true) (h2 : b = false) : P := by rw [h1] at h2; cases h2
theorem kd_ft {P : Prop} {b : Bool} (h1 : b = false) (h2 : b = true) : P := by rw [h1] at h2; cases h2
theorem ix_2p {s n : Nat} (h : s < 2 ^ n) (hn : n ≤ 10) : s < 1024 := by
  have := Nat.pow_le_pow_right (n := 2) (by decide) hn
  omega
theorem p2_le {n : Nat} (hn : n ≤ 10) : 2 ^ n ≤ 1024 := by
  have := Nat.pow_le_pow_right (n := 2) (by decide) hn
  omega
theorem x_begin_ne {X : nX} {w n a b : Nat} {k : Int32} (h1 : a ≠ 2 + 7 * w) (h2 : a ≠ 5 + 7 * w) (h3 : a ≠ 8 + 7 * w) : x_begin X w k n a b = X a b := by
  unfold x_begin x_begin0
  rw [mpx_ne h3, mpx_ne h2]
  simp only [up2_at]
  simp [h1]
theorem p2_1 {n : Nat} : 1 ≤ 2 ^ n := Nat.one_le_two_pow
set_option maxHeartbeats 4000000 in
set_option maxRecDepth 100000 in
theorem q_isWorth {c : cx} {d : Nat} {X : nX} {Y : nY} {m : Nat} (hm : m ≤ 12) (h7 : X 0 7 = nI m) {w : Int32} : sc c mX7_isWorth (d + 1) [.ref (c_ad c 0), .int w] (X) (Y) (some (.int (bI (ix w m)))) (X) (Y) := by
  intro Q hQ
  show ss c mX7_isWorth (d + 1) Q 0 [(0, .ref (c_ad c 0)), (1, .int w)] [] (X) (Y)
  refine ss_iload_n dX7_isWorth_0 1 rfl ?_
  refine ss_i2l dX7_isWorth_1 ?_
  refine ss_lconst (v := 0) dX7_isWorth_2 (by decide) ?_
  refine ss_aload_n dX7_isWorth_3 0 rfl ?_
  refine ss_get (i := 0) dX7_isWorth_4 flX7_57 (by omega) (sh_r0 _ _) rfl ?_
  rw [h7]
  refine ss_iconst (v := nI 1) dX7_isWorth_7 (by decide) ?_
  refine ss_isub dX7_isWorth_8 ?_
  refine ss_i2l dX7_isWorth_9 ?_
  refine ss_callS (As := [_, _, _]) dX7_isWorth_10 vlX7_53 clX7_isWithin rfl rfl (Nat.le_of_ble_eq_true rfl) (Nat.le_of_ble_eq_true rfl) (q_isWithin) ?_
  exact ss_iret dX7_isWorth_13 rfl (bI_nar _) (cvi (by rw [wi_ix (nI_s1l (by omega))]) hQ)
set_option maxHeartbeats 4000000 in
set_option maxRecDepth 100000 in
theorem q_isThing {c : cx} {d : Nat} {X : nX} {Y : nY} {n : Nat} (hn : n ≤ 10) (h6 : X 0 6 = nI n) {t : Int32} : sc c mX7_isThing (d + 1) [.ref (c_ad c 0), .int t] (X) (Y) (some (.int (bI (ix t n)))) (X) (Y) := by
  intro Q hQ
  show ss c mX7_isThing (d + 1) Q 0 [(0, .ref (c_ad c 0)), (1, .int t)] [] (X) (Y)
  refine ss_iload_n dX7_isThing_0 1 rfl ?_
  refine ss_i2l dX7_isThing_1 ?_
  refine ss_lconst (v := 0) dX7_isThing_2 (by decide) ?_
  refine ss_aload_n dX7_isThing_3 0 rfl ?_
  refine ss_get (i := 0) dX7_isThing_4 flX7_61 (by omega) (sh_r0 _ _) rfl ?_
  rw [h6]
  refine ss_iconst (v := nI 1) dX7_isThing_7 (by decide) ?_
  refine ss_isub dX7_isThing_8 ?_
  refine ss_i2l dX7_isThing_9 ?_
  refine ss_callS (As := [_, _, _]) dX7_isThing_10 vlX7_53 clX7_isWithin rfl rfl (Nat.le_of_ble_eq_true rfl) (Nat.le_of_ble_eq_true rfl) (q_isWithin) ?_
  exact ss_iret dX7_isThing_13 rfl (bI_nar _) (cvi (by rw [wi_ix (nI_s1l (by omega))]) hQ)
set_option maxHeartbeats 4000000 in
set_option maxRecDepth 100000 in
theorem q_isSet {c : cx} {d : Nat} {X : nX} {Y : nY} {n : Nat} (hn : n ≤ 10) (h6 : X 0 6 = nI n) {s : Int32} : sc c mX7_isSet (d + 1) [.ref (c_ad c 0), .int s] (X) (Y) (some (.int (bI (ix s (2 ^ n))))) (X) (Y) := by
  intro Q hQ
  show ss c mX7_isSet (d + 1) Q 0 [(0, .ref (c_ad c 0)), (1, .int s)] [] (X) (Y)
  refine ss_iload_n dX7_isSet_0 1 rfl ?_
  refine ss_i2l dX7_isSet_1 ?_
  refine ss_lconst (v := 0) dX7_isSet_2 (by decide) ?_
  refine ss_iconst (v := nI 1) dX7_isSet_3 (by decide) ?_
  refine ss_aload_n dX7_isSet_4 0 rfl ?_
  refine ss_get (i := 0) dX7_isSet_5 flX7_61 (by omega) (sh_r0 _ _) rfl ?_
  rw [h6]
  refine sz_shl1 dX7_isSet_8 (by omega) ?_
  refine ss_iconst (v := nI 1) dX7_isSet_9 (by decide) ?_
  refine ss_isub dX7_isSet_10 ?_
  refine ss_i2l dX7_isSet_11 ?_
  refine ss_callS (As := [_, _, _]) dX7_isSet_12 vlX7_53 clX7_isWithin rfl rfl (Nat.le_of_ble_eq_true rfl) (Nat.le_of_ble_eq_true rfl) (q_isWithin) ?_
  exact ss_iret dX7_isSet_15 rfl (bI_nar _) (cvi (by rw [wi_ix (nI_s1l (by have := p2_le hn; omega))]) hQ)
set_option maxHeartbeats 4000000 in
set_option maxRecDepth 100000 in
theorem q_isSheet {c : cx} {d : Nat} {X : nX} {Y : nY} {s : Int32} : sc c mX7_isSheet (d + 1) [.int s] (X) (Y) (some (.int (bI (ix s 4)))) (X) (Y) := by
  intro Q hQ
  show ss c mX7_isSheet (d + 1) Q 0 [(0, .int s)] [] (X) (Y)
  refine ss_iload_n dX7_isSheet_0 0 rfl ?_
  refine ss_i2l dX7_isSheet_1 ?_
  refine ss_lconst (v := 0) dX7_isSheet_2 (by decide) ?_
  refine ss_ldc2 dX7_isSheet_3 kcX7_240 ?_
  refine ss_callS (As := [_, _, _]) dX7_isSheet_6 vlX7_53 clX7_isWithin rfl rfl (Nat.le_of_ble_eq_true rfl) (Nat.le_of_ble_eq_true rfl) (q_isWithin) ?_
  exact ss_iret dX7_isSheet_9 rfl (bI_nar _) (cvi (by rw [wi_ix (n := 4) rfl]) hQ)
set_option maxHeartbeats 4000000 in
set_option maxRecDepth 100000 in
theorem q_isForm {c : cx} {d : Nat} {X : nX} {Y : nY} {s : Int32} : sc c mX7_isForm (d + 1) [.int s] (X) (Y) (some (.int (bI (ix s 3)))) (X) (Y) := by
  intro Q hQ
  show ss c mX7_isForm (d + 1) Q 0 [(0, .int s)] [] (X) (Y)
  refine ss_iload_n dX7_isForm_0 0 rfl ?_
  refine ss_i2l dX7_isForm_1 ?_
  refine ss_lconst (v := 0) dX7_isForm_2 (by decide) ?_
  refine ss_ldc2 dX7_isForm_3 kcX7_225 ?_
  refine ss_callS (As := [_, _, _]) dX7_isForm_6 vlX7_53 clX7_isWithin rfl rfl (Nat.le_of_ble_eq_true rfl) (Nat.le_of_ble_eq_true rfl) (q_isWithin) ?_
  exact ss_iret dX7_isForm_9 rfl (bI_nar _) (cvi (by rw [wi_ix (n := 3) rfl]) hQ)
set_option maxHeartbeats 4000000 in
set_option maxRecDepth 100000 in
theorem q_meet {c : cx} {d : Nat} {X : nX} {Y : nY} {k : Int32} : sc c mX7_meet d [.ref (c_ad c 0), .int k] (X) (Y) (some (.int (nI 0))) (up2 X 0 8 k) (Y) := by
  intro Q hQ
  show ss c mX7_meet d Q 0 [(0, .ref (c_ad c 0)), (1, .int k)] [] (X) (Y)
  refine ss_aload_n dX7_meet_0 0 rfl ?_
  refine ss_iload_n dX7_meet_1 1 rfl ?_
  refine ss_put (i := 0) dX7_meet_2 fwX7_79 (by omega) (sh_r0 _ _) rfl rfl (Nat.le_of_ble_eq_true rfl) (sh_r0 _ _) ?_
  refine ss_iconst (v := nI 0) dX7_meet_5 (by decide) ?_
  exact ss_iret dX7_meet_6 rfl rfl (hQ)
set_option maxHeartbeats 4000000 in
set_option maxRecDepth 100000 in
theorem l_canBeTold {c : cx} {d : Nat} {X : nX} {Y : nY} {Q : Option Value → nX → nY → Prop} {s S : Nat} (hs : s < 4) (hS : S ≤ 1024) (hQ : Q (some (.int (bI (!(lany (fun k => decide (1 ≤ k) && !(wi (Y (88 + 2 * s) k) (-1000000) 1000000)) S))))) X Y) : ∀ (nn i : Nat), i + nn = S → ((1 ≤ i ∧ ffind (fun k => decide (1 ≤ k) && !(wi (Y (88 + 2 * s) k) (-1000000) 1000000)) i = none)) → ss c mX7_canBeTold (d + 2) Q 2 [(2, .int (nI i)), (0, .ref (c_ad c (88 + 2 * s))), (1, .int (nI S))] [] (X) (Y) := by
  intro nn
  induction nn with
  | zero =>
      intro i hin hinv
      simp only [Nat.add_zero] at hin
      subst hin
      refine ss_iload_n dX7_canBeTold_2 0 rfl ?_
      refine ss_iload_n dX7_canBeTold_3 2 rfl ?_
      refine sz_icmp_ge 27 dX7_canBeTold_4 (by decide) (by omega) (by omega) (fun c4 => ?_) (fun c4 => by omega)
      refine ss_iconst (v := nI 1) dX7_canBeTold_27 (by decide) ?_
      exact ss_iret dX7_canBeTold_28 rfl rfl (cvi (by rw [lany_f hinv.2]; rfl) hQ)
  | succ nn ih =>
      intro i hin hinv
      refine ss_iload_n dX7_canBeTold_2 0 rfl ?_
      refine ss_iload_n dX7_canBeTold_3 2 rfl ?_
      refine sz_icmp_ge 27 dX7_canBeTold_4 (by decide) (by omega) (by omega) (fun c4 => by omega) (fun c4 => ?_)
      refine ss_aload_n dX7_canBeTold_7 1 rfl ?_
      refine ss_iload_n dX7_canBeTold_8 0 rfl ?_
      refine ss_lald (i := 88 + 2 * s) dX7_canBeTold_9 (by omega) (sh_s1 hs) (by omega) (by decide) ?_
      refine ss_ldc2 dX7_canBeTold_10 kcX7_140 ?_
      refine ss_callS (As := [_, _]) dX7_canBeTold_13 vlX7_142 clX7_isInSize rfl rfl (Nat.le_of_ble_eq_true rfl) (Nat.le_of_ble_eq_true rfl) (q_isInSize) ?_
      refine sy_if_ne 21 dX7_canBeTold_16 (by decide) (fun c16 => ?_) (fun c16 => ?_)
      · skip
        refine sz_inc (lv' := [(2, _), (0, _), (1, _)]) dX7_canBeTold_21 0 rfl (by decide) rfl ?_
        refine ss_goto 2 dX7_canBeTold_24 (by decide) ?_
        exact ih (i + 1) (by omega) ⟨by omega, ff_step hinv.2 (by simp [c16])⟩
      · skip
        refine ss_iconst (v := nI 0) dX7_canBeTold_19 (by decide) ?_
        exact ss_iret dX7_canBeTold_20 rfl rfl (cvi (by rw [lany_t hinv.2 (by simp [c16, hinv.1]) (by omega)]; rfl) hQ)
set_option maxHeartbeats 4000000 in
set_option maxRecDepth 100000 in
theorem q_canBeTold {c : cx} {d : Nat} {X : nX} {Y : nY} {s S : Nat} (hs : s < 4) (hS : S ≤ 1024) (hS1 : 1 ≤ S) : sc c mX7_canBeTold (d + 2) [.ref (c_ad c (88 + 2 * s)), .int (nI S)] (X) (Y) (some (.int (bI (!(lany (fun k => decide (1 ≤ k) && !(wi (Y (88 + 2 * s) k) (-1000000) 1000000)) S))))) (X) (Y) := by
  intro Q hQ
  show ss c mX7_canBeTold (d + 2) Q 0 [(0, .ref (c_ad c (88 + 2 * s))), (1, .int (nI S))] [] (X) (Y)
  refine ss_iconst (v := nI 1) dX7_canBeTold_0 (by decide) ?_
  refine ss_istore_n (lv' := [(2, _), (0, _), (1, _)]) dX7_canBeTold_1 (by decide) rfl ?_
  exact l_canBeTold hs hS hQ (S - 1) 1 (by omega) ⟨Nat.le_refl _, rfl⟩
set_option maxHeartbeats 4000000 in
set_option maxRecDepth 100000 in
theorem q_beginWorth {c : cx} {d : Nat} {X : nX} {Y : nY} {n : Nat} (hn : n ≤ 10) (h6 : X 0 6 = nI n) {j : Nat} (hj : j < 12) (h7 : X 0 7 = nI j) {k : Int32} : sc c mX7_beginWorth (d + 2) [.ref (c_ad c 0), .int k] (X) (Y) (some (.int (nI j))) (up2 (x_begin X j k n) 0 7 (nI (j + 1))) (y_begin Y j n) := by
  intro Q hQ
  show ss c mX7_beginWorth (d + 2) Q 0 [(0, .ref (c_ad c 0)), (1, .int k)] [] (X) (Y)
  refine ss_aload_n dX7_beginWorth_0 0 rfl ?_
  refine ss_get (i := 0) dX7_beginWorth_1 flX7_57 (by omega) (sh_r0 _ _) rfl ?_
  rw [h7]
  refine ss_istore_n (lv' := [(2, _), (0, _), (1, _)]) dX7_beginWorth_4 (by decide) rfl ?_
  refine ss_aload_n dX7_beginWorth_5 1 rfl ?_
  refine ss_get (i := 0) dX7_beginWorth_6 flX7_11 (by omega) (sh_r0 _ _) rfl ?_
  refine ss_iload_n dX7_beginWorth_9 0 rfl ?_
  refine ss_worth (w := j) dX7_beginWorth_10 hj ?_
  refine ss_iload_n dX7_beginWorth_11 2 rfl ?_
  refine ss_aload_n dX7_beginWorth_12 1 rfl ?_
  refine ss_get (i := 0) dX7_beginWorth_13 flX7_61 (by omega) (sh_r0 _ _) rfl ?_
  rw [h6]
  refine ss_callV (As := [_, _]) (i := 2 + 7 * j) dX7_beginWorth_16 vlX7_316 clX6_begin rfl rfl (by omega) (sh_w0 hj _ _) rfl (Nat.le_of_ble_eq_true rfl) (Nat.le_of_ble_eq_true rfl) (q_begin hj hn) ?_
  refine ss_aload_n dX7_beginWorth_19 1 rfl ?_
  refine ss_dup dX7_beginWorth_20 rfl ?_
  refine ss_get (i := 0) dX7_beginWorth_21 flX7_57 (by omega) (sh_r0 _ _) rfl ?_
  rw [x_begin_ne (by omega) (by omega) (by omega), h7]
  refine ss_iconst (v := nI 1) dX7_beginWorth_24 (by decide) ?_
  refine sz_iadd dX7_beginWorth_25 ?_
  refine ss_put (i := 0) dX7_beginWorth_26 fwX7_57 (by omega) (sh_r0 _ _) rfl rfl (Nat.le_of_ble_eq_true rfl) (sh_r0 _ _) ?_
  refine ss_iload_n dX7_beginWorth_29 0 rfl ?_
  exact ss_iret dX7_beginWorth_30 rfl rfl (hQ)
