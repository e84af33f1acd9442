/-! the reference: its readers -/
def vr (Y : nY) (w : Nat) : Nat → Int64 := fun s => Y 108 (1024 * w + s)
set_option maxHeartbeats 4000000 in
set_option maxRecDepth 100000 in
theorem m_within {c : cx} {d : Nat} {X : nX} {Y : nY} {v lo hi : Int64} : sc c mX8_within d [.long v, .long lo, .long hi] (X) (Y) (some (.int (bI (wi v lo hi)))) (X) (Y) := by
  intro Q hQ
  show ss c mX8_within d Q 0 [(0, .long v), (2, .long lo), (4, .long hi)] [] (X) (Y)
  refine ss_lload_n dX8_within_0 0 rfl ?_
  refine ss_lload_n dX8_within_1 1 rfl ?_
  refine sv_lt 17 dX8_within_2 dX8_within_3 (by decide) (fun c2 => ?_) (fun c2 => ?_)
  · skip
    refine ss_iconst (v := nI 0) dX8_within_17 (by decide) ?_
    exact ss_iret dX8_within_18 rfl rfl (cvi (by first | (rw [wi_tt c2 c9]; rfl) | (rw [wi_f1 c2]; rfl) | (rw [wi_f2 c9]; rfl)) hQ)
  · skip
    refine ss_lload_n dX8_within_6 0 rfl ?_
    refine ss_lload dX8_within_7 2 rfl ?_
    refine sv_gt 17 dX8_within_9 dX8_within_10 (by decide) (fun c9 => ?_) (fun c9 => ?_)
    · skip
      refine ss_iconst (v := nI 0) dX8_within_17 (by decide) ?_
      exact ss_iret dX8_within_18 rfl rfl (cvi (by first | (rw [wi_tt c2 c9]; rfl) | (rw [wi_f1 c2]; rfl) | (rw [wi_f2 c9]; rfl)) hQ)
    · skip
      refine ss_iconst (v := nI 1) dX8_within_13 (by decide) ?_
      refine ss_goto 18 dX8_within_14 (by decide) ?_
      exact ss_iret dX8_within_18 rfl rfl (cvi (by first | (rw [wi_tt c2 c9]; rfl) | (rw [wi_f1 c2]; rfl) | (rw [wi_f2 c9]; rfl)) hQ)
set_option maxHeartbeats 4000000 in
set_option maxRecDepth 100000 in
theorem m_isWorth {c : cx} {d : Nat} {X : nX} {Y : nY} {m : Nat} (hm : m ≤ 12) (h7 : X 105 1 = nI m) {w : Int32} : sc c mX8_isWorth (d + 1) [.ref (c_ad c 105), .int w] (X) (Y) (some (.int (bI (ix w m)))) (X) (Y) := by
  intro Q hQ
  show ss c mX8_isWorth (d + 1) Q 0 [(0, .ref (c_ad c 105)), (1, .int w)] [] (X) (Y)
  refine ss_iload_n dX8_isWorth_0 1 rfl ?_
  refine ss_i2l dX8_isWorth_1 ?_
  refine ss_lconst (v := 0) dX8_isWorth_2 (by decide) ?_
  refine ss_aload_n dX8_isWorth_3 0 rfl ?_
  refine ss_get (i := 105) dX8_isWorth_4 flX8_84 (by omega) (sh_r105 _ _) rfl ?_
  rw [h7]
  refine ss_iconst (v := nI 1) dX8_isWorth_7 (by decide) ?_
  refine ss_isub dX8_isWorth_8 ?_
  refine ss_i2l dX8_isWorth_9 ?_
  refine ss_callS (As := [_, _, _]) dX8_isWorth_10 vlX8_89 clX8_within rfl rfl (Nat.le_of_ble_eq_true rfl) (Nat.le_of_ble_eq_true rfl) (m_within) ?_
  exact ss_iret dX8_isWorth_13 rfl (bI_nar _) (cvi (by rw [wi_ix (nI_s1l (by omega))]) hQ)
set_option maxHeartbeats 4000000 in
set_option maxRecDepth 100000 in
theorem m_isThing {c : cx} {d : Nat} {X : nX} {Y : nY} {n : Nat} (hn : n ≤ 10) (h6 : X 105 0 = nI n) {t : Int32} : sc c mX8_isThing (d + 1) [.ref (c_ad c 105), .int t] (X) (Y) (some (.int (bI (ix t n)))) (X) (Y) := by
  intro Q hQ
  show ss c mX8_isThing (d + 1) Q 0 [(0, .ref (c_ad c 105)), (1, .int t)] [] (X) (Y)
  refine ss_iload_n dX8_isThing_0 1 rfl ?_
  refine ss_i2l dX8_isThing_1 ?_
  refine ss_lconst (v := 0) dX8_isThing_2 (by decide) ?_
  refine ss_aload_n dX8_isThing_3 0 rfl ?_
  refine ss_get (i := 105) dX8_isThing_4 flX8_80 (by omega) (sh_r105 _ _) rfl ?_
  rw [h6]
  refine ss_iconst (v := nI 1) dX8_isThing_7 (by decide) ?_
  refine ss_isub dX8_isThing_8 ?_
  refine ss_i2l dX8_isThing_9 ?_
  refine ss_callS (As := [_, _, _]) dX8_isThing_10 vlX8_89 clX8_within rfl rfl (Nat.le_of_ble_eq_true rfl) (Nat.le_of_ble_eq_true rfl) (m_within) ?_
  exact ss_iret dX8_isThing_13 rfl (bI_nar _) (cvi (by rw [wi_ix (nI_s1l (by omega))]) hQ)
set_option maxHeartbeats 4000000 in
set_option maxRecDepth 100000 in
theorem m_last {c : cx} {d : Nat} {X : nX} {Y : nY} {n : Nat} (hn : n ≤ 10) (h6 : X 105 0 = nI n) : sc c mX8_last d [.ref (c_ad c 105)] (X) (Y) (some (.int (nI (2 ^ n - 1)))) (X) (Y) := by
  intro Q hQ
  show ss c mX8_last d Q 0 [(0, .ref (c_ad c 105))] [] (X) (Y)
  refine ss_iconst (v := nI 1) dX8_last_0 (by decide) ?_
  refine ss_aload_n dX8_last_1 0 rfl ?_
  refine ss_get (i := 105) dX8_last_2 flX8_80 (by omega) (sh_r105 _ _) rfl ?_
  rw [h6]
  refine sz_shl1 dX8_last_5 (by omega) ?_
  refine ss_iconst (v := nI 1) dX8_last_6 (by decide) ?_
  refine sz_isub dX8_last_7 p2_1 ?_
  exact ss_iret dX8_last_8 rfl rfl (hQ)
set_option maxHeartbeats 4000000 in
set_option maxRecDepth 100000 in
theorem m_isSet {c : cx} {d : Nat} {X : nX} {Y : nY} {n : Nat} (hn : n ≤ 10) (h6 : X 105 0 = nI n) {s : Int32} : sc c mX8_isSet (d + 1) [.ref (c_ad c 105), .int s] (X) (Y) (some (.int (bI (ix s (2 ^ n))))) (X) (Y) := by
  intro Q hQ
  show ss c mX8_isSet (d + 1) Q 0 [(0, .ref (c_ad c 105)), (1, .int s)] [] (X) (Y)
  refine ss_iload_n dX8_isSet_0 1 rfl ?_
  refine ss_i2l dX8_isSet_1 ?_
  refine ss_lconst (v := 0) dX8_isSet_2 (by decide) ?_
  refine ss_aload_n dX8_isSet_3 0 rfl ?_
  refine ss_callV (As := []) (i := 105) dX8_isSet_4 vlX8_93 clX8_last rfl rfl (by omega) (sh_r105 _ _) rfl (Nat.le_of_ble_eq_true rfl) (Nat.le_of_ble_eq_true rfl) (m_last hn h6) ?_
  refine ss_i2l dX8_isSet_7 ?_
  refine ss_callS (As := [_, _, _]) dX8_isSet_8 vlX8_89 clX8_within rfl rfl (Nat.le_of_ble_eq_true rfl) (Nat.le_of_ble_eq_true rfl) (m_within) ?_
  exact ss_iret dX8_isSet_11 rfl (bI_nar _) (cvi (by rw [wi_ix (n := 2 ^ n) (by rw [Int32.toInt_toInt64, nI_toInt (by have := p2_le hn; omega)]; have := p2_1 (n := n); omega)]) hQ)
set_option maxHeartbeats 4000000 in
set_option maxRecDepth 100000 in
theorem m_isSheet {c : cx} {d : Nat} {X : nX} {Y : nY} {s : Int32} : sc c mX8_isSheet (d + 1) [.int s] (X) (Y) (some (.int (bI (ix s 4)))) (X) (Y) := by
  intro Q hQ
  show ss c mX8_isSheet (d + 1) Q 0 [(0, .int s)] [] (X) (Y)
  refine ss_iload_n dX8_isSheet_0 0 rfl ?_
  refine ss_i2l dX8_isSheet_1 ?_
  refine ss_lconst (v := 0) dX8_isSheet_2 (by decide) ?_
  refine ss_ldc2 dX8_isSheet_3 kcX8_97 ?_
  refine ss_callS (As := [_, _, _]) dX8_isSheet_6 vlX8_89 clX8_within rfl rfl (Nat.le_of_ble_eq_true rfl) (Nat.le_of_ble_eq_true rfl) (m_within) ?_
  exact ss_iret dX8_isSheet_9 rfl (bI_nar _) (cvi (by rw [wi_ix (n := 4) rfl]) hQ)
set_option maxHeartbeats 4000000 in
set_option maxRecDepth 100000 in
theorem l_mbegin {c : cx} {d : Nat} {X : nX} {Y : nY} {Q : Option Value → nX → nY → Prop} {k : Nat} (hQ : Q none (mpx X 117 0 10 (fun k => nI k)) (mpl Y 118 0 10 (fun _ => 0))) : ∀ (nn i : Nat), i + nn = 10 → ss c mX8_begin d Q 17 [(2, .int (nI i)), (0, .ref (c_ad c 105)), (1, .int (nI k))] [] (mpx X 117 0 i (fun k => nI k)) (mpl Y 118 0 i (fun _ => 0)) := by
  intro nn
  induction nn with
  | zero =>
      intro i hin
      simp only [Nat.add_zero] at hin
      subst hin
      refine ss_iload_n dX8_begin_17 0 rfl ?_
      refine ss_bipush (v := nI 10) dX8_begin_18 (by decide) ?_
      refine sz_icmp_ge 43 dX8_begin_20 (by decide) (by omega) (by omega) (fun c20 => ?_) (fun c20 => by omega)
      exact ss_vret dX8_begin_43 rfl (hQ)
  | succ nn ih =>
      intro i hin
      refine ss_iload_n dX8_begin_17 0 rfl ?_
      refine ss_bipush (v := nI 10) dX8_begin_18 (by decide) ?_
      refine sz_icmp_ge 43 dX8_begin_20 (by decide) (by omega) (by omega) (fun c20 => by omega) (fun c20 => ?_)
      refine ss_aload_n dX8_begin_23 1 rfl ?_
      refine ss_get (i := 105) dX8_begin_24 flX8_45 (by omega) (sh_r105 _ _) rfl ?_
      refine ss_iload_n dX8_begin_27 0 rfl ?_
      refine ss_iload_n dX8_begin_28 0 rfl ?_
      refine ss_iast (i := 117) dX8_begin_29 (by omega) (sh_r117) (by omega) (by decide) ?_
      refine ss_aload_n dX8_begin_30 1 rfl ?_
      refine ss_get (i := 105) dX8_begin_31 flX8_48 (by omega) (sh_r105 _ _) rfl ?_
      refine ss_iload_n dX8_begin_34 0 rfl ?_
      refine ss_lconst (v := 0) dX8_begin_35 (by decide) ?_
      refine ss_last (i := 118) dX8_begin_36 (by omega) (sh_r118) (by omega) (by decide) ?_
      refine sz_inc (lv' := [(2, _), (0, _), (1, _)]) dX8_begin_37 0 rfl (by decide) rfl ?_
      refine ss_goto 17 dX8_begin_40 (by decide) ?_
      refine ss_eX (mpx_s (Nat.zero_le _) rfl) ?_
      refine ss_eY (mpl_s (Nat.zero_le _) rfl) ?_
      exact ih (i + 1) (by omega)
set_option maxHeartbeats 4000000 in
set_option maxRecDepth 100000 in
theorem m_begin {c : cx} {d : Nat} {X : nX} {Y : nY} {k : Nat} : sc c mX8_begin d [.ref (c_ad c 105), .int (nI k)] (X) (Y) none (mpx (up2 (up2 X 105 0 (nI k)) 105 1 (nI 0)) 117 0 10 (fun k => nI k)) (mpl (upl Y 105 15 1) 118 0 10 (fun _ => 0)) := by
  intro Q hQ
  show ss c mX8_begin d Q 0 [(0, .ref (c_ad c 105)), (1, .int (nI k))] [] (X) (Y)
  refine ss_aload_n dX8_begin_0 0 rfl ?_
  refine ss_iload_n dX8_begin_1 1 rfl ?_
  refine ss_put (i := 105) dX8_begin_2 fwX8_80 (by omega) (sh_r105 _ _) rfl rfl (Nat.le_of_ble_eq_true rfl) (sh_r105 _ _) ?_
  refine ss_aload_n dX8_begin_5 0 rfl ?_
  refine ss_iconst (v := nI 0) dX8_begin_6 (by decide) ?_
  refine ss_put (i := 105) dX8_begin_7 fwX8_84 (by omega) (sh_r105 _ _) rfl rfl (Nat.le_of_ble_eq_true rfl) (sh_r105 _ _) ?_
  refine ss_aload_n dX8_begin_10 0 rfl ?_
  refine ss_lconst (v := 1) dX8_begin_11 (by decide) ?_
  refine ss_putj (i := 105) dX8_begin_12 fwX8_51 (by omega) (sh_r105 _ _) (Nat.le_of_ble_eq_true rfl) (sh_r105 _ _) ?_
  refine ss_iconst (v := nI 0) dX8_begin_15 (by decide) ?_
  refine ss_istore_n (lv' := [(2, _), (0, _), (1, _)]) dX8_begin_16 (by decide) rfl ?_
  have h9 := l_mbegin (X := up2 (up2 X 105 0 (nI k)) 105 1 (nI 0)) (Y := upl Y 105 15 1) (c := c) (d := d) (k := k) hQ 10 0 (by omega)
  rw [mpx_0, mpl_0] at h9
  exact h9
set_option maxHeartbeats 4000000 in
set_option maxRecDepth 100000 in
theorem l_countOf {c : cx} {d : Nat} {X : nX} {Y : nY} {Q : Option Value → nX → nY → Prop} {s : Nat} (hs : s < 1024) (hQ : Q (some (.int (nI (cnt s 10)))) X Y) : ∀ (nn i : Nat), i + nn = 10 → ss c mX8_countOf d Q 4 [(2, .int (nI i)), (1, .int (nI (cnt s i))), (0, .int (nI s))] [] (X) (Y) := by
  intro nn
  induction nn with
  | zero =>
      intro i hin
      simp only [Nat.add_zero] at hin
      subst hin
      refine ss_iload_n dX8_countOf_4 0 rfl ?_
      refine ss_bipush (v := nI 10) dX8_countOf_5 (by decide) ?_
      refine sz_icmp_ge 24 dX8_countOf_7 (by decide) (by omega) (by omega) (fun c7 => ?_) (fun c7 => by omega)
      refine ss_iload_n dX8_countOf_24 1 rfl ?_
      exact ss_iret dX8_countOf_25 rfl rfl (hQ)
  | succ nn ih =>
      intro i hin
      refine ss_iload_n dX8_countOf_4 0 rfl ?_
      refine ss_bipush (v := nI 10) dX8_countOf_5 (by decide) ?_
      refine sz_icmp_ge 24 dX8_countOf_7 (by decide) (by omega) (by omega) (fun c7 => by omega) (fun c7 => ?_)
      refine ss_iload_n dX8_countOf_10 1 rfl ?_
      refine ss_iload_n dX8_countOf_11 2 rfl ?_
      refine ss_iload_n dX8_countOf_12 0 rfl ?_
      refine sz_ishr dX8_countOf_13 (by omega) (by omega) ?_
      refine ss_iconst (v := nI 1) dX8_countOf_14 (by decide) ?_
      refine sz_iand dX8_countOf_15 ?_
      refine sz_iadd dX8_countOf_16 ?_
      refine ss_istore_n (lv' := [(1, _), (2, _), (0, _)]) dX8_countOf_17 (by decide) rfl ?_
      refine sz_inc (lv' := [(2, _), (1, _), (0, _)]) dX8_countOf_18 1 rfl (by decide) rfl ?_
      refine ss_goto 4 dX8_countOf_21 (by decide) ?_
      rw [xb_bit]
      exact ih (i + 1) (by omega)
set_option maxHeartbeats 4000000 in
set_option maxRecDepth 100000 in
theorem m_countOf {c : cx} {d : Nat} {X : nX} {Y : nY} {s : Nat} (hs : s < 1024) : sc c mX8_countOf d [.int (nI s)] (X) (Y) (some (.int (nI (cnt s 10)))) (X) (Y) := by
  intro Q hQ
  show ss c mX8_countOf d Q 0 [(0, .int (nI s))] [] (X) (Y)
  refine ss_iconst (v := nI 0) dX8_countOf_0 (by decide) ?_
  refine ss_istore_n (lv' := [(1, _), (0, _)]) dX8_countOf_1 (by decide) rfl ?_
  refine ss_iconst (v := nI 0) dX8_countOf_2 (by decide) ?_
  refine ss_istore_n (lv' := [(2, _), (1, _), (0, _)]) dX8_countOf_3 (by decide) rfl ?_
  exact l_countOf hs hQ 10 0 (by omega)
set_option maxHeartbeats 4000000 in
set_option maxRecDepth 100000 in
theorem m_v {c : cx} {d : Nat} {X : nX} {Y : nY} {w : Nat} (hw : w < 12) {s : Nat} (hs : s < 1024) : sc c mX8_v d [.ref (c_ad c 105), .int (nI w), .int (nI s)] (X) (Y) (some (.long (vr Y w s))) (X) (Y) := by
  intro Q hQ
  show ss c mX8_v d Q 0 [(0, .ref (c_ad c 105)), (1, .int (nI w)), (2, .int (nI s))] [] (X) (Y)
  refine ss_aload_n dX8_v_0 0 rfl ?_
  refine ss_get (i := 105) dX8_v_1 flX8_17 (by omega) (sh_r105 _ _) rfl ?_
  refine ss_sipush (v := nI 1024) dX8_v_4 (by decide) ?_
  refine ss_iload_n dX8_v_7 1 rfl ?_
  refine sz_imul dX8_v_8 ?_
  refine ss_iload_n dX8_v_9 2 rfl ?_
  refine sz_iadd dX8_v_10 ?_
  refine ss_lald (i := 108) dX8_v_11 (by omega) (sh_r108) (by omega) (by decide) ?_
  exact ss_lret dX8_v_12 rfl (hQ)
set_option maxHeartbeats 4000000 in
set_option maxRecDepth 100000 in
theorem m_size {c : cx} {d : Nat} {X : nX} {Y : nY} {v : Int64} : sc c mX8_size d [.long v] (X) (Y) (some (.long (if 0 ≤ v then v else -v))) (X) (Y) := by
  intro Q hQ
  show ss c mX8_size d Q 0 [(0, .long v)] [] (X) (Y)
  refine ss_lload_n dX8_size_0 0 rfl ?_
  refine ss_lconst (v := 0) dX8_size_1 (by decide) ?_
  refine sv_ge 11 dX8_size_2 dX8_size_3 (by decide) (fun c2 => ?_) (fun c2 => ?_)
  · skip
    refine ss_lload_n dX8_size_11 0 rfl ?_
    exact ss_lret dX8_size_12 rfl (cvl (by first | rw [if_pos c2] | rw [if_neg c2]) hQ)
  · skip
    refine ss_lload_n dX8_size_6 0 rfl ?_
    refine ss_lneg dX8_size_7 ?_
    refine ss_goto 12 dX8_size_8 (by decide) ?_
    exact ss_lret dX8_size_12 rfl (cvl (by first | rw [if_pos c2] | rw [if_neg c2]) hQ)
set_option maxHeartbeats 4000000 in
set_option maxRecDepth 100000 in
theorem l_leastOf {c : cx} {d : Nat} {X : nX} {Y : nY} {Q : Option Value → nX → nY → Prop} {w : Nat} (hw : w < 12) {n : Nat} (hn : n ≤ 10) (h6 : X 105 0 = nI n) {S : Nat} (hSn : S = 2 ^ n)  (hQ : Q (some (.long (lmn (vr Y w) S))) X Y) : ∀ (nn i : Nat), i + nn = S → ss c mX8_leastOf (d + 1) Q 5 [(4, .int (nI i)), (2, .long (lmn (vr Y w) i)), (0, .ref (c_ad c 105)), (1, .int (nI w))] [] (X) (Y) := by
  have h1n := p2_1 (n := n)
  have h2n := p2_le hn
  intro nn
  induction nn with
  | zero =>
      intro i hin
      simp only [Nat.add_zero] at hin
      subst hin
      refine ss_iload dX8_leastOf_5 0 rfl ?_
      refine ss_aload_n dX8_leastOf_7 2 rfl ?_
      refine ss_callV (As := []) (i := 105) dX8_leastOf_8 vlX8_93 clX8_last rfl rfl (by omega) (sh_r105 _ _) rfl (Nat.le_of_ble_eq_true rfl) (Nat.le_of_ble_eq_true rfl) (m_last hn h6) ?_
      refine sz_icmp_gt 44 dX8_leastOf_11 (by decide) (by omega) (by omega) (fun c11 => ?_) (fun c11 => by omega)
      refine ss_lload_n dX8_leastOf_44 1 rfl ?_
      exact ss_lret dX8_leastOf_45 rfl (hQ)
  | succ nn ih =>
      intro i hin
      refine ss_iload dX8_leastOf_5 0 rfl ?_
      refine ss_aload_n dX8_leastOf_7 2 rfl ?_
      refine ss_callV (As := []) (i := 105) dX8_leastOf_8 vlX8_93 clX8_last rfl rfl (by omega) (sh_r105 _ _) rfl (Nat.le_of_ble_eq_true rfl) (Nat.le_of_ble_eq_true rfl) (m_last hn h6) ?_
      refine sz_icmp_gt 44 dX8_leastOf_11 (by decide) (by omega) (by omega) (fun c11 => by omega) (fun c11 => ?_)
      refine ss_aload_n dX8_leastOf_14 2 rfl ?_
      refine ss_iload_n dX8_leastOf_15 3 rfl ?_
      refine ss_iload dX8_leastOf_16 0 rfl ?_
      refine ss_callV (As := [_, _]) (i := 105) dX8_leastOf_18 vlX8_205 clX8_v rfl rfl (by omega) (sh_r105 _ _) rfl (Nat.le_of_ble_eq_true rfl) (Nat.le_of_ble_eq_true rfl) (m_v hw (by omega)) ?_
      refine ss_lload_n dX8_leastOf_21 1 rfl ?_
      refine sv_ge 36 dX8_leastOf_22 dX8_leastOf_23 (by decide) (fun c22 => ?_) (fun c22 => ?_)
      · skip
        refine ss_lload_n dX8_leastOf_36 1 rfl ?_
        refine ss_lstore_n (lv' := [(2, _), (4, _), (0, _), (1, _)]) dX8_leastOf_37 (by decide) rfl ?_
        refine sz_inc (lv' := [(4, _), (2, _), (0, _), (1, _)]) dX8_leastOf_38 1 rfl (by decide) rfl ?_
        refine ss_goto 5 dX8_leastOf_41 (by decide) ?_
        refine ss_eL (lv' := [(4, .int (nI (i + 1))), (2, .long (lmn (vr Y w) (i + 1))), (0, .ref (c_ad c 105)), (1, .int (nI w))]) (by show _ = [_, (2, Value.long (if _ then _ else _)), _, _]; rw [if_neg (by rw [Int64.le_iff_toInt_le] at c22; rw [Int64.lt_iff_toInt_lt]; omega)] <;> rfl) ?_
        exact ih (i + 1) (by omega)
      · skip
        refine ss_aload_n dX8_leastOf_26 2 rfl ?_
        refine ss_iload_n dX8_leastOf_27 3 rfl ?_
        refine ss_iload dX8_leastOf_28 0 rfl ?_
        refine ss_callV (As := [_, _]) (i := 105) dX8_leastOf_30 vlX8_205 clX8_v rfl rfl (by omega) (sh_r105 _ _) rfl (Nat.le_of_ble_eq_true rfl) (Nat.le_of_ble_eq_true rfl) (m_v hw (by omega)) ?_
        refine ss_goto 37 dX8_leastOf_33 (by decide) ?_
        refine ss_lstore_n (lv' := [(2, _), (4, _), (0, _), (1, _)]) dX8_leastOf_37 (by decide) rfl ?_
        refine sz_inc (lv' := [(4, _), (2, _), (0, _), (1, _)]) dX8_leastOf_38 1 rfl (by decide) rfl ?_
        refine ss_goto 5 dX8_leastOf_41 (by decide) ?_
        refine ss_eL (lv' := [(4, .int (nI (i + 1))), (2, .long (lmn (vr Y w) (i + 1))), (0, .ref (c_ad c 105)), (1, .int (nI w))]) (by show _ = [_, (2, Value.long (if _ then _ else _)), _, _]; rw [if_pos (by rw [Int64.le_iff_toInt_le] at c22; rw [Int64.lt_iff_toInt_lt]; omega)] <;> rfl) ?_
        exact ih (i + 1) (by omega)
set_option maxHeartbeats 4000000 in
set_option maxRecDepth 100000 in
theorem m_leastOf {c : cx} {d : Nat} {X : nX} {Y : nY} {w : Nat} (hw : w < 12) {n : Nat} (hn : n ≤ 10) (h6 : X 105 0 = nI n) : sc c mX8_leastOf (d + 1) [.ref (c_ad c 105), .int (nI w)] (X) (Y) (some (.long (lmn (vr Y w) (2 ^ n)))) (X) (Y) := by
  intro Q hQ
  show ss c mX8_leastOf (d + 1) Q 0 [(0, .ref (c_ad c 105)), (1, .int (nI w))] [] (X) (Y)
  refine ss_lconst (v := 0) dX8_leastOf_0 (by decide) ?_
  refine ss_lstore_n (lv' := [(2, _), (0, _), (1, _)]) dX8_leastOf_1 (by decide) rfl ?_
  refine ss_iconst (v := nI 0) dX8_leastOf_2 (by decide) ?_
  refine ss_istore (lv' := [(4, _), (2, _), (0, _), (1, _)]) dX8_leastOf_3 (by decide) rfl ?_
  exact l_leastOf hw hn h6 rfl hQ (2 ^ n) 0 (by omega)
set_option maxHeartbeats 4000000 in
set_option maxRecDepth 100000 in
theorem l_sharesOf {c : cx} {d : Nat} {X : nX} {Y : nY} {Q : Option Value → nX → nY → Prop} {n : Nat} (hn : n ≤ 10) (h6 : X 105 0 = nI n) {s : Nat} (hs : s < 1024) (hQ : Q (some (.long (lsm (Y 118) s n))) X Y) : ∀ (nn i : Nat), i + nn = n → ss c mX8_sharesOf d Q 5 [(4, .int (nI i)), (2, .long (lsm (Y 118) s i)), (0, .ref (c_ad c 105)), (1, .int (nI s))] [] (X) (Y) := by
  intro nn
  induction nn with
  | zero =>
      intro i hin
      simp only [Nat.add_zero] at hin
      subst hin
      refine ss_iload dX8_sharesOf_5 0 rfl ?_
      refine ss_aload_n dX8_sharesOf_7 2 rfl ?_
      refine ss_get (i := 105) dX8_sharesOf_8 flX8_80 (by omega) (sh_r105 _ _) rfl ?_
      rw [h6]
      refine sz_icmp_ge 44 dX8_sharesOf_11 (by decide) (by omega) (by omega) (fun c11 => ?_) (fun c11 => by omega)
      refine ss_lload_n dX8_sharesOf_44 1 rfl ?_
      exact ss_lret dX8_sharesOf_45 rfl (hQ)
  | succ nn ih =>
      intro i hin
      refine ss_iload dX8_sharesOf_5 0 rfl ?_
      refine ss_aload_n dX8_sharesOf_7 2 rfl ?_
      refine ss_get (i := 105) dX8_sharesOf_8 flX8_80 (by omega) (sh_r105 _ _) rfl ?_
      rw [h6]
      refine sz_icmp_ge 44 dX8_sharesOf_11 (by decide) (by omega) (by omega) (fun c11 => by omega) (fun c11 => ?_)
      refine ss_lload_n dX8_sharesOf_14 1 rfl ?_
      refine ss_iload_n dX8_sharesOf_15 3 rfl ?_
      refine ss_iload dX8_sharesOf_16 0 rfl ?_
      refine sz_ishr dX8_sharesOf_18 (by omega) (by omega) ?_
      refine ss_iconst (v := nI 1) dX8_sharesOf_19 (by decide) ?_
      refine sz_iand dX8_sharesOf_20 ?_
      refine ss_iconst (v := nI 1) dX8_sharesOf_21 (by decide) ?_
      refine sz_icmp_ne 35 dX8_sharesOf_22 (by decide) (by have := xb_bit s i; have := Bool.toNat_le (hb s i); omega) (by decide) (fun c22 => ?_) (fun c22 => ?_)
      · skip
        refine ss_lconst (v := 0) dX8_sharesOf_35 (by decide) ?_
        refine ss_ladd dX8_sharesOf_36 ?_
        refine ss_lstore_n (lv' := [(2, _), (4, _), (0, _), (1, _)]) dX8_sharesOf_37 (by decide) rfl ?_
        refine sz_inc (lv' := [(4, _), (2, _), (0, _), (1, _)]) dX8_sharesOf_38 1 rfl (by decide) rfl ?_
        refine ss_goto 5 dX8_sharesOf_41 (by decide) ?_
        refine ss_eL (lv' := [(4, .int (nI (i + 1))), (2, .long (lsm (Y 118) s (i + 1))), (0, .ref (c_ad c 105)), (1, .int (nI s))]) (by show _ = [_, (2, Value.long (if _ then _ else _)), _, _]; rw [if_neg (fun h9 => c22 ((xb_bit1 s i).mpr h9)), Int64.add_zero]) ?_
        exact ih (i + 1) (by omega)
      · skip
        refine ss_aload_n dX8_sharesOf_25 2 rfl ?_
        refine ss_get (i := 105) dX8_sharesOf_26 flX8_48 (by omega) (sh_r105 _ _) rfl ?_
        refine ss_iload dX8_sharesOf_29 0 rfl ?_
        refine ss_lald (i := 118) dX8_sharesOf_31 (by omega) (sh_r118) (by omega) (by decide) ?_
        refine ss_goto 36 dX8_sharesOf_32 (by decide) ?_
        refine ss_ladd dX8_sharesOf_36 ?_
        refine ss_lstore_n (lv' := [(2, _), (4, _), (0, _), (1, _)]) dX8_sharesOf_37 (by decide) rfl ?_
        refine sz_inc (lv' := [(4, _), (2, _), (0, _), (1, _)]) dX8_sharesOf_38 1 rfl (by decide) rfl ?_
        refine ss_goto 5 dX8_sharesOf_41 (by decide) ?_
        refine ss_eL (lv' := [(4, .int (nI (i + 1))), (2, .long (lsm (Y 118) s (i + 1))), (0, .ref (c_ad c 105)), (1, .int (nI s))]) (by show _ = [_, (2, Value.long (if _ then _ else _)), _, _]; rw [if_pos ((xb_bit1 s i).mp c22)]) ?_
        exact ih (i + 1) (by omega)
set_option maxHeartbeats 4000000 in
set_option maxRecDepth 100000 in
theorem m_sharesOf {c : cx} {d : Nat} {X : nX} {Y : nY} {n : Nat} (hn : n ≤ 10) (h6 : X 105 0 = nI n) {s : Nat} (hs : s < 1024) : sc c mX8_sharesOf d [.ref (c_ad c 105), .int (nI s)] (X) (Y) (some (.long (lsm (Y 118) s n))) (X) (Y) := by
  intro Q hQ
  show ss c mX8_sharesOf d Q 0 [(0, .ref (c_ad c 105)), (1, .int (nI s))] [] (X) (Y)
  refine ss_lconst (v := 0) dX8_sharesOf_0 (by decide) ?_
  refine ss_lstore_n (lv' := [(2, _), (0, _), (1, _)]) dX8_sharesOf_1 (by decide) rfl ?_
  refine ss_iconst (v := nI 0) dX8_sharesOf_2 (by decide) ?_
  refine ss_istore (lv' := [(4, _), (2, _), (0, _), (1, _)]) dX8_sharesOf_3 (by decide) rfl ?_
  exact l_sharesOf hn h6 hs hQ n 0 (by omega)
set_option maxHeartbeats 4000000 in
set_option maxRecDepth 100000 in
theorem l_isIn {c : cx} {d : Nat} {X : nX} {Y : nY} {Q : Option Value → nX → nY → Prop} {w : Nat} (hw : w < 12) {n : Nat} (hn : n ≤ 10) (h6 : X 105 0 = nI n) {S : Nat} (hSn : S = 2 ^ n)  (hQ : Q (some (.int (fIn (vr Y w) (Y 118) n S (Y 105 15)))) X Y) : ∀ (nn i : Nat), i + nn = S → (ffind (p_in (vr Y w) (Y 118) n (Y 105 15)) i = none) → ss c mX8_isIn (d + 1) Q 2 [(2, .int (nI i)), (0, .ref (c_ad c 105)), (1, .int (nI w))] [] (X) (Y) := by
  have h1n := p2_1 (n := n)
  have h2n := p2_le hn
  intro nn
  induction nn with
  | zero =>
      intro i hin hinv
      simp only [Nat.add_zero] at hin
      subst hin
      refine ss_iload_n dX8_isIn_2 0 rfl ?_
      refine ss_aload_n dX8_isIn_3 1 rfl ?_
      refine ss_callV (As := []) (i := 105) dX8_isIn_4 vlX8_93 clX8_last rfl rfl (by omega) (sh_r105 _ _) rfl (Nat.le_of_ble_eq_true rfl) (Nat.le_of_ble_eq_true rfl) (m_last hn h6) ?_
      refine sz_icmp_gt 38 dX8_isIn_7 (by decide) (by omega) (by omega) (fun c7 => ?_) (fun c7 => by omega)
      refine ss_aload_n dX8_isIn_38 1 rfl ?_
      refine ss_aload_n dX8_isIn_39 1 rfl ?_
      refine ss_callV (As := []) (i := 105) dX8_isIn_40 vlX8_93 clX8_last rfl rfl (by omega) (sh_r105 _ _) rfl (Nat.le_of_ble_eq_true rfl) (Nat.le_of_ble_eq_true rfl) (m_last hn h6) ?_
      refine ss_callV (As := [_]) (i := 105) dX8_isIn_43 vlX8_234 clX8_sharesOf rfl rfl (by omega) (sh_r105 _ _) rfl (Nat.le_of_ble_eq_true rfl) (Nat.le_of_ble_eq_true rfl) (m_sharesOf hn h6 (by omega)) ?_
      refine ss_aload_n dX8_isIn_46 1 rfl ?_
      refine ss_iload_n dX8_isIn_47 2 rfl ?_
      refine ss_aload_n dX8_isIn_48 1 rfl ?_
      refine ss_callV (As := []) (i := 105) dX8_isIn_49 vlX8_93 clX8_last rfl rfl (by omega) (sh_r105 _ _) rfl (Nat.le_of_ble_eq_true rfl) (Nat.le_of_ble_eq_true rfl) (m_last hn h6) ?_
      refine ss_callV (As := [_, _]) (i := 105) dX8_isIn_52 vlX8_205 clX8_v rfl rfl (by omega) (sh_r105 _ _) rfl (Nat.le_of_ble_eq_true rfl) (Nat.le_of_ble_eq_true rfl) (m_v hw (by omega)) ?_
      refine ss_aload_n dX8_isIn_55 1 rfl ?_
      refine ss_get (i := 105) dX8_isIn_56 flX8_51 (by omega) (sh_r105 _ _) rfl ?_
      refine ss_lmul dX8_isIn_59 ?_
      refine sv_ge 71 dX8_isIn_60 dX8_isIn_61 (by decide) (fun c60 => ?_) (fun c60 => ?_)
      · skip
        refine ss_iconst (v := -1) dX8_isIn_71 (by decide) ?_
        exact ss_iret dX8_isIn_72 rfl rfl (cvi (by unfold fIn; rw [hinv]; simp only []; rw [hSn, if_neg (by rw [Int64.lt_iff_toInt_lt]; rw [Int64.le_iff_toInt_le] at c60; omega)]) hQ)
      · skip
        refine ss_aload_n dX8_isIn_64 1 rfl ?_
        refine ss_callV (As := []) (i := 105) dX8_isIn_65 vlX8_93 clX8_last rfl rfl (by omega) (sh_r105 _ _) rfl (Nat.le_of_ble_eq_true rfl) (Nat.le_of_ble_eq_true rfl) (m_last hn h6) ?_
        refine ss_goto 72 dX8_isIn_68 (by decide) ?_
        exact ss_iret dX8_isIn_72 rfl rfl (cvi (by unfold fIn; rw [hinv]; simp only []; rw [hSn, if_pos (by rw [Int64.lt_iff_toInt_lt]; rw [Int64.le_iff_toInt_le] at c60; omega)]) hQ)
  | succ nn ih =>
      intro i hin hinv
      refine ss_iload_n dX8_isIn_2 0 rfl ?_
      refine ss_aload_n dX8_isIn_3 1 rfl ?_
      refine ss_callV (As := []) (i := 105) dX8_isIn_4 vlX8_93 clX8_last rfl rfl (by omega) (sh_r105 _ _) rfl (Nat.le_of_ble_eq_true rfl) (Nat.le_of_ble_eq_true rfl) (m_last hn h6) ?_
      refine sz_icmp_gt 38 dX8_isIn_7 (by decide) (by omega) (by omega) (fun c7 => by omega) (fun c7 => ?_)
      refine ss_aload_n dX8_isIn_10 1 rfl ?_
      refine ss_iload_n dX8_isIn_11 0 rfl ?_
      refine ss_callV (As := [_]) (i := 105) dX8_isIn_12 vlX8_234 clX8_sharesOf rfl rfl (by omega) (sh_r105 _ _) rfl (Nat.le_of_ble_eq_true rfl) (Nat.le_of_ble_eq_true rfl) (m_sharesOf hn h6 (by omega)) ?_
      refine ss_aload_n dX8_isIn_15 1 rfl ?_
      refine ss_iload_n dX8_isIn_16 2 rfl ?_
      refine ss_iload_n dX8_isIn_17 0 rfl ?_
      refine ss_callV (As := [_, _]) (i := 105) dX8_isIn_18 vlX8_205 clX8_v rfl rfl (by omega) (sh_r105 _ _) rfl (Nat.le_of_ble_eq_true rfl) (Nat.le_of_ble_eq_true rfl) (m_v hw (by omega)) ?_
      refine ss_aload_n dX8_isIn_21 1 rfl ?_
      refine ss_get (i := 105) dX8_isIn_22 flX8_51 (by omega) (sh_r105 _ _) rfl ?_
      refine ss_lmul dX8_isIn_25 ?_
      refine sv_le 32 dX8_isIn_26 dX8_isIn_27 (by decide) (fun c26 => ?_) (fun c26 => ?_)
      · skip
        refine sz_inc (lv' := [(2, _), (0, _), (1, _)]) dX8_isIn_32 0 rfl (by decide) rfl ?_
        refine ss_goto 2 dX8_isIn_35 (by decide) ?_
        exact ih (i + 1) (by omega) (ff_step hinv (by simp [p_in, Int64.lt_iff_toInt_lt, Int64.le_iff_toInt_le] at *; omega))
      · skip
        refine ss_iload_n dX8_isIn_30 0 rfl ?_
        exact ss_iret dX8_isIn_31 rfl rfl (cvi (by unfold fIn; rw [ff_some hinv (by simp [p_in, Int64.lt_iff_toInt_lt, Int64.le_iff_toInt_le] at *; omega) (by omega)]) hQ)
set_option maxHeartbeats 4000000 in
set_option maxRecDepth 100000 in
theorem m_isIn {c : cx} {d : Nat} {X : nX} {Y : nY} {w : Nat} (hw : w < 12) {n : Nat} (hn : n ≤ 10) (h6 : X 105 0 = nI n) : sc c mX8_isIn (d + 1) [.ref (c_ad c 105), .int (nI w)] (X) (Y) (some (.int (fIn (vr Y w) (Y 118) n (2 ^ n) (Y 105 15)))) (X) (Y) := by
  intro Q hQ
  show ss c mX8_isIn (d + 1) Q 0 [(0, .ref (c_ad c 105)), (1, .int (nI w))] [] (X) (Y)
  refine ss_iconst (v := nI 0) dX8_isIn_0 (by decide) ?_
  refine ss_istore_n (lv' := [(2, _), (0, _), (1, _)]) dX8_isIn_1 (by decide) rfl ?_
  exact l_isIn hw hn h6 rfl hQ (2 ^ n) 0 (by omega) rfl
