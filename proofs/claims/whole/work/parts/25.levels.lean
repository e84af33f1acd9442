theorem nxt_s (R : Nat → Int64) (a j : Nat) : nxt R a (j + 1) = if (R (a + 2 + j) - R a) * lN (nxt R a j - a) ≤ (R (nxt R a j) - R a) * lN (a + 2 + j - a) then a + 2 + j else nxt R a j := rfl
theorem cdv_s (W : Nat) (C : Int64) (e : Nat) : cdv W C (e + 1) = if e = 0 then 1 else if W % (e + 1) = 0 ∧ C - C / lN (e + 1) * lN (e + 1) = 0 then e + 1 else cdv W C e := rfl
def rl0 (R V : Nat → Int64) (n : Nat) : Nat → Int64 := fun k => if k < n + 1 then V (2 ^ k - 1) else R k
theorem rl0_mpl {Y : nY} {n : Nat} {V : Nat → Int64} : mpl Y 99 0 (n + 1) (fun k => V (2 ^ k - 1)) = srw Y 99 (rl0 (Y 99) V n) := by
  funext b k
  unfold mpl srw rl0
  by_cases h1 : b = 99
  · subst h1
    by_cases h2 : k < n + 1 <;> simp [h2]
  · simp [h1]
theorem srw_srw {Y : nY} {a : Nat} {R T : Nat → Int64} : srw (srw Y a R) a T = srw Y a T := by
  funext b
  unfold srw
  by_cases h : b = a <;> simp [h]
set_option maxHeartbeats 4000000 in
set_option maxRecDepth 100000 in
theorem l_gatherV1 {c : cx} {d : Nat} {X : nX} {Y : nY} {Q : Option Value → nX → nY → Prop} {w : Nat} (hw : w < 12) {n : Nat} (hn : n ≤ 10) (hlt : X 98 2 = nI n) (hQ : ∀ k, k = n + 1 → ss c mX2_gather (d + 1) Q 40 [(2, .int (nI k)), (0, .ref (c_ad c 98)), (1, .ref (c_ad c (2 + 7 * w)))] [] X (mpl Y 99 0 (n + 1) (fun k => Y (3 + 7 * w) (2 ^ k - 1)))) : ∀ (nn i : Nat), i + nn = n + 1 → ss c mX2_gather (d + 1) Q 10 [(2, .int (nI i)), (0, .ref (c_ad c 98)), (1, .ref (c_ad c (2 + 7 * w)))] [] (X) (mpl Y 99 0 i (fun k => Y (3 + 7 * w) (2 ^ k - 1))) := by
  intro nn
  induction nn with
  | zero =>
      intro i hin
      simp only [Nat.add_zero] at hin
      subst hin
      refine ss_iload_n dX2_gather_10 0 rfl ?_
      refine ss_aload_n dX2_gather_11 1 rfl ?_
      refine ss_get (i := 98) dX2_gather_12 flX2_25 (by omega) (sh_r98 _ _) rfl ?_
      rw [hlt]
      refine sz_icmp_gt 40 dX2_gather_15 (by decide) (by omega) (by omega) (fun c15 => ?_) (fun c15 => by omega)
      exact hQ _ rfl
  | succ nn ih =>
      intro i hin
      refine ss_iload_n dX2_gather_10 0 rfl ?_
      refine ss_aload_n dX2_gather_11 1 rfl ?_
      refine ss_get (i := 98) dX2_gather_12 flX2_25 (by omega) (sh_r98 _ _) rfl ?_
      rw [hlt]
      refine sz_icmp_gt 40 dX2_gather_15 (by decide) (by omega) (by omega) (fun c15 => by omega) (fun c15 => ?_)
      refine ss_aload_n dX2_gather_18 1 rfl ?_
      refine ss_get (i := 98) dX2_gather_19 flX2_9 (by omega) (sh_r98 _ _) rfl ?_
      refine ss_iload_n dX2_gather_22 0 rfl ?_
      refine ss_aload_n dX2_gather_23 2 rfl ?_
      refine ss_get (i := 2 + 7 * w) dX2_gather_24 flX2_26 (by omega) (sh_w0 hw _ _) rfl ?_
      refine ss_iconst (v := nI 1) dX2_gather_27 (by decide) ?_
      refine ss_iload_n dX2_gather_28 0 rfl ?_
      refine sz_shl1 dX2_gather_29 (by omega) ?_
      refine ss_iconst (v := nI 1) dX2_gather_30 (by decide) ?_
      refine sz_isub dX2_gather_31 Nat.one_le_two_pow ?_
      refine ss_lald (i := 3 + 7 * w) dX2_gather_32 (by omega) (sh_w1 hw) (by have := Nat.pow_le_pow_right (n := 2) (by decide) (show i ≤ 10 by omega); omega) (by decide) ?_
      rw [mpl_ne (by omega)]
      refine ss_last (i := 99) dX2_gather_33 (by omega) (sh_r99) (by omega) (by decide) ?_
      refine sz_inc (lv' := [(2, _), (0, _), (1, _)]) dX2_gather_34 0 rfl (by decide) rfl ?_
      refine ss_goto 10 dX2_gather_37 (by decide) ?_
      refine ss_eY (mpl_s (Nat.zero_le _) rfl) ?_
      exact ih (i + 1) (by omega)
set_option maxHeartbeats 4000000 in
set_option maxRecDepth 100000 in
theorem l_gatherV2 {c : cx} {d : Nat} {X : nX} {Y : nY} {Q : Option Value → nX → nY → Prop} {w : Nat} (hw : w < 12) {S : Nat} (hS : S ≤ 1024) (hse : X (2 + 7 * w) 7 = nI S) (hQ : Q none X (srw Y 99 (rlow (Y (3 + 7 * w)) (Y 99) S))) : ∀ (nn i : Nat), i + nn = S → ss c mX2_gather (d + 1) Q 42 [(2, .int (nI i)), (0, .ref (c_ad c 98)), (1, .ref (c_ad c (2 + 7 * w)))] [] (X) (srw Y 99 (rlow (Y (3 + 7 * w)) (Y 99) i)) := by
  intro nn
  induction nn with
  | zero =>
      intro i hin
      simp only [Nat.add_zero] at hin
      subst hin
      refine ss_iload_n dX2_gather_42 0 rfl ?_
      refine ss_aload_n dX2_gather_43 2 rfl ?_
      refine ss_get (i := 2 + 7 * w) dX2_gather_44 flX2_29 (by omega) (sh_w0 hw _ _) rfl ?_
      rw [hse]
      refine sz_icmp_ge 82 dX2_gather_47 (by decide) (by omega) (by omega) (fun c47 => ?_) (fun c47 => by omega)
      exact ss_vret dX2_gather_82 rfl (hQ)
  | succ nn ih =>
      intro i hin
      refine ss_iload_n dX2_gather_42 0 rfl ?_
      refine ss_aload_n dX2_gather_43 2 rfl ?_
      refine ss_get (i := 2 + 7 * w) dX2_gather_44 flX2_29 (by omega) (sh_w0 hw _ _) rfl ?_
      rw [hse]
      refine sz_icmp_ge 82 dX2_gather_47 (by decide) (by omega) (by omega) (fun c47 => by omega) (fun c47 => ?_)
      refine ss_iload_n dX2_gather_50 0 rfl ?_
      refine ss_callS (As := [_]) dX2_gather_51 vlX2_32 clJ6_bitCount_0f7a4 rfl rfl (Nat.le_of_ble_eq_true rfl) (Nat.le_of_ble_eq_true rfl) (q_bitCount (by omega)) ?_
      refine ss_istore_n (lv' := [(3, _), (2, _), (0, _), (1, _)]) dX2_gather_54 (by decide) rfl ?_
      refine ss_aload_n dX2_gather_55 2 rfl ?_
      refine ss_get (i := 98) dX2_gather_56 flX2_9 (by omega) (sh_r98 _ _) rfl ?_
      refine ss_iload_n dX2_gather_59 0 rfl ?_
      refine ss_aload_n dX2_gather_60 2 rfl ?_
      refine ss_get (i := 98) dX2_gather_61 flX2_9 (by omega) (sh_r98 _ _) rfl ?_
      refine ss_iload_n dX2_gather_64 0 rfl ?_
      refine ss_lald (i := 99) dX2_gather_65 (by omega) (sh_r99) (by have := cnt_le i 10; omega) (by decide) ?_
      rw [srw_at]
      refine ss_aload_n dX2_gather_66 3 rfl ?_
      refine ss_get (i := 2 + 7 * w) dX2_gather_67 flX2_26 (by omega) (sh_w0 hw _ _) rfl ?_
      refine ss_iload_n dX2_gather_70 1 rfl ?_
      refine ss_lald (i := 3 + 7 * w) dX2_gather_71 (by omega) (sh_w1 hw) (by omega) (by decide) ?_
      rw [srw_ne (by omega)]
      refine ss_min dX2_gather_72 vlX2_38 mh_smin mh_i mh_cmin (Nat.le_of_ble_eq_true rfl) ?_
      refine ss_last (i := 99) dX2_gather_75 (by omega) (sh_r99) (by have := cnt_le i 10; omega) (by decide) ?_
      refine sz_inc (lv' := [(2, _), (3, _), (0, _), (1, _)]) dX2_gather_76 1 rfl (by decide) rfl ?_
      refine ss_goto 42 dX2_gather_79 (by decide) ?_
      refine ss_sub [0, 2, 3] rfl ?_
      refine ss_eY srw_up ?_
      exact ih (i + 1) (by omega)
set_option maxHeartbeats 4000000 in
set_option maxRecDepth 100000 in
theorem q_gatherV {c : cx} {d : Nat} {X : nX} {Y : nY} {w : Nat} (hw : w < 12) {S : Nat} (hS : S ≤ 1024) (hse : X (2 + 7 * w) 7 = nI S) {n : Nat} (hn : n ≤ 10) (hth : X (2 + 7 * w) 6 = nI n) : sc c mX2_gather (d + 1) [.ref (c_ad c 98), .ref (c_ad c (2 + 7 * w))] (X) (Y) none (up2 X 98 2 (nI n)) (srw Y 99 (rlow (Y (3 + 7 * w)) (rl0 (Y 99) (Y (3 + 7 * w)) n) S)) := by
  intro Q hQ
  show ss c mX2_gather (d + 1) Q 0 [(0, .ref (c_ad c 98)), (1, .ref (c_ad c (2 + 7 * w)))] [] (X) (Y)
  refine ss_aload_n dX2_gather_0 0 rfl ?_
  refine ss_aload_n dX2_gather_1 1 rfl ?_
  refine ss_get (i := 2 + 7 * w) dX2_gather_2 flX2_19 (by omega) (sh_w0 hw _ _) rfl ?_
  rw [hth]
  refine ss_put (i := 98) dX2_gather_5 fwX2_25 (by omega) (sh_r98 _ _) rfl rfl (Nat.le_of_ble_eq_true rfl) (sh_r98 _ _) ?_
  refine ss_iconst (v := nI 0) dX2_gather_8 (by decide) ?_
  refine ss_istore_n (lv' := [(2, _), (0, _), (1, _)]) dX2_gather_9 (by decide) rfl ?_
  refine ss_eY (Y' := mpl Y 99 0 0 (fun k => Y (3 + 7 * w) (2 ^ k - 1))) mpl_0.symm ?_
  refine l_gatherV1 hw hn (by simp [up2_at]) (fun k9 hk9 => ?_) (n + 1) 0 (by omega)
  refine ss_iconst (v := nI 0) dX2_gather_40 (by decide) ?_
  refine ss_istore_n (lv' := [(2, _), (0, _), (1, _)]) dX2_gather_41 (by decide) rfl ?_
  rw [rl0_mpl]
  have h9 := l_gatherV2 (X := up2 X 98 2 (nI n)) (Y := srw Y 99 (rl0 (Y 99) (Y (3 + 7 * w)) n)) (c := c) (d := d) (Q := Q) hw hS (by rw [up2_at, if_neg (by omega)]; exact hse) (by rw [srw_at, srw_ne (by omega), srw_srw]; exact hQ) S 0 (by omega)
  rw [srw_at, srw_ne (by omega), srw_srw] at h9
  exact h9
set_option maxHeartbeats 4000000 in
set_option maxRecDepth 100000 in
theorem l_nextTurn {c : cx} {d : Nat} {X : nX} {Y : nY} {Q : Option Value → nX → nY → Prop} {n : Nat} (hn : n ≤ 10) (hlt : X 98 2 = nI n) {a : Nat} (ha : a < n) (hQ : Q (some (.int (nI (nxt (Y 99) a (n + 1 - (a + 2)))))) X Y) : ∀ (nn i : Nat), i + nn = n + 1 → (a + 2 ≤ i) → ss c mX2_nextTurn d Q 8 [(3, .int (nI i)), (2, .int (nI (nxt (Y 99) a (i - (a + 2))))), (0, .ref (c_ad c 98)), (1, .int (nI a))] [] (X) (Y) := by
  intro nn
  induction nn with
  | zero =>
      intro i hin hinv
      simp only [Nat.add_zero] at hin
      subst hin
      refine ss_iload_n dX2_nextTurn_8 0 rfl ?_
      refine ss_aload_n dX2_nextTurn_9 2 rfl ?_
      refine ss_get (i := 98) dX2_nextTurn_10 flX2_25 (by omega) (sh_r98 _ _) rfl ?_
      rw [hlt]
      refine sz_icmp_gt 64 dX2_nextTurn_13 (by decide) (by omega) (by omega) (fun c13 => ?_) (fun c13 => by omega)
      refine ss_iload_n dX2_nextTurn_64 1 rfl ?_
      exact ss_iret dX2_nextTurn_65 rfl rfl (hQ)
  | succ nn ih =>
      intro i hin hinv
      refine ss_iload_n dX2_nextTurn_8 0 rfl ?_
      refine ss_aload_n dX2_nextTurn_9 2 rfl ?_
      refine ss_get (i := 98) dX2_nextTurn_10 flX2_25 (by omega) (sh_r98 _ _) rfl ?_
      rw [hlt]
      refine sz_icmp_gt 64 dX2_nextTurn_13 (by decide) (by omega) (by omega) (fun c13 => by omega) (fun c13 => ?_)
      refine ss_aload_n dX2_nextTurn_16 2 rfl ?_
      refine ss_get (i := 98) dX2_nextTurn_17 flX2_9 (by omega) (sh_r98 _ _) rfl ?_
      refine ss_iload_n dX2_nextTurn_20 0 rfl ?_
      refine ss_lald (i := 99) dX2_nextTurn_21 (by omega) (sh_r99) (by omega) (by decide) ?_
      refine ss_aload_n dX2_nextTurn_22 2 rfl ?_
      refine ss_get (i := 98) dX2_nextTurn_23 flX2_9 (by omega) (sh_r98 _ _) rfl ?_
      refine ss_iload_n dX2_nextTurn_26 3 rfl ?_
      refine ss_lald (i := 99) dX2_nextTurn_27 (by omega) (sh_r99) (by omega) (by decide) ?_
      refine ss_lsub dX2_nextTurn_28 ?_
      refine ss_iload_n dX2_nextTurn_29 1 rfl ?_
      refine ss_iload_n dX2_nextTurn_30 3 rfl ?_
      refine sz_isub dX2_nextTurn_31 (by have h8 := nxt_in (Y 99) a (i - (a + 2)); omega) ?_
      refine sz_i2l dX2_nextTurn_32 (by have h8 := nxt_in (Y 99) a (i - (a + 2)); omega) ?_
      refine ss_lmul dX2_nextTurn_33 ?_
      refine ss_aload_n dX2_nextTurn_34 2 rfl ?_
      refine ss_get (i := 98) dX2_nextTurn_35 flX2_9 (by omega) (sh_r98 _ _) rfl ?_
      refine ss_iload_n dX2_nextTurn_38 1 rfl ?_
      refine ss_lald (i := 99) dX2_nextTurn_39 (by omega) (sh_r99) (by have h8 := nxt_in (Y 99) a (i - (a + 2)); omega) (by decide) ?_
      refine ss_aload_n dX2_nextTurn_40 2 rfl ?_
      refine ss_get (i := 98) dX2_nextTurn_41 flX2_9 (by omega) (sh_r98 _ _) rfl ?_
      refine ss_iload_n dX2_nextTurn_44 3 rfl ?_
      refine ss_lald (i := 99) dX2_nextTurn_45 (by omega) (sh_r99) (by omega) (by decide) ?_
      refine ss_lsub dX2_nextTurn_46 ?_
      refine ss_iload_n dX2_nextTurn_47 0 rfl ?_
      refine ss_iload_n dX2_nextTurn_48 3 rfl ?_
      refine sz_isub dX2_nextTurn_49 (by omega) ?_
      refine sz_i2l dX2_nextTurn_50 (by omega) ?_
      refine ss_lmul dX2_nextTurn_51 ?_
      refine sv_gt 58 dX2_nextTurn_52 dX2_nextTurn_53 (by decide) (fun c52 => ?_) (fun c52 => ?_)
      · skip
        refine sz_inc (lv' := [(3, _), (2, _), (0, _), (1, _)]) dX2_nextTurn_58 0 rfl (by decide) rfl ?_
        refine ss_goto 8 dX2_nextTurn_61 (by decide) ?_
        have e9 : nxt (Y 99) a (i + 1 - (a + 2)) = nxt (Y 99) a (i - (a + 2)) := by
          rw [show i + 1 - (a + 2) = (i - (a + 2)) + 1 by omega]
          rw [nxt_s, show a + 2 + (i - (a + 2)) = i by omega]
          rw [if_neg (by rw [Int64.lt_iff_toInt_lt] at c52; rw [Int64.le_iff_toInt_le]; omega)]
        refine ss_eL (lv' := [(3, .int (nI (i + 1))), (2, .int (nI (nxt (Y 99) a (i + 1 - (a + 2))))), (0, .ref (c_ad c 98)), (1, .int (nI a))]) (by rw [e9] <;> rfl) ?_
        exact ih (i + 1) (by omega) (by omega)
      · skip
        refine ss_iload_n dX2_nextTurn_56 0 rfl ?_
        refine ss_istore_n (lv' := [(2, _), (3, _), (0, _), (1, _)]) dX2_nextTurn_57 (by decide) rfl ?_
        refine sz_inc (lv' := [(3, _), (2, _), (0, _), (1, _)]) dX2_nextTurn_58 1 rfl (by decide) rfl ?_
        refine ss_goto 8 dX2_nextTurn_61 (by decide) ?_
        have e9 : nxt (Y 99) a (i + 1 - (a + 2)) = i := by
          rw [show i + 1 - (a + 2) = (i - (a + 2)) + 1 by omega]
          rw [nxt_s, show a + 2 + (i - (a + 2)) = i by omega]
          rw [if_pos (by rw [Int64.lt_iff_toInt_lt] at c52; rw [Int64.le_iff_toInt_le]; omega)]
        refine ss_eL (lv' := [(3, .int (nI (i + 1))), (2, .int (nI (nxt (Y 99) a (i + 1 - (a + 2))))), (0, .ref (c_ad c 98)), (1, .int (nI a))]) (by rw [e9] <;> rfl) ?_
        exact ih (i + 1) (by omega) (by omega)
set_option maxHeartbeats 4000000 in
set_option maxRecDepth 100000 in
theorem q_nextTurn {c : cx} {d : Nat} {X : nX} {Y : nY} {n : Nat} (hn : n ≤ 10) (hlt : X 98 2 = nI n) {a : Nat} (ha : a < n) : sc c mX2_nextTurn d [.ref (c_ad c 98), .int (nI a)] (X) (Y) (some (.int (nI (nxt (Y 99) a (n - (a + 1)))))) (X) (Y) := by
  intro Q hQ
  show ss c mX2_nextTurn d Q 0 [(0, .ref (c_ad c 98)), (1, .int (nI a))] [] (X) (Y)
  refine ss_iload_n dX2_nextTurn_0 1 rfl ?_
  refine ss_iconst (v := nI 1) dX2_nextTurn_1 (by decide) ?_
  refine sz_iadd dX2_nextTurn_2 ?_
  refine ss_istore_n (lv' := [(2, _), (0, _), (1, _)]) dX2_nextTurn_3 (by decide) rfl ?_
  refine ss_iload_n dX2_nextTurn_4 2 rfl ?_
  refine ss_iconst (v := nI 2) dX2_nextTurn_5 (by decide) ?_
  refine sz_iadd dX2_nextTurn_6 ?_
  refine ss_istore_n (lv' := [(3, _), (2, _), (0, _), (1, _)]) dX2_nextTurn_7 (by decide) rfl ?_
  have h9 := l_nextTurn (X := X) (Y := Y) (c := c) (d := d) (Q := Q) hn hlt ha (by rw [show n + 1 - (a + 2) = n - (a + 1) by omega]; exact hQ) (n + 1 - (a + 2)) (a + 2) (by omega) (Nat.le_refl _)
  rw [Nat.sub_self] at h9
  exact h9
def xtn (X : nX) (t : Nat → Nat) (i : Nat) : nX := fun a k => if a = 98 ∧ k = 3 then nI i else if a = 100 ∧ k ≤ i then nI (t k) else X a k
theorem xtn_b {X : nX} {t : Nat → Nat} {i : Nat} : xtn X t i 98 3 = nI i := by simp [xtn]
theorem xtn_t {X : nX} {t : Nat → Nat} {i k : Nat} (h : k ≤ i) : xtn X t i 100 k = nI (t k) := by simp [xtn, h]
theorem xtn_ne {X : nX} {t : Nat → Nat} {i a k : Nat} (h : a ≠ 100) (h2 : a ≠ 98 ∨ k ≠ 3) : xtn X t i a k = X a k := by
  unfold xtn
  rw [if_neg (by omega), if_neg (by omega)]
theorem xtn_s {X : nX} {t : Nat → Nat} {i : Nat} : up2 (up2 (xtn X t i) 100 (i + 1) (nI (t (i + 1)))) 98 3 (nI (i + 1)) = xtn X t (i + 1) := by
  funext a k
  simp only [up2_at, xtn]
  by_cases h1 : a = 98
  · subst h1
    by_cases h2 : k = 3 <;> simp [h2]
  · by_cases h2 : a = 100
    · subst h2
      by_cases h3 : k = i + 1
      · subst h3; simp
      · simp only [h3]
        by_cases h4 : k ≤ i
        · simp [h4, show k ≤ i + 1 by omega]
        · simp [h4, show ¬ k ≤ i + 1 by omega]
    · simp [h1, h2]
theorem xtn_0 {X : nX} {t : Nat → Nat} (h : t 0 = 0) : up2 (up2 X 98 3 (nI 0)) 100 0 (nI 0) = xtn X t 0 := by
  funext a k
  simp only [up2_at, xtn]
  by_cases h1 : a = 98
  · subst h1
    by_cases h2 : k = 3 <;> simp [h2]
  · by_cases h2 : a = 100
    · subst h2
      by_cases h3 : k = 0 <;> simp [h3, h]
    · simp [h1, h2]
def bcn (R : Nat → Int64) (n : Nat) : Nat := (ffind (fun i => decide (n ≤ tno R n i)) (n + 1)).getD 0
theorem bcn_eq {R : Nat → Int64} {n i : Nat} (h : i ≤ n) (h1 : ∀ j, j < i → tno R n j < n) (h2 : n ≤ tno R n i) : bcn R n = i := by
  unfold bcn
  rw [ff_some (i := i) (ff_none.mpr (fun k hk => by simp; exact h1 k hk)) (by simp; exact h2) (by omega)]
  rfl
set_option maxHeartbeats 4000000 in
set_option maxRecDepth 100000 in
theorem l_findTurns {c : cx} {d : Nat} {X : nX} {Y : nY} {Q : Option Value → nX → nY → Prop} {n : Nat} (hn : n ≤ 10) (hlt : X 98 2 = nI n) (hQ : ∀ i, i ≤ n → (∀ j, j < i → tno (Y 99) n j < n) → n ≤ tno (Y 99) n i → Q none (xtn X (tno (Y 99) n) i) Y) : ∀ (nn i : Nat), i + nn = n → (∀ j, j < i → tno (Y 99) n j < n) → ss c mX2_findTurns (d + 1) Q 14 [(1, .int (nI i)), (0, .ref (c_ad c 98))] [] (xtn X (tno (Y 99) n) i) (Y) := by
  intro nn
  induction nn with
  | zero =>
      intro i hin hinv
      simp only [Nat.add_zero] at hin
      subst hin
      refine ss_iload_n dX2_findTurns_14 0 rfl ?_
      refine ss_aload_n dX2_findTurns_15 1 rfl ?_
      refine ss_get (i := 98) dX2_findTurns_16 flX2_25 (by omega) (sh_r98 _ _) rfl ?_
      rw [xtn_ne (by omega) (by omega), hlt]
      refine sz_icmp_ge 78 dX2_findTurns_19 (by decide) (by omega) (by omega) (fun c19 => ?_) (fun c19 => by omega)
      exact ss_vret dX2_findTurns_78 rfl (hQ i (Nat.le_refl _) hinv (tno_ge _ _ _))
  | succ nn ih =>
      intro i hin hinv
      have h31 : tno (Y 99) n i < 2 ^ 31 := by
        cases i with
        | zero => exact (by decide : (0 : Nat) < 2 ^ 31)
        | succ j => have := tno_le (Y 99) (hinv j (by omega)); omega
      refine ss_iload_n dX2_findTurns_14 0 rfl ?_
      refine ss_aload_n dX2_findTurns_15 1 rfl ?_
      refine ss_get (i := 98) dX2_findTurns_16 flX2_25 (by omega) (sh_r98 _ _) rfl ?_
      rw [xtn_ne (by omega) (by omega), hlt]
      refine sz_icmp_ge 78 dX2_findTurns_19 (by decide) (by omega) (by omega) (fun c19 => by omega) (fun c19 => ?_)
      refine ss_aload_n dX2_findTurns_22 1 rfl ?_
      refine ss_get (i := 98) dX2_findTurns_23 flX2_15 (by omega) (sh_r98 _ _) rfl ?_
      refine ss_aload_n dX2_findTurns_26 1 rfl ?_
      refine ss_get (i := 98) dX2_findTurns_27 flX2_44 (by omega) (sh_r98 _ _) rfl ?_
      rw [xtn_b]
      refine ss_iald (i := 100) dX2_findTurns_30 (by omega) (sh_r100) (by omega) (by decide) ?_
      rw [xtn_t (Nat.le_refl _)]
      refine ss_aload_n dX2_findTurns_31 1 rfl ?_
      refine ss_get (i := 98) dX2_findTurns_32 flX2_25 (by omega) (sh_r98 _ _) rfl ?_
      rw [xtn_ne (by omega) (by omega), hlt]
      refine sz_icmp_ge 78 dX2_findTurns_35 (by decide) (by have : tno (Y 99) n i < 2 ^ 31 := h31; omega) (by omega) (fun c35 => ?_) (fun c35 => ?_)
      · skip
        exact ss_vret dX2_findTurns_78 rfl (hQ i (by omega) hinv (by omega))
      · skip
        refine ss_aload_n dX2_findTurns_38 1 rfl ?_
        refine ss_get (i := 98) dX2_findTurns_39 flX2_15 (by omega) (sh_r98 _ _) rfl ?_
        refine ss_aload_n dX2_findTurns_42 1 rfl ?_
        refine ss_get (i := 98) dX2_findTurns_43 flX2_44 (by omega) (sh_r98 _ _) rfl ?_
        rw [xtn_b]
        refine ss_iconst (v := nI 1) dX2_findTurns_46 (by decide) ?_
        refine sz_iadd dX2_findTurns_47 ?_
        refine ss_aload_n dX2_findTurns_48 1 rfl ?_
        refine ss_aload_n dX2_findTurns_49 1 rfl ?_
        refine ss_get (i := 98) dX2_findTurns_50 flX2_15 (by omega) (sh_r98 _ _) rfl ?_
        refine ss_aload_n dX2_findTurns_53 1 rfl ?_
        refine ss_get (i := 98) dX2_findTurns_54 flX2_44 (by omega) (sh_r98 _ _) rfl ?_
        rw [xtn_b]
        refine ss_iald (i := 100) dX2_findTurns_57 (by omega) (sh_r100) (by omega) (by decide) ?_
        rw [xtn_t (Nat.le_refl _)]
        refine ss_callV (As := [_]) (i := 98) dX2_findTurns_58 vlX2_47 clX2_nextTurn rfl rfl (by omega) (sh_r98 _ _) rfl (Nat.le_of_ble_eq_true rfl) (Nat.le_of_ble_eq_true rfl) (q_nextTurn hn (by rw [xtn_ne (by omega) (by omega)]; exact hlt) (by omega)) ?_
        refine ss_iast (i := 100) dX2_findTurns_61 (by omega) (sh_r100) (by omega) (by decide) ?_
        refine ss_aload_n dX2_findTurns_62 1 rfl ?_
        refine ss_dup dX2_findTurns_63 rfl ?_
        refine ss_get (i := 98) dX2_findTurns_64 flX2_44 (by omega) (sh_r98 _ _) rfl ?_
        rw [up2_at, if_neg (by omega), xtn_b]
        refine ss_iconst (v := nI 1) dX2_findTurns_67 (by decide) ?_
        refine sz_iadd dX2_findTurns_68 ?_
        refine ss_put (i := 98) dX2_findTurns_69 fwX2_44 (by omega) (sh_r98 _ _) rfl rfl (Nat.le_of_ble_eq_true rfl) (sh_r98 _ _) ?_
        refine sz_inc (lv' := [(1, _), (0, _)]) dX2_findTurns_72 0 rfl (by decide) rfl ?_
        refine ss_goto 14 dX2_findTurns_75 (by decide) ?_
        refine ss_eX xtn_s ?_
        exact ih (i + 1) (by omega) (fun j hj => by rcases Nat.lt_or_ge j i with h8 | h8; exact hinv j h8; rw [show j = i by omega]; omega)
set_option maxHeartbeats 4000000 in
set_option maxRecDepth 100000 in
theorem q_findTurns {c : cx} {d : Nat} {X : nX} {Y : nY} {n : Nat} (hn : n ≤ 10) (hlt : X 98 2 = nI n) : sc c mX2_findTurns (d + 1) [.ref (c_ad c 98)] (X) (Y) none (xtn X (tno (Y 99) n) (bcn (Y 99) n)) (Y) := by
  intro Q hQ
  show ss c mX2_findTurns (d + 1) Q 0 [(0, .ref (c_ad c 98))] [] (X) (Y)
  refine ss_aload_n dX2_findTurns_0 0 rfl ?_
  refine ss_iconst (v := nI 0) dX2_findTurns_1 (by decide) ?_
  refine ss_put (i := 98) dX2_findTurns_2 fwX2_44 (by omega) (sh_r98 _ _) rfl rfl (Nat.le_of_ble_eq_true rfl) (sh_r98 _ _) ?_
  refine ss_aload_n dX2_findTurns_5 0 rfl ?_
  refine ss_get (i := 98) dX2_findTurns_6 flX2_15 (by omega) (sh_r98 _ _) rfl ?_
  refine ss_iconst (v := nI 0) dX2_findTurns_9 (by decide) ?_
  refine ss_iconst (v := nI 0) dX2_findTurns_10 (by decide) ?_
  refine ss_iast (i := 100) dX2_findTurns_11 (by omega) (sh_r100) (by omega) (by decide) ?_
  refine ss_iconst (v := nI 0) dX2_findTurns_12 (by decide) ?_
  refine ss_istore_n (lv' := [(1, _), (0, _)]) dX2_findTurns_13 (by decide) rfl ?_
  refine ss_eX (xtn_0 (t := tno (Y 99) n) rfl) ?_
  exact l_findTurns hn hlt (fun i h1 h2 h3 => by rw [bcn_eq h1 h2 h3] at hQ; exact hQ) n 0 (by omega) (fun j hj => by omega)
set_option maxHeartbeats 4000000 in
set_option maxRecDepth 100000 in
theorem q_climb {c : cx} {d : Nat} {X : nX} {Y : nY} {i a b : Nat} (hi : i < 10) (ht0 : X 100 i = nI a) (ht1 : X 100 (i + 1) = nI b) (hab : a ≤ b) (hb : b < 11) : sc c mX2_climb d [.ref (c_ad c 98), .int (nI i)] (X) (Y) (some (.long (Y 99 b - Y 99 a))) (X) (Y) := by
  intro Q hQ
  show ss c mX2_climb d Q 0 [(0, .ref (c_ad c 98)), (1, .int (nI i))] [] (X) (Y)
  refine ss_aload_n dX2_climb_0 0 rfl ?_
  refine ss_get (i := 98) dX2_climb_1 flX2_9 (by omega) (sh_r98 _ _) rfl ?_
  refine ss_aload_n dX2_climb_4 0 rfl ?_
  refine ss_get (i := 98) dX2_climb_5 flX2_15 (by omega) (sh_r98 _ _) rfl ?_
  refine ss_iload_n dX2_climb_8 1 rfl ?_
  refine ss_iconst (v := nI 1) dX2_climb_9 (by decide) ?_
  refine sz_iadd dX2_climb_10 ?_
  refine ss_iald (i := 100) dX2_climb_11 (by omega) (sh_r100) (by omega) (by decide) ?_
  rw [ht1]
  refine ss_lald (i := 99) dX2_climb_12 (by omega) (sh_r99) (by omega) (by decide) ?_
  refine ss_aload_n dX2_climb_13 0 rfl ?_
  refine ss_get (i := 98) dX2_climb_14 flX2_9 (by omega) (sh_r98 _ _) rfl ?_
  refine ss_aload_n dX2_climb_17 0 rfl ?_
  refine ss_get (i := 98) dX2_climb_18 flX2_15 (by omega) (sh_r98 _ _) rfl ?_
  refine ss_iload_n dX2_climb_21 1 rfl ?_
  refine ss_iald (i := 100) dX2_climb_22 (by omega) (sh_r100) (by omega) (by decide) ?_
  rw [ht0]
  refine ss_lald (i := 99) dX2_climb_23 (by omega) (sh_r99) (by omega) (by decide) ?_
  refine ss_lsub dX2_climb_24 ?_
  exact ss_lret dX2_climb_25 rfl (hQ)
set_option maxHeartbeats 4000000 in
set_option maxRecDepth 100000 in
theorem q_width {c : cx} {d : Nat} {X : nX} {Y : nY} {i a b : Nat} (hi : i < 10) (ht0 : X 100 i = nI a) (ht1 : X 100 (i + 1) = nI b) (hab : a ≤ b) (hb : b < 11) : sc c mX2_width d [.ref (c_ad c 98), .int (nI i)] (X) (Y) (some (.int (nI (b - a)))) (X) (Y) := by
  intro Q hQ
  show ss c mX2_width d Q 0 [(0, .ref (c_ad c 98)), (1, .int (nI i))] [] (X) (Y)
  refine ss_aload_n dX2_width_0 0 rfl ?_
  refine ss_get (i := 98) dX2_width_1 flX2_15 (by omega) (sh_r98 _ _) rfl ?_
  refine ss_iload_n dX2_width_4 1 rfl ?_
  refine ss_iconst (v := nI 1) dX2_width_5 (by decide) ?_
  refine sz_iadd dX2_width_6 ?_
  refine ss_iald (i := 100) dX2_width_7 (by omega) (sh_r100) (by omega) (by decide) ?_
  rw [ht1]
  refine ss_aload_n dX2_width_8 0 rfl ?_
  refine ss_get (i := 98) dX2_width_9 flX2_15 (by omega) (sh_r98 _ _) rfl ?_
  refine ss_iload_n dX2_width_12 1 rfl ?_
  refine ss_iald (i := 100) dX2_width_13 (by omega) (sh_r100) (by omega) (by decide) ?_
  rw [ht0]
  refine sz_isub dX2_width_14 (by omega) ?_
  exact ss_iret dX2_width_15 rfl rfl (hQ)
set_option maxHeartbeats 4000000 in
set_option maxRecDepth 100000 in
theorem l_commonDivisor {c : cx} {d : Nat} {X : nX} {Y : nY} {Q : Option Value → nX → nY → Prop} {i a b : Nat} (hi : i < 10) (ht0 : X 100 i = nI a) (ht1 : X 100 (i + 1) = nI b) (hab : a ≤ b) (hb : b < 11) : ∀ e, e < 2 ^ 30 → Q (some (.int (nI (cdv (b - a) (Y 99 b - Y 99 a) e)))) X Y → ss c mX2_commonDivisor (d + 1) Q 6 [(2, .int (nI e)), (0, .ref (c_ad c 98)), (1, .int (nI i))] [] X Y := by
  intro e
  induction e with
  | zero =>
      intro he hQ
      refine ss_iload_n dX2_commonDivisor_6 0 rfl ?_
      refine ss_iconst (v := nI 1) dX2_commonDivisor_7 (by decide) ?_
      refine sz_icmp_le 42 dX2_commonDivisor_8 (by decide) (by omega) (by omega) (fun c8 => ?_) (fun c8 => by omega)
      refine ss_iconst (v := nI 1) dX2_commonDivisor_42 (by decide) ?_
      exact ss_iret dX2_commonDivisor_43 rfl rfl (hQ)
  | succ e ih =>
      intro he hQ
      refine ss_iload_n dX2_commonDivisor_6 0 rfl ?_
      refine ss_iconst (v := nI 1) dX2_commonDivisor_7 (by decide) ?_
      refine sz_icmp_le 42 dX2_commonDivisor_8 (by decide) (by omega) (by omega) (fun c8 => ?_) (fun c8 => ?_)
      · skip
        refine ss_iconst (v := nI 1) dX2_commonDivisor_42 (by decide) ?_
        exact ss_iret dX2_commonDivisor_43 rfl rfl (cvi (by rw [show e = 0 by omega]; rfl) hQ)
      · skip
        refine ss_aload_n dX2_commonDivisor_11 1 rfl ?_
        refine ss_iload_n dX2_commonDivisor_12 2 rfl ?_
        refine ss_callV (As := [_]) (i := 98) dX2_commonDivisor_13 vlX2_57 clX2_width rfl rfl (by omega) (sh_r98 _ _) rfl (Nat.le_of_ble_eq_true rfl) (Nat.le_of_ble_eq_true rfl) (q_width hi ht0 ht1 hab hb) ?_
        refine ss_iload_n dX2_commonDivisor_16 0 rfl ?_
        refine sz_irem dX2_commonDivisor_17 (by omega) (by omega) (by omega) ?_
        refine sz_if_ne 36 dX2_commonDivisor_18 (by decide) (by have := Nat.mod_lt (b - a) (show 0 < e + 1 by omega); omega) (fun c18 => ?_) (fun c18 => ?_)
        · skip
          refine sz_dec (lv' := [(2, _), (0, _), (1, _)]) dX2_commonDivisor_36 0 rfl (by omega) (by decide) rfl ?_
          refine ss_goto 6 dX2_commonDivisor_39 (by decide) ?_
          rw [show e + 1 - 1 = e from rfl]
          refine ih (by omega) ?_
          have e9 : cdv (b - a) (Y 99 b - Y 99 a) (e + 1) = cdv (b - a) (Y 99 b - Y 99 a) e := by
            rw [cdv_s, if_neg (by omega), if_neg (by intro h9; first | exact c18 h9.1 | exact c30 h9.2)]
          rw [e9] at hQ
          exact hQ
        · skip
          refine ss_aload_n dX2_commonDivisor_21 1 rfl ?_
          refine ss_iload_n dX2_commonDivisor_22 2 rfl ?_
          refine ss_callV (As := [_]) (i := 98) dX2_commonDivisor_23 vlX2_50 clX2_climb rfl rfl (by omega) (sh_r98 _ _) rfl (Nat.le_of_ble_eq_true rfl) (Nat.le_of_ble_eq_true rfl) (q_climb hi ht0 ht1 hab hb) ?_
          refine ss_iload_n dX2_commonDivisor_26 0 rfl ?_
          refine sz_i2l dX2_commonDivisor_27 (by omega) ?_
          refine ss_lrem dX2_commonDivisor_28 (by intro h9; have := (lN_eq (a := e + 1) (b := 0) (by omega) (by decide)).mp h9; omega) ?_
          refine ss_lconst (v := 0) dX2_commonDivisor_29 (by decide) ?_
          refine sv_ne 36 dX2_commonDivisor_30 dX2_commonDivisor_31 (by decide) (fun c30 => ?_) (fun c30 => ?_)
          · skip
            refine sz_dec (lv' := [(2, _), (0, _), (1, _)]) dX2_commonDivisor_36 0 rfl (by omega) (by decide) rfl ?_
            refine ss_goto 6 dX2_commonDivisor_39 (by decide) ?_
            rw [show e + 1 - 1 = e from rfl]
            refine ih (by omega) ?_
            have e9 : cdv (b - a) (Y 99 b - Y 99 a) (e + 1) = cdv (b - a) (Y 99 b - Y 99 a) e := by
              rw [cdv_s, if_neg (by omega), if_neg (by intro h9; first | exact c18 h9.1 | exact c30 h9.2)]
            rw [e9] at hQ
            exact hQ
          · skip
            refine ss_iload_n dX2_commonDivisor_34 0 rfl ?_
            exact ss_iret dX2_commonDivisor_35 rfl rfl (cvi (by rw [show cdv (b - a) (Y 99 b - Y 99 a) (e + 1) = e + 1 from by rw [cdv_s, if_neg (by omega), if_pos ⟨c18, c30⟩]]) hQ)
set_option maxHeartbeats 4000000 in
set_option maxRecDepth 100000 in
theorem q_commonDivisor {c : cx} {d : Nat} {X : nX} {Y : nY} {i a b : Nat} (hi : i < 10) (ht0 : X 100 i = nI a) (ht1 : X 100 (i + 1) = nI b) (hab : a ≤ b) (hb : b < 11) : sc c mX2_commonDivisor (d + 1) [.ref (c_ad c 98), .int (nI i)] (X) (Y) (some (.int (nI (cdv (b - a) (Y 99 b - Y 99 a) (b - a))))) (X) (Y) := by
  intro Q hQ
  show ss c mX2_commonDivisor (d + 1) Q 0 [(0, .ref (c_ad c 98)), (1, .int (nI i))] [] (X) (Y)
  refine ss_aload_n dX2_commonDivisor_0 0 rfl ?_
  refine ss_iload_n dX2_commonDivisor_1 1 rfl ?_
  refine ss_callV (As := [_]) (i := 98) dX2_commonDivisor_2 vlX2_57 clX2_width rfl rfl (by omega) (sh_r98 _ _) rfl (Nat.le_of_ble_eq_true rfl) (Nat.le_of_ble_eq_true rfl) (q_width hi ht0 ht1 hab hb) ?_
  refine ss_istore_n (lv' := [(2, _), (0, _), (1, _)]) dX2_commonDivisor_5 (by decide) rfl ?_
  exact l_commonDivisor hi ht0 ht1 hab hb (b - a) (by omega) hQ
set_option maxHeartbeats 4000000 in
set_option maxRecDepth 100000 in
theorem q_top {c : cx} {d : Nat} {X : nX} {Y : nY} {i a b : Nat} (hi : i < 10) (ht0 : X 100 i = nI a) (ht1 : X 100 (i + 1) = nI b) (hab : a ≤ b) (hb : b < 11) : sc c mX2_top (d + 2) [.ref (c_ad c 98), .int (nI i)] (X) (Y) (some (.long ((Y 99 b - Y 99 a) / lN (cdv (b - a) (Y 99 b - Y 99 a) (b - a))))) (X) (Y) := by
  intro Q hQ
  show ss c mX2_top (d + 2) Q 0 [(0, .ref (c_ad c 98)), (1, .int (nI i))] [] (X) (Y)
  refine ss_aload_n dX2_top_0 0 rfl ?_
  refine ss_iload_n dX2_top_1 1 rfl ?_
  refine ss_callV (As := [_]) (i := 98) dX2_top_2 vlX2_50 clX2_climb rfl rfl (by omega) (sh_r98 _ _) rfl (Nat.le_of_ble_eq_true rfl) (Nat.le_of_ble_eq_true rfl) (q_climb hi ht0 ht1 hab hb) ?_
  refine ss_aload_n dX2_top_5 0 rfl ?_
  refine ss_iload_n dX2_top_6 1 rfl ?_
  refine ss_callV (As := [_]) (i := 98) dX2_top_7 vlX2_54 clX2_commonDivisor rfl rfl (by omega) (sh_r98 _ _) rfl (Nat.le_of_ble_eq_true rfl) (Nat.le_of_ble_eq_true rfl) (q_commonDivisor hi ht0 ht1 hab hb) ?_
  refine sz_i2l dX2_top_10 (by have h8 := cdv_in (b - a) (Y 99 b - Y 99 a) (b - a); omega) ?_
  refine ss_ldiv dX2_top_11 (by intro h9; have h8 := cdv_in (b - a) (Y 99 b - Y 99 a) (b - a); have := (lN_eq (a := cdv (b - a) (Y 99 b - Y 99 a) (b - a)) (b := 0) (by omega) (by decide)).mp h9; omega) ?_
  exact ss_lret dX2_top_12 rfl (hQ)
set_option maxHeartbeats 4000000 in
set_option maxRecDepth 100000 in
theorem q_bottom {c : cx} {d : Nat} {X : nX} {Y : nY} {i a b : Nat} (hi : i < 10) (ht0 : X 100 i = nI a) (ht1 : X 100 (i + 1) = nI b) (hab : a ≤ b) (hb : b < 11) : sc c mX2_bottom (d + 2) [.ref (c_ad c 98), .int (nI i)] (X) (Y) (some (.long (lN ((b - a) / (cdv (b - a) (Y 99 b - Y 99 a) (b - a)))))) (X) (Y) := by
  intro Q hQ
  show ss c mX2_bottom (d + 2) Q 0 [(0, .ref (c_ad c 98)), (1, .int (nI i))] [] (X) (Y)
  refine ss_aload_n dX2_bottom_0 0 rfl ?_
  refine ss_iload_n dX2_bottom_1 1 rfl ?_
  refine ss_callV (As := [_]) (i := 98) dX2_bottom_2 vlX2_57 clX2_width rfl rfl (by omega) (sh_r98 _ _) rfl (Nat.le_of_ble_eq_true rfl) (Nat.le_of_ble_eq_true rfl) (q_width hi ht0 ht1 hab hb) ?_
  refine ss_aload_n dX2_bottom_5 0 rfl ?_
  refine ss_iload_n dX2_bottom_6 1 rfl ?_
  refine ss_callV (As := [_]) (i := 98) dX2_bottom_7 vlX2_54 clX2_commonDivisor rfl rfl (by omega) (sh_r98 _ _) rfl (Nat.le_of_ble_eq_true rfl) (Nat.le_of_ble_eq_true rfl) (q_commonDivisor hi ht0 ht1 hab hb) ?_
  refine sz_idiv dX2_bottom_10 (by omega) (by have h8 := cdv_in (b - a) (Y 99 b - Y 99 a) (b - a); omega) (by have h8 := cdv_in (b - a) (Y 99 b - Y 99 a) (b - a); omega) ?_
  refine sz_i2l dX2_bottom_11 (by have := Nat.div_le_self (b - a) (cdv (b - a) (Y 99 b - Y 99 a) (b - a)); omega) ?_
  exact ss_lret dX2_bottom_12 rfl (hQ)
