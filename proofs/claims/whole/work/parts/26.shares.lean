set_option maxHeartbeats 4000000 in
set_option maxRecDepth 100000 in
theorem l_sbegin {c : cx} {d : Nat} {X : nX} {Y : nY} {Q : Option Value → nX → nY → Prop} {n : Nat} (hn : n ≤ 10) (hth : X 101 3 = nI n) (hQ : Q none (mpx X 102 0 n (fun k => nI k)) (mpl Y 103 0 n (fun _ => 0))) : ∀ (nn i : Nat), i + nn = n → ss c mX4_begin d Q 12 [(2, .int (nI i)), (0, .ref (c_ad c 101)), (1, .int (nI n))] [] (mpx X 102 0 i (fun k => nI k)) (mpl Y 103 0 i (fun _ => 0)) := by
  intro nn
  induction nn with
  | zero =>
      intro i hin
      simp only [Nat.add_zero] at hin
      subst hin
      refine ss_iload_n dX4_begin_12 0 rfl ?_
      refine ss_aload_n dX4_begin_13 1 rfl ?_
      refine ss_get (i := 101) dX4_begin_14 flX4_26 (by omega) (sh_r101 _ _) rfl ?_
      rw [mpx_ne (by omega), hth]
      refine sz_icmp_ge 40 dX4_begin_17 (by decide) (by omega) (by omega) (fun c17 => ?_) (fun c17 => by omega)
      exact ss_vret dX4_begin_40 rfl (hQ)
  | succ nn ih =>
      intro i hin
      refine ss_iload_n dX4_begin_12 0 rfl ?_
      refine ss_aload_n dX4_begin_13 1 rfl ?_
      refine ss_get (i := 101) dX4_begin_14 flX4_26 (by omega) (sh_r101 _ _) rfl ?_
      rw [mpx_ne (by omega), hth]
      refine sz_icmp_ge 40 dX4_begin_17 (by decide) (by omega) (by omega) (fun c17 => by omega) (fun c17 => ?_)
      refine ss_aload_n dX4_begin_20 1 rfl ?_
      refine ss_get (i := 101) dX4_begin_21 flX4_9 (by omega) (sh_r101 _ _) rfl ?_
      refine ss_iload_n dX4_begin_24 0 rfl ?_
      refine ss_iload_n dX4_begin_25 0 rfl ?_
      refine ss_iast (i := 102) dX4_begin_26 (by omega) (sh_r102) (by omega) (by decide) ?_
      refine ss_aload_n dX4_begin_27 1 rfl ?_
      refine ss_get (i := 101) dX4_begin_28 flX4_15 (by omega) (sh_r101 _ _) rfl ?_
      refine ss_iload_n dX4_begin_31 0 rfl ?_
      refine ss_lconst (v := 0) dX4_begin_32 (by decide) ?_
      refine ss_last (i := 103) dX4_begin_33 (by omega) (sh_r103) (by omega) (by decide) ?_
      refine sz_inc (lv' := [(2, _), (0, _), (1, _)]) dX4_begin_34 0 rfl (by decide) rfl ?_
      refine ss_goto 12 dX4_begin_37 (by decide) ?_
      refine ss_eX (mpx_s (Nat.zero_le _) rfl) ?_
      refine ss_eY (mpl_s (Nat.zero_le _) rfl) ?_
      exact ih (i + 1) (by omega)
set_option maxHeartbeats 4000000 in
set_option maxRecDepth 100000 in
theorem q_sbegin {c : cx} {d : Nat} {X : nX} {Y : nY} {n : Nat} (hn : n ≤ 10) : sc c mX4_begin d [.ref (c_ad c 101), .int (nI n)] (X) (Y) none (mpx (up2 (up2 X 101 3 (nI n)) 101 4 (nI 1)) 102 0 n (fun k => nI k)) (mpl Y 103 0 n (fun _ => 0)) := by
  intro Q hQ
  show ss c mX4_begin d Q 0 [(0, .ref (c_ad c 101)), (1, .int (nI n))] [] (X) (Y)
  refine ss_aload_n dX4_begin_0 0 rfl ?_
  refine ss_iload_n dX4_begin_1 1 rfl ?_
  refine ss_put (i := 101) dX4_begin_2 fwX4_26 (by omega) (sh_r101 _ _) rfl rfl (Nat.le_of_ble_eq_true rfl) (sh_r101 _ _) ?_
  refine ss_aload_n dX4_begin_5 0 rfl ?_
  refine ss_iconst (v := nI 1) dX4_begin_6 (by decide) ?_
  refine ss_put (i := 101) dX4_begin_7 fwX4_22 (by omega) (sh_r101 _ _) rfl rfl (Nat.le_of_ble_eq_true rfl) (sh_r101 _ _) ?_
  refine ss_iconst (v := nI 0) dX4_begin_10 (by decide) ?_
  refine ss_istore_n (lv' := [(2, _), (0, _), (1, _)]) dX4_begin_11 (by decide) rfl ?_
  have h9 := l_sbegin (X := up2 (up2 X 101 3 (nI n)) 101 4 (nI 1)) (Y := Y) (c := c) (d := d) hn (by simp [up2_at]) hQ n 0 (by omega)
  rw [mpx_0, mpl_0] at h9
  exact h9
def p_plc (X : nX) (t : Int32) : Nat → Bool := fun k => decide (X 102 k = t)
set_option maxHeartbeats 4000000 in
set_option maxRecDepth 100000 in
theorem l_placeOf {c : cx} {d : Nat} {X : nX} {Y : nY} {Q : Option Value → nX → nY → Prop} {n : Nat} (hn : n ≤ 10) (hth : X 101 3 = nI n) {t : Int32} (hQ : Q (some (.int (nI ((ffind (p_plc X t) n).getD 0)))) X Y) : ∀ (nn i : Nat), i + nn = n → (ffind (p_plc X t) i = none) → ss c mX4_placeOf d Q 2 [(2, .int (nI i)), (0, .ref (c_ad c 101)), (1, .int t)] [] (X) (Y) := by
  intro nn
  induction nn with
  | zero =>
      intro i hin hinv
      simp only [Nat.add_zero] at hin
      subst hin
      refine ss_iload_n dX4_placeOf_2 0 rfl ?_
      refine ss_aload_n dX4_placeOf_3 1 rfl ?_
      refine ss_get (i := 101) dX4_placeOf_4 flX4_26 (by omega) (sh_r101 _ _) rfl ?_
      rw [hth]
      refine sz_icmp_ge 28 dX4_placeOf_7 (by decide) (by omega) (by omega) (fun c7 => ?_) (fun c7 => by omega)
      refine ss_iconst (v := nI 0) dX4_placeOf_28 (by decide) ?_
      exact ss_iret dX4_placeOf_29 rfl rfl (cvi (by rw [hinv]; rfl) hQ)
  | succ nn ih =>
      intro i hin hinv
      refine ss_iload_n dX4_placeOf_2 0 rfl ?_
      refine ss_aload_n dX4_placeOf_3 1 rfl ?_
      refine ss_get (i := 101) dX4_placeOf_4 flX4_26 (by omega) (sh_r101 _ _) rfl ?_
      rw [hth]
      refine sz_icmp_ge 28 dX4_placeOf_7 (by decide) (by omega) (by omega) (fun c7 => by omega) (fun c7 => ?_)
      refine ss_aload_n dX4_placeOf_10 1 rfl ?_
      refine ss_get (i := 101) dX4_placeOf_11 flX4_9 (by omega) (sh_r101 _ _) rfl ?_
      refine ss_iload_n dX4_placeOf_14 0 rfl ?_
      refine ss_iald (i := 102) dX4_placeOf_15 (by omega) (sh_r102) (by omega) (by decide) ?_
      refine ss_iload_n dX4_placeOf_16 2 rfl ?_
      refine ss_icmp_ne 22 dX4_placeOf_17 (by decide) (fun c17 => ?_) (fun c17 => ?_)
      · skip
        refine sz_inc (lv' := [(2, _), (0, _), (1, _)]) dX4_placeOf_22 0 rfl (by decide) rfl ?_
        refine ss_goto 2 dX4_placeOf_25 (by decide) ?_
        exact ih (i + 1) (by omega) (ff_step hinv (by simp [p_plc, *]))
      · skip
        refine ss_iload_n dX4_placeOf_20 0 rfl ?_
        exact ss_iret dX4_placeOf_21 rfl rfl (cvi (by rw [ff_some hinv (by simp [p_plc, *]) (by omega)]; rfl) hQ)
set_option maxHeartbeats 4000000 in
set_option maxRecDepth 100000 in
theorem q_placeOf {c : cx} {d : Nat} {X : nX} {Y : nY} {n : Nat} (hn : n ≤ 10) (hth : X 101 3 = nI n) {t : Int32} : sc c mX4_placeOf d [.ref (c_ad c 101), .int t] (X) (Y) (some (.int (nI ((ffind (p_plc X t) n).getD 0)))) (X) (Y) := by
  intro Q hQ
  show ss c mX4_placeOf d Q 0 [(0, .ref (c_ad c 101)), (1, .int t)] [] (X) (Y)
  refine ss_iconst (v := nI 0) dX4_placeOf_0 (by decide) ?_
  refine ss_istore_n (lv' := [(2, _), (0, _), (1, _)]) dX4_placeOf_1 (by decide) rfl ?_
  exact l_placeOf hn hth hQ n 0 (by omega) rfl
set_option maxHeartbeats 4000000 in
set_option maxRecDepth 100000 in
theorem l_moveTo1 {c : cx} {d : Nat} {X : nX} {Y : nY} {Q : Option Value → nX → nY → Prop} {t : Int32} {b q : Nat} (hb0 : b < 10) (hq : q < 10) (hQ : ∀ k : Nat, ss c mX4_moveTo (d + 1) Q 37 [(4, .int (nI k)), (3, .int (nI b)), (0, .ref (c_ad c 101)), (1, .int t), (2, .int (nI q))] [] (mpx X 102 b q (fun k => X 102 (k + 1))) Y) : ∀ (nn i : Nat), i + nn = q → (b ≤ i) → ss c mX4_moveTo (d + 1) Q 9 [(4, .int (nI i)), (3, .int (nI b)), (0, .ref (c_ad c 101)), (1, .int t), (2, .int (nI q))] [] (mpx X 102 b i (fun k => X 102 (k + 1))) (Y) := by
  intro nn
  induction nn with
  | zero =>
      intro i hin hinv
      simp only [Nat.add_zero] at hin
      subst hin
      refine ss_iload dX4_moveTo_9 0 rfl ?_
      refine ss_iload_n dX4_moveTo_11 4 rfl ?_
      refine sz_icmp_ge 37 dX4_moveTo_12 (by decide) (by omega) (by omega) (fun c12 => ?_) (fun c12 => by omega)
      exact hQ i
  | succ nn ih =>
      intro i hin hinv
      refine ss_iload dX4_moveTo_9 0 rfl ?_
      refine ss_iload_n dX4_moveTo_11 4 rfl ?_
      refine sz_icmp_ge 37 dX4_moveTo_12 (by decide) (by omega) (by omega) (fun c12 => by omega) (fun c12 => ?_)
      refine ss_aload_n dX4_moveTo_15 2 rfl ?_
      refine ss_get (i := 101) dX4_moveTo_16 flX4_9 (by omega) (sh_r101 _ _) rfl ?_
      refine ss_iload dX4_moveTo_19 0 rfl ?_
      refine ss_aload_n dX4_moveTo_21 2 rfl ?_
      refine ss_get (i := 101) dX4_moveTo_22 flX4_9 (by omega) (sh_r101 _ _) rfl ?_
      refine ss_iload dX4_moveTo_25 0 rfl ?_
      refine ss_iconst (v := nI 1) dX4_moveTo_27 (by decide) ?_
      refine sz_iadd dX4_moveTo_28 ?_
      refine ss_iald (i := 102) dX4_moveTo_29 (by omega) (sh_r102) (by omega) (by decide) ?_
      rw [mpx_out (by omega)]
      refine ss_iast (i := 102) dX4_moveTo_30 (by omega) (sh_r102) (by omega) (by decide) ?_
      refine sz_inc (lv' := [(4, _), (3, _), (0, _), (1, _), (2, _)]) dX4_moveTo_31 0 rfl (by decide) rfl ?_
      refine ss_goto 9 dX4_moveTo_34 (by decide) ?_
      refine ss_eX (mpx_s hinv rfl) ?_
      exact ih (i + 1) (by omega) (by omega)
set_option maxHeartbeats 4000000 in
set_option maxRecDepth 100000 in
theorem l_moveTo1b {c : cx} {d : Nat} {X : nX} {Y : nY} {Q : Option Value → nX → nY → Prop} {t : Int32} {b q : Nat} (hb0 : b < 10) (hq : q < 10) (hqb : q ≤ b) (hQ : ∀ k : Nat, ss c mX4_moveTo (d + 1) Q 37 [(4, .int (nI k)), (3, .int (nI b)), (0, .ref (c_ad c 101)), (1, .int t), (2, .int (nI q))] [] X Y) : ss c mX4_moveTo (d + 1) Q 9 [(4, .int (nI b)), (3, .int (nI b)), (0, .ref (c_ad c 101)), (1, .int t), (2, .int (nI q))] [] X Y := by
  refine ss_iload dX4_moveTo_9 0 rfl ?_
  refine ss_iload_n dX4_moveTo_11 4 rfl ?_
  refine sz_icmp_ge 37 dX4_moveTo_12 (by decide) (by omega) (by omega) (fun c12 => ?_) (fun c12 => by omega)
  exact hQ b
set_option maxHeartbeats 4000000 in
set_option maxRecDepth 100000 in
theorem l_moveTo2 {c : cx} {d : Nat} {X : nX} {Y : nY} {Q : Option Value → nX → nY → Prop} {t : Int32} {b q : Nat} (hb0 : b < 10) (hq : q < 10) (hQ : ∀ k : Nat, ss c mX4_moveTo (d + 1) Q 68 [(4, .int (nI k)), (3, .int (nI b)), (0, .ref (c_ad c 101)), (1, .int t), (2, .int (nI q))] [] (mpx X 102 (q + 1) (b + 1) (fun k => X 102 (k - 1))) Y) : ∀ e, q + e ≤ b → ss c mX4_moveTo (d + 1) Q 40 [(4, .int (nI (q + e))), (3, .int (nI b)), (0, .ref (c_ad c 101)), (1, .int t), (2, .int (nI q))] [] (mpx X 102 (q + e + 1) (b + 1) (fun k => X 102 (k - 1))) Y := by
  intro e
  induction e with
  | zero =>
      intro he
      refine ss_iload dX4_moveTo_40 0 rfl ?_
      refine ss_iload_n dX4_moveTo_42 4 rfl ?_
      refine sz_icmp_le 68 dX4_moveTo_43 (by decide) (by omega) (by omega) (fun c43 => ?_) (fun c43 => by omega)
      exact hQ _
  | succ e ih =>
      intro he
      refine ss_iload dX4_moveTo_40 0 rfl ?_
      refine ss_iload_n dX4_moveTo_42 4 rfl ?_
      refine sz_icmp_le 68 dX4_moveTo_43 (by decide) (by omega) (by omega) (fun c43 => by omega) (fun c43 => ?_)
      refine ss_aload_n dX4_moveTo_46 2 rfl ?_
      refine ss_get (i := 101) dX4_moveTo_47 flX4_9 (by omega) (sh_r101 _ _) rfl ?_
      refine ss_iload dX4_moveTo_50 0 rfl ?_
      refine ss_aload_n dX4_moveTo_52 2 rfl ?_
      refine ss_get (i := 101) dX4_moveTo_53 flX4_9 (by omega) (sh_r101 _ _) rfl ?_
      refine ss_iload dX4_moveTo_56 0 rfl ?_
      refine ss_iconst (v := nI 1) dX4_moveTo_58 (by decide) ?_
      refine sz_isub dX4_moveTo_59 (by omega) ?_
      refine ss_iald (i := 102) dX4_moveTo_60 (by omega) (sh_r102) (by omega) (by decide) ?_
      rw [mpx_out (by omega)]
      refine ss_iast (i := 102) dX4_moveTo_61 (by omega) (sh_r102) (by omega) (by decide) ?_
      refine sz_dec (lv' := [(4, _), (3, _), (0, _), (1, _), (2, _)]) dX4_moveTo_62 0 rfl (by omega) (by decide) rfl ?_
      refine ss_goto 40 dX4_moveTo_65 (by decide) ?_
      refine ss_eX (mpx_d (by omega) rfl) ?_
      rw [show q + (e + 1) - 1 = q + e by omega]
      exact ih (by omega)
set_option maxHeartbeats 4000000 in
set_option maxRecDepth 100000 in
theorem l_moveTo2b {c : cx} {d : Nat} {X : nX} {Y : nY} {Q : Option Value → nX → nY → Prop} {t : Int32} {b q : Nat} (hb0 : b < 10) (hq : q < 10) (hqb : b ≤ q) (hQ : ∀ k : Nat, ss c mX4_moveTo (d + 1) Q 68 [(4, .int (nI k)), (3, .int (nI b)), (0, .ref (c_ad c 101)), (1, .int t), (2, .int (nI q))] [] X Y) : ss c mX4_moveTo (d + 1) Q 40 [(4, .int (nI b)), (3, .int (nI b)), (0, .ref (c_ad c 101)), (1, .int t), (2, .int (nI q))] [] X Y := by
  refine ss_iload dX4_moveTo_40 0 rfl ?_
  refine ss_iload_n dX4_moveTo_42 4 rfl ?_
  refine sz_icmp_le 68 dX4_moveTo_43 (by decide) (by omega) (by omega) (fun c43 => ?_) (fun c43 => by omega)
  exact hQ b
def xmv (X : nX) (b q : Nat) (t : Int32) : nX := fun a => if a = 102 then mrw (X 102) b q t else X a
theorem xmv_up {X : nX} {b q : Nat} {t : Int32} (h : b ≤ q) : up2 (mpx X 102 b q (fun k => X 102 (k + 1))) 102 q t = xmv X b q t := by
  funext a k
  rw [up2_at]
  unfold xmv mrw mpx
  by_cases h1 : a = 102
  · subst h1
    by_cases h2 : k = q
    · simp [h2]
    · simp only [h2, and_false, if_false, true_and, if_true]
      by_cases h3 : b ≤ k ∧ k < q
      · rw [if_pos h3, if_pos h3]
      · rw [if_neg h3, if_neg h3, if_neg (by omega)]
  · simp [h1]
theorem xmv_dn {X : nX} {b q : Nat} {t : Int32} (h : q ≤ b) : up2 (mpx X 102 (q + 1) (b + 1) (fun k => X 102 (k - 1))) 102 q t = xmv X b q t := by
  funext a k
  rw [up2_at]
  unfold xmv mrw mpx
  by_cases h1 : a = 102
  · subst h1
    by_cases h2 : k = q
    · simp [h2]
    · simp only [h2, and_false, if_false, true_and, if_true]
      rw [if_neg (show ¬ (b ≤ k ∧ k < q) by omega)]
      by_cases h3 : q < k ∧ k ≤ b
      · rw [if_pos (by omega), if_pos h3]
      · rw [if_neg (by omega), if_neg h3]
  · simp [h1]
set_option maxHeartbeats 4000000 in
set_option maxRecDepth 100000 in
theorem l_moveTo {c : cx} {d : Nat} {X : nX} {Y : nY} {Q : Option Value → nX → nY → Prop} {t : Int32} {b q : Nat} (hb0 : b < 10) (hq : q < 10) (hQ : Q (some (.int (nI b))) (xmv X b q t) Y) : ss c mX4_moveTo (d + 1) Q 9 [(4, .int (nI b)), (3, .int (nI b)), (0, .ref (c_ad c 101)), (1, .int t), (2, .int (nI q))] [] X Y := by
  rcases Nat.lt_or_ge b q with hbq | hbq
  · have h9 := l_moveTo1 (X := X) (Y := Y) (c := c) (d := d) (Q := Q) (t := t) hb0 hq (fun k9 => ?k9) (q - b) b (by omega) (Nat.le_refl b)
    case k9 =>
      refine ss_iload_n dX4_moveTo_37 1 rfl ?_
      refine ss_istore (lv' := [(4, _), (3, _), (0, _), (1, _), (2, _)]) dX4_moveTo_38 (by decide) rfl ?_
      refine l_moveTo2b (by omega) hq (by omega) (fun k8 => ?_)
      refine ss_aload_n dX4_moveTo_68 2 rfl ?_
      refine ss_get (i := 101) dX4_moveTo_69 flX4_9 (by omega) (sh_r101 _ _) rfl ?_
      refine ss_iload_n dX4_moveTo_72 4 rfl ?_
      refine ss_iload_n dX4_moveTo_73 3 rfl ?_
      refine ss_iast (i := 102) dX4_moveTo_74 (by omega) (sh_r102) (by omega) (by decide) ?_
      refine ss_iload_n dX4_moveTo_75 1 rfl ?_
      exact ss_iret dX4_moveTo_76 rfl rfl (by rw [xmv_up (by omega)]; exact hQ)
    rw [mpx_0] at h9
    exact h9
  · refine l_moveTo1b hb0 hq hbq (fun k9 => ?_)
    refine ss_iload_n dX4_moveTo_37 1 rfl ?_
    refine ss_istore (lv' := [(4, _), (3, _), (0, _), (1, _), (2, _)]) dX4_moveTo_38 (by decide) rfl ?_
    have h7 := l_moveTo2 (X := X) (Y := Y) (c := c) (d := d) (Q := Q) (t := t) (b := b) (q := q) hb0 hq (fun k8 => ?k8) (b - q) (by omega)
    case k8 =>
      refine ss_aload_n dX4_moveTo_68 2 rfl ?_
      refine ss_get (i := 101) dX4_moveTo_69 flX4_9 (by omega) (sh_r101 _ _) rfl ?_
      refine ss_iload_n dX4_moveTo_72 4 rfl ?_
      refine ss_iload_n dX4_moveTo_73 3 rfl ?_
      refine ss_iast (i := 102) dX4_moveTo_74 (by omega) (sh_r102) (by omega) (by decide) ?_
      refine ss_iload_n dX4_moveTo_75 1 rfl ?_
      exact ss_iret dX4_moveTo_76 rfl rfl (by rw [xmv_dn (by omega)]; exact hQ)
    rw [show q + (b - q) = b by omega, mpx_0] at h7
    exact h7
set_option maxHeartbeats 4000000 in
set_option maxRecDepth 100000 in
theorem q_moveTo {c : cx} {d : Nat} {X : nX} {Y : nY} {n : Nat} (hn : n ≤ 10) (hth : X 101 3 = nI n) {t : Int32} {q : Nat} (hq : q < n) : sc c mX4_moveTo (d + 1) [.ref (c_ad c 101), .int t, .int (nI q)] (X) (Y) (some (.int (nI ((ffind (p_plc X t) n).getD 0)))) (xmv X ((ffind (p_plc X t) n).getD 0) q t) (Y) := by
  intro Q hQ
  show ss c mX4_moveTo (d + 1) Q 0 [(0, .ref (c_ad c 101)), (1, .int t), (2, .int (nI q))] [] (X) (Y)
  refine ss_aload_n dX4_moveTo_0 0 rfl ?_
  refine ss_iload_n dX4_moveTo_1 1 rfl ?_
  refine ss_callV (As := [_]) (i := 101) dX4_moveTo_2 vlX4_29 clX4_placeOf rfl rfl (by omega) (sh_r101 _ _) rfl (Nat.le_of_ble_eq_true rfl) (Nat.le_of_ble_eq_true rfl) (q_placeOf hn hth) ?_
  refine ss_istore_n (lv' := [(3, _), (0, _), (1, _), (2, _)]) dX4_moveTo_5 (by decide) rfl ?_
  refine ss_iload_n dX4_moveTo_6 0 rfl ?_
  refine ss_istore (lv' := [(4, _), (3, _), (0, _), (1, _), (2, _)]) dX4_moveTo_7 (by decide) rfl ?_
  exact l_moveTo (by cases h8 : ffind (p_plc X t) n with | none => exact (by decide : (0 : Nat) < 10) | some k => have := (ff_spec h8).1; show k < 10; omega) (by omega) hQ
set_option maxHeartbeats 4000000 in
set_option maxRecDepth 100000 in
theorem l_findCorner {c : cx} {d : Nat} {X : nX} {Y : nY} {Q : Option Value → nX → nY → Prop} {w : Nat} (hw : w < 12) {n : Nat} (hn : n ≤ 10) (hth : X 101 3 = nI n) {r : Nat → Nat} (hr : ∀ k, k < n → X 102 k = nI (r k)) (hr2 : ∀ k, k < n → r k < 10) (hQ : Q none X (srw Y 104 (cor (Y (3 + 7 * w)) r (Y 104) n))) : ∀ (nn i : Nat), i + nn = n → ss c mX4_findCorner (d + 1) Q 4 [(3, .int (nI i)), (2, .int (nI (ahd r i))), (0, .ref (c_ad c 101)), (1, .ref (c_ad c (2 + 7 * w)))] [] (X) (srw Y 104 (cor (Y (3 + 7 * w)) r (Y 104) i)) := by
  intro nn
  induction nn with
  | zero =>
      intro i hin
      simp only [Nat.add_zero] at hin
      subst hin
      refine ss_iload_n dX4_findCorner_4 0 rfl ?_
      refine ss_aload_n dX4_findCorner_5 2 rfl ?_
      refine ss_get (i := 101) dX4_findCorner_6 flX4_26 (by omega) (sh_r101 _ _) rfl ?_
      rw [hth]
      refine sz_icmp_ge 51 dX4_findCorner_9 (by decide) (by omega) (by omega) (fun c9 => ?_) (fun c9 => by omega)
      exact ss_vret dX4_findCorner_51 rfl (hQ)
  | succ nn ih =>
      intro i hin
      refine ss_iload_n dX4_findCorner_4 0 rfl ?_
      refine ss_aload_n dX4_findCorner_5 2 rfl ?_
      refine ss_get (i := 101) dX4_findCorner_6 flX4_26 (by omega) (sh_r101 _ _) rfl ?_
      rw [hth]
      refine sz_icmp_ge 51 dX4_findCorner_9 (by decide) (by omega) (by omega) (fun c9 => by omega) (fun c9 => ?_)
      refine ss_aload_n dX4_findCorner_12 2 rfl ?_
      refine ss_get (i := 101) dX4_findCorner_13 flX4_19 (by omega) (sh_r101 _ _) rfl ?_
      refine ss_aload_n dX4_findCorner_16 2 rfl ?_
      refine ss_get (i := 101) dX4_findCorner_17 flX4_9 (by omega) (sh_r101 _ _) rfl ?_
      refine ss_iload_n dX4_findCorner_20 0 rfl ?_
      refine ss_iald (i := 102) dX4_findCorner_21 (by omega) (sh_r102) (by omega) (by decide) ?_
      rw [hr i (by omega)]
      refine ss_aload_n dX4_findCorner_22 3 rfl ?_
      refine ss_iload_n dX4_findCorner_23 1 rfl ?_
      refine ss_aload_n dX4_findCorner_24 2 rfl ?_
      refine ss_get (i := 101) dX4_findCorner_25 flX4_9 (by omega) (sh_r101 _ _) rfl ?_
      refine ss_iload_n dX4_findCorner_28 0 rfl ?_
      refine ss_iald (i := 102) dX4_findCorner_29 (by omega) (sh_r102) (by omega) (by decide) ?_
      rw [hr i (by omega)]
      refine ss_callV (As := [_, _]) (i := 2 + 7 * w) dX4_findCorner_30 vlX4_33 clX6_gain rfl rfl (by omega) (sh_w0 hw _ _) rfl (Nat.le_of_ble_eq_true rfl) (Nat.le_of_ble_eq_true rfl) (q_gain hw (by have := ahd_lt (m := 10) hr2 i (by omega); omega) (hr2 i (by omega))) ?_
      rw [srw_ne (by omega)]
      refine ss_last (i := 104) dX4_findCorner_33 (by omega) (sh_r104) (hr2 i (by omega)) (by decide) ?_
      refine ss_iload_n dX4_findCorner_34 1 rfl ?_
      refine ss_iconst (v := nI 1) dX4_findCorner_35 (by decide) ?_
      refine ss_aload_n dX4_findCorner_36 2 rfl ?_
      refine ss_get (i := 101) dX4_findCorner_37 flX4_9 (by omega) (sh_r101 _ _) rfl ?_
      refine ss_iload_n dX4_findCorner_40 0 rfl ?_
      refine ss_iald (i := 102) dX4_findCorner_41 (by omega) (sh_r102) (by omega) (by decide) ?_
      rw [hr i (by omega)]
      refine sz_shl1 dX4_findCorner_42 (by have := hr2 i (by omega); omega) ?_
      refine sz_ior dX4_findCorner_43 ?_
      refine ss_istore_n (lv' := [(2, _), (3, _), (0, _), (1, _)]) dX4_findCorner_44 (by decide) rfl ?_
      refine sz_inc (lv' := [(3, _), (2, _), (0, _), (1, _)]) dX4_findCorner_45 1 rfl (by decide) rfl ?_
      refine ss_goto 4 dX4_findCorner_48 (by decide) ?_
      refine ss_eY srw_up ?_
      exact ih (i + 1) (by omega)
set_option maxHeartbeats 4000000 in
set_option maxRecDepth 100000 in
theorem q_findCorner {c : cx} {d : Nat} {X : nX} {Y : nY} {w : Nat} (hw : w < 12) {n : Nat} (hn : n ≤ 10) (hth : X 101 3 = nI n) {r : Nat → Nat} (hr : ∀ k, k < n → X 102 k = nI (r k)) (hr2 : ∀ k, k < n → r k < 10) : sc c mX4_findCorner (d + 1) [.ref (c_ad c 101), .ref (c_ad c (2 + 7 * w))] (X) (Y) none (X) (srw Y 104 (cor (Y (3 + 7 * w)) r (Y 104) n)) := by
  intro Q hQ
  show ss c mX4_findCorner (d + 1) Q 0 [(0, .ref (c_ad c 101)), (1, .ref (c_ad c (2 + 7 * w)))] [] (X) (Y)
  refine ss_iconst (v := nI 0) dX4_findCorner_0 (by decide) ?_
  refine ss_istore_n (lv' := [(2, _), (0, _), (1, _)]) dX4_findCorner_1 (by decide) rfl ?_
  refine ss_iconst (v := nI 0) dX4_findCorner_2 (by decide) ?_
  refine ss_istore_n (lv' := [(3, _), (2, _), (0, _), (1, _)]) dX4_findCorner_3 (by decide) rfl ?_
  have h9 := l_findCorner (X := X) (Y := Y) (c := c) (d := d) hw hn hth hr hr2 hQ n 0 (by omega)
  rw [show cor (Y (3 + 7 * w)) r (Y 104) 0 = Y 104 from rfl, srw_self] at h9
  exact h9
set_option maxHeartbeats 4000000 in
set_option maxRecDepth 100000 in
theorem q_blended {c : cx} {d : Nat} {X : nX} {Y : nY} {t : Nat} (ht : t < 10) {f g : Int32} : sc c mX4_blended d [.ref (c_ad c 101), .int (nI t), .int f, .int g] (X) (Y) (some (.long (Y 103 t * f.toInt64 + Y 104 t * g.toInt64))) (X) (Y) := by
  intro Q hQ
  show ss c mX4_blended d Q 0 [(0, .ref (c_ad c 101)), (1, .int (nI t)), (2, .int f), (3, .int g)] [] (X) (Y)
  refine ss_aload_n dX4_blended_0 0 rfl ?_
  refine ss_get (i := 101) dX4_blended_1 flX4_15 (by omega) (sh_r101 _ _) rfl ?_
  refine ss_iload_n dX4_blended_4 1 rfl ?_
  refine ss_lald (i := 103) dX4_blended_5 (by omega) (sh_r103) (by omega) (by decide) ?_
  refine ss_iload_n dX4_blended_6 2 rfl ?_
  refine ss_i2l dX4_blended_7 ?_
  refine ss_lmul dX4_blended_8 ?_
  refine ss_aload_n dX4_blended_9 0 rfl ?_
  refine ss_get (i := 101) dX4_blended_10 flX4_19 (by omega) (sh_r101 _ _) rfl ?_
  refine ss_iload_n dX4_blended_13 1 rfl ?_
  refine ss_lald (i := 104) dX4_blended_14 (by omega) (sh_r104) (by omega) (by decide) ?_
  refine ss_iload_n dX4_blended_15 3 rfl ?_
  refine ss_i2l dX4_blended_16 ?_
  refine ss_lmul dX4_blended_17 ?_
  refine ss_ladd dX4_blended_18 ?_
  exact ss_lret dX4_blended_19 rfl (hQ)
def f_bl (Y : nY) (f g : Int32) : Nat → Int64 := fun t => Y 103 t * f.toInt64 + Y 104 t * g.toInt64
def p_bl (Y : nY) (f g : Int32) : Nat → Bool := fun t => !(wi (f_bl Y f g t) (-1000000000000000) 1000000000000000)
set_option maxHeartbeats 4000000 in
set_option maxRecDepth 100000 in
theorem l_isLargeBlend {c : cx} {d : Nat} {X : nX} {Y : nY} {Q : Option Value → nX → nY → Prop} {n : Nat} (hn : n ≤ 10) (hth : X 101 3 = nI n) {f g : Int32} (hQ : Q (some (.int (bI (lany (p_bl Y f g) n)))) X Y) : ∀ (nn i : Nat), i + nn = n → (ffind (p_bl Y f g) i = none) → ss c mX4_isLargeBlend (d + 2) Q 17 [(3, .int (nI i)), (0, .ref (c_ad c 101)), (1, .int f), (2, .int g)] [] (X) (Y) := by
  intro nn
  induction nn with
  | zero =>
      intro i hin hinv
      simp only [Nat.add_zero] at hin
      subst hin
      refine ss_iload_n dX4_isLargeBlend_17 0 rfl ?_
      refine ss_aload_n dX4_isLargeBlend_18 1 rfl ?_
      refine ss_get (i := 101) dX4_isLargeBlend_19 flX4_26 (by omega) (sh_r101 _ _) rfl ?_
      rw [hth]
      refine sz_icmp_ge 49 dX4_isLargeBlend_22 (by decide) (by omega) (by omega) (fun c22 => ?_) (fun c22 => by omega)
      refine ss_iconst (v := nI 0) dX4_isLargeBlend_49 (by decide) ?_
      exact ss_iret dX4_isLargeBlend_50 rfl rfl (cvi (by rw [lany_f hinv]; rfl) hQ)
  | succ nn ih =>
      intro i hin hinv
      refine ss_iload_n dX4_isLargeBlend_17 0 rfl ?_
      refine ss_aload_n dX4_isLargeBlend_18 1 rfl ?_
      refine ss_get (i := 101) dX4_isLargeBlend_19 flX4_26 (by omega) (sh_r101 _ _) rfl ?_
      rw [hth]
      refine sz_icmp_ge 49 dX4_isLargeBlend_22 (by decide) (by omega) (by omega) (fun c22 => by omega) (fun c22 => ?_)
      refine ss_aload_n dX4_isLargeBlend_25 1 rfl ?_
      refine ss_iload_n dX4_isLargeBlend_26 0 rfl ?_
      refine ss_iload_n dX4_isLargeBlend_27 2 rfl ?_
      refine ss_iload_n dX4_isLargeBlend_28 3 rfl ?_
      refine ss_callV (As := [_, _, _]) (i := 101) dX4_isLargeBlend_29 vlX4_40 clX4_blended rfl rfl (by omega) (sh_r101 _ _) rfl (Nat.le_of_ble_eq_true rfl) (Nat.le_of_ble_eq_true rfl) (q_blended (by omega)) ?_
      refine ss_ldc2 dX4_isLargeBlend_32 kcX4_44 ?_
      refine ss_callSN (As := [_, _]) dX4_isLargeBlend_35 vlX4_46 clX7_isInSize rfl rfl (Nat.le_of_ble_eq_true rfl) (Nat.le_of_ble_eq_true rfl) (q_isInSize) ?_
      refine sy_if_ne 43 dX4_isLargeBlend_38 (by decide) (fun c38 => ?_) (fun c38 => ?_)
      · skip
        refine sz_inc (lv' := [(3, _), (0, _), (1, _), (2, _)]) dX4_isLargeBlend_43 0 rfl (by decide) rfl ?_
        refine ss_goto 17 dX4_isLargeBlend_46 (by decide) ?_
        exact ih (i + 1) (by omega) (ff_step hinv (by simp [p_bl, f_bl, *]))
      · skip
        refine ss_iconst (v := nI 1) dX4_isLargeBlend_41 (by decide) ?_
        exact ss_iret dX4_isLargeBlend_42 rfl rfl (cvi (by rw [lany_t hinv (by simp [p_bl, f_bl, *]) (by omega)]; rfl) hQ)
set_option maxHeartbeats 4000000 in
set_option maxRecDepth 100000 in
theorem q_isLargeBlend {c : cx} {d : Nat} {X : nX} {Y : nY} {n : Nat} (hn : n ≤ 10) (hth : X 101 3 = nI n) {f g : Int32} : sc c mX4_isLargeBlend (d + 2) [.ref (c_ad c 101), .int f, .int g] (X) (Y) (some (.int (bI (decide (1000000 < X 101 4 * f + g) || lany (p_bl Y f g) n)))) (X) (Y) := by
  intro Q hQ
  show ss c mX4_isLargeBlend (d + 2) Q 0 [(0, .ref (c_ad c 101)), (1, .int f), (2, .int g)] [] (X) (Y)
  refine ss_aload_n dX4_isLargeBlend_0 0 rfl ?_
  refine ss_get (i := 101) dX4_isLargeBlend_1 flX4_22 (by omega) (sh_r101 _ _) rfl ?_
  refine ss_iload_n dX4_isLargeBlend_4 1 rfl ?_
  refine ss_imul dX4_isLargeBlend_5 ?_
  refine ss_iload_n dX4_isLargeBlend_6 2 rfl ?_
  refine ss_iadd dX4_isLargeBlend_7 ?_
  refine ss_ldc dX4_isLargeBlend_8 kcX4_39 ?_
  refine ss_icmp_le 15 dX4_isLargeBlend_10 (by decide) (fun c10 => ?_) (fun c10 => ?_)
  · skip
    refine ss_iconst (v := nI 0) dX4_isLargeBlend_15 (by decide) ?_
    refine ss_istore_n (lv' := [(3, _), (0, _), (1, _), (2, _)]) dX4_isLargeBlend_16 (by decide) rfl ?_
    rw [show decide (1000000 < X 101 4 * f + g) = false from by simp only [decide_eq_false_iff_not, Int32.lt_iff_toInt_lt, Int32.le_iff_toInt_le] at *; omega, Bool.false_or] at hQ
    exact l_isLargeBlend hn hth hQ n 0 (by omega) rfl
  · skip
    refine ss_iconst (v := nI 1) dX4_isLargeBlend_13 (by decide) ?_
    exact ss_iret dX4_isLargeBlend_14 rfl rfl (cvi (by rw [show decide (1000000 < X 101 4 * f + g) = true from by simp only [decide_eq_true_eq, Int32.lt_iff_toInt_lt, Int32.le_iff_toInt_le] at *; omega]; rfl) hQ)
set_option maxHeartbeats 4000000 in
set_option maxRecDepth 100000 in
theorem l_blend {c : cx} {d : Nat} {X : nX} {Y : nY} {Q : Option Value → nX → nY → Prop} {n : Nat} (hn : n ≤ 10) (hth : X 101 3 = nI n) {f g : Int32} (hQ : Q none X (mpl Y 103 0 n (f_bl Y f g))) : ∀ (nn i : Nat), i + nn = n → ss c mX4_blend (d + 1) Q 14 [(3, .int (nI i)), (0, .ref (c_ad c 101)), (1, .int f), (2, .int g)] [] (X) (mpl Y 103 0 i (f_bl Y f g)) := by
  intro nn
  induction nn with
  | zero =>
      intro i hin
      simp only [Nat.add_zero] at hin
      subst hin
      refine ss_iload_n dX4_blend_14 0 rfl ?_
      refine ss_aload_n dX4_blend_15 1 rfl ?_
      refine ss_get (i := 101) dX4_blend_16 flX4_26 (by omega) (sh_r101 _ _) rfl ?_
      rw [hth]
      refine sz_icmp_ge 41 dX4_blend_19 (by decide) (by omega) (by omega) (fun c19 => ?_) (fun c19 => by omega)
      exact ss_vret dX4_blend_41 rfl (hQ)
  | succ nn ih =>
      intro i hin
      refine ss_iload_n dX4_blend_14 0 rfl ?_
      refine ss_aload_n dX4_blend_15 1 rfl ?_
      refine ss_get (i := 101) dX4_blend_16 flX4_26 (by omega) (sh_r101 _ _) rfl ?_
      rw [hth]
      refine sz_icmp_ge 41 dX4_blend_19 (by decide) (by omega) (by omega) (fun c19 => by omega) (fun c19 => ?_)
      refine ss_aload_n dX4_blend_22 1 rfl ?_
      refine ss_get (i := 101) dX4_blend_23 flX4_15 (by omega) (sh_r101 _ _) rfl ?_
      refine ss_iload_n dX4_blend_26 0 rfl ?_
      refine ss_aload_n dX4_blend_27 1 rfl ?_
      refine ss_iload_n dX4_blend_28 0 rfl ?_
      refine ss_iload_n dX4_blend_29 2 rfl ?_
      refine ss_iload_n dX4_blend_30 3 rfl ?_
      refine ss_callV (As := [_, _, _]) (i := 101) dX4_blend_31 vlX4_40 clX4_blended rfl rfl (by omega) (sh_r101 _ _) rfl (Nat.le_of_ble_eq_true rfl) (Nat.le_of_ble_eq_true rfl) (q_blended (by omega)) ?_
      refine ss_last (i := 103) dX4_blend_34 (by omega) (sh_r103) (by omega) (by decide) ?_
      refine sz_inc (lv' := [(3, _), (0, _), (1, _), (2, _)]) dX4_blend_35 0 rfl (by decide) rfl ?_
      refine ss_goto 14 dX4_blend_38 (by decide) ?_
      refine ss_eY (mpl_s (Nat.zero_le _) ?_) ?_
      · rw [mpl_at, mpl_ne (by omega)]; rfl
      exact ih (i + 1) (by omega)
set_option maxHeartbeats 4000000 in
set_option maxRecDepth 100000 in
theorem q_blend {c : cx} {d : Nat} {X : nX} {Y : nY} {n : Nat} (hn : n ≤ 10) (hth : X 101 3 = nI n) {f g : Int32} : sc c mX4_blend (d + 1) [.ref (c_ad c 101), .int f, .int g] (X) (Y) none (up2 X 101 4 (X 101 4 * f + g)) (mpl Y 103 0 n (f_bl Y f g)) := by
  intro Q hQ
  show ss c mX4_blend (d + 1) Q 0 [(0, .ref (c_ad c 101)), (1, .int f), (2, .int g)] [] (X) (Y)
  refine ss_aload_n dX4_blend_0 0 rfl ?_
  refine ss_aload_n dX4_blend_1 0 rfl ?_
  refine ss_get (i := 101) dX4_blend_2 flX4_22 (by omega) (sh_r101 _ _) rfl ?_
  refine ss_iload_n dX4_blend_5 1 rfl ?_
  refine ss_imul dX4_blend_6 ?_
  refine ss_iload_n dX4_blend_7 2 rfl ?_
  refine ss_iadd dX4_blend_8 ?_
  refine ss_put (i := 101) dX4_blend_9 fwX4_22 (by omega) (sh_r101 _ _) rfl rfl (Nat.le_of_ble_eq_true rfl) (sh_r101 _ _) ?_
  refine ss_iconst (v := nI 0) dX4_blend_12 (by decide) ?_
  refine ss_istore_n (lv' := [(3, _), (0, _), (1, _), (2, _)]) dX4_blend_13 (by decide) rfl ?_
  have h9 := l_blend (X := up2 X 101 4 (X 101 4 * f + g)) (Y := Y) (c := c) (d := d) hn (by simp [up2_at, hth]) hQ n 0 (by omega)
  rw [mpl_0] at h9
  exact h9
set_option maxHeartbeats 4000000 in
set_option maxRecDepth 100000 in
theorem l_ssumOf {c : cx} {d : Nat} {X : nX} {Y : nY} {Q : Option Value → nX → nY → Prop} {n : Nat} (hn : n ≤ 10) (hth : X 101 3 = nI n) {s : Nat} (hs : s < 1024) (hQ : Q (some (.long (lsm (Y 103) s n))) X Y) : ∀ (nn i : Nat), i + nn = n → ss c mX4_sumOf (d + 1) Q 5 [(4, .int (nI i)), (2, .long (lsm (Y 103) s i)), (0, .ref (c_ad c 101)), (1, .int (nI s))] [] (X) (Y) := by
  intro nn
  induction nn with
  | zero =>
      intro i hin
      simp only [Nat.add_zero] at hin
      subst hin
      refine ss_iload dX4_sumOf_5 0 rfl ?_
      refine ss_aload_n dX4_sumOf_7 2 rfl ?_
      refine ss_get (i := 101) dX4_sumOf_8 flX4_26 (by omega) (sh_r101 _ _) rfl ?_
      rw [hth]
      refine sz_icmp_ge 39 dX4_sumOf_11 (by decide) (by omega) (by omega) (fun c11 => ?_) (fun c11 => by omega)
      refine ss_lload_n dX4_sumOf_39 1 rfl ?_
      exact ss_lret dX4_sumOf_40 rfl (hQ)
  | succ nn ih =>
      intro i hin
      refine ss_iload dX4_sumOf_5 0 rfl ?_
      refine ss_aload_n dX4_sumOf_7 2 rfl ?_
      refine ss_get (i := 101) dX4_sumOf_8 flX4_26 (by omega) (sh_r101 _ _) rfl ?_
      rw [hth]
      refine sz_icmp_ge 39 dX4_sumOf_11 (by decide) (by omega) (by omega) (fun c11 => by omega) (fun c11 => ?_)
      refine ss_iload_n dX4_sumOf_14 3 rfl ?_
      refine ss_iload dX4_sumOf_15 0 rfl ?_
      refine ss_callSN (As := [_, _]) dX4_sumOf_17 vlX4_60 clX7_hasThing rfl rfl (Nat.le_of_ble_eq_true rfl) (Nat.le_of_ble_eq_true rfl) (q_hasThing (by omega) (by omega)) ?_
      refine sy_if_eq 33 dX4_sumOf_20 (by decide) (fun c20 => ?_) (fun c20 => ?_)
      · skip
        refine sz_inc (lv' := [(4, _), (2, _), (0, _), (1, _)]) dX4_sumOf_33 0 rfl (by decide) rfl ?_
        refine ss_goto 5 dX4_sumOf_36 (by decide) ?_
        refine ss_eL (lv' := [(4, .int (nI (i + 1))), (2, .long (lsm (Y 103) s (i + 1))), (0, .ref (c_ad c 101)), (1, .int (nI s))]) (by simp [lsm, c20]) ?_
        exact ih (i + 1) (by omega)
      · skip
        refine ss_lload_n dX4_sumOf_23 1 rfl ?_
        refine ss_aload_n dX4_sumOf_24 2 rfl ?_
        refine ss_get (i := 101) dX4_sumOf_25 flX4_15 (by omega) (sh_r101 _ _) rfl ?_
        refine ss_iload dX4_sumOf_28 0 rfl ?_
        refine ss_lald (i := 103) dX4_sumOf_30 (by omega) (sh_r103) (by omega) (by decide) ?_
        refine ss_ladd dX4_sumOf_31 ?_
        refine ss_lstore_n (lv' := [(2, _), (4, _), (0, _), (1, _)]) dX4_sumOf_32 (by decide) rfl ?_
        refine sz_inc (lv' := [(4, _), (2, _), (0, _), (1, _)]) dX4_sumOf_33 1 rfl (by decide) rfl ?_
        refine ss_goto 5 dX4_sumOf_36 (by decide) ?_
        refine ss_eL (lv' := [(4, .int (nI (i + 1))), (2, .long (lsm (Y 103) s (i + 1))), (0, .ref (c_ad c 101)), (1, .int (nI s))]) (by simp [lsm, c20]) ?_
        exact ih (i + 1) (by omega)
set_option maxHeartbeats 4000000 in
set_option maxRecDepth 100000 in
theorem q_ssumOf {c : cx} {d : Nat} {X : nX} {Y : nY} {n : Nat} (hn : n ≤ 10) (hth : X 101 3 = nI n) {s : Nat} (hs : s < 1024) : sc c mX4_sumOf (d + 1) [.ref (c_ad c 101), .int (nI s)] (X) (Y) (some (.long (lsm (Y 103) s n))) (X) (Y) := by
  intro Q hQ
  show ss c mX4_sumOf (d + 1) Q 0 [(0, .ref (c_ad c 101)), (1, .int (nI s))] [] (X) (Y)
  refine ss_lconst (v := 0) dX4_sumOf_0 (by decide) ?_
  refine ss_lstore_n (lv' := [(2, _), (0, _), (1, _)]) dX4_sumOf_1 (by decide) rfl ?_
  refine ss_iconst (v := nI 0) dX4_sumOf_2 (by decide) ?_
  refine ss_istore (lv' := [(4, _), (2, _), (0, _), (1, _)]) dX4_sumOf_3 (by decide) rfl ?_
  exact l_ssumOf hn hth hs hQ n 0 (by omega)
set_option maxHeartbeats 4000000 in
set_option maxRecDepth 100000 in
theorem l_faultIn {c : cx} {d : Nat} {X : nX} {Y : nY} {Q : Option Value → nX → nY → Prop} {w : Nat} (hw : w < 12) {S : Nat} (hS : S ≤ 1024) (hse : X (2 + 7 * w) 7 = nI S) (hS1 : 1 ≤ S) {n : Nat} (hn : n ≤ 10) (hth : X 101 3 = nI n) (hQ : Q (some (.int (fIn (Y (3 + 7 * w)) (Y 103) n S (X 101 4).toInt64))) X Y) : ∀ (nn i : Nat), i + nn = S → (ffind (p_in (Y (3 + 7 * w)) (Y 103) n (X 101 4).toInt64) i = none) → ss c mX4_faultIn (d + 2) Q 2 [(2, .int (nI i)), (0, .ref (c_ad c 101)), (1, .ref (c_ad c (2 + 7 * w)))] [] (X) (Y) := by
  intro nn
  induction nn with
  | zero =>
      intro i hin hinv
      simp only [Nat.add_zero] at hin
      subst hin
      refine ss_iload_n dX4_faultIn_2 0 rfl ?_
      refine ss_aload_n dX4_faultIn_3 2 rfl ?_
      refine ss_get (i := 2 + 7 * w) dX4_faultIn_4 flX4_50 (by omega) (sh_w0 hw _ _) rfl ?_
      rw [hse]
      refine sz_icmp_ge 39 dX4_faultIn_7 (by decide) (by omega) (by omega) (fun c7 => ?_) (fun c7 => by omega)
      refine ss_aload_n dX4_faultIn_39 2 rfl ?_
      refine ss_get (i := 2 + 7 * w) dX4_faultIn_40 flX4_50 (by omega) (sh_w0 hw _ _) rfl ?_
      rw [hse]
      refine ss_iconst (v := nI 1) dX4_faultIn_43 (by decide) ?_
      refine sz_isub dX4_faultIn_44 (by omega) ?_
      refine ss_istore_n (lv' := [(2, _), (0, _), (1, _)]) dX4_faultIn_45 (by decide) rfl ?_
      refine ss_aload_n dX4_faultIn_46 1 rfl ?_
      refine ss_iload_n dX4_faultIn_47 0 rfl ?_
      refine ss_callV (As := [_]) (i := 101) dX4_faultIn_48 vlX4_53 clX4_sumOf rfl rfl (by omega) (sh_r101 _ _) rfl (Nat.le_of_ble_eq_true rfl) (Nat.le_of_ble_eq_true rfl) (q_ssumOf hn hth (by omega)) ?_
      refine ss_aload_n dX4_faultIn_51 2 rfl ?_
      refine ss_get (i := 2 + 7 * w) dX4_faultIn_52 flX4_57 (by omega) (sh_w0 hw _ _) rfl ?_
      refine ss_iload_n dX4_faultIn_55 0 rfl ?_
      refine ss_lald (i := 3 + 7 * w) dX4_faultIn_56 (by omega) (sh_w1 hw) (by omega) (by decide) ?_
      refine ss_aload_n dX4_faultIn_57 1 rfl ?_
      refine ss_get (i := 101) dX4_faultIn_58 flX4_22 (by omega) (sh_r101 _ _) rfl ?_
      refine ss_i2l dX4_faultIn_61 ?_
      refine ss_lmul dX4_faultIn_62 ?_
      refine sv_ge 71 dX4_faultIn_63 dX4_faultIn_64 (by decide) (fun c63 => ?_) (fun c63 => ?_)
      · skip
        refine ss_iconst (v := -1) dX4_faultIn_71 (by decide) ?_
        exact ss_iret dX4_faultIn_72 rfl rfl (cvi (by unfold fIn; rw [hinv]; simp only []; rw [if_neg (by rw [Int64.lt_iff_toInt_lt]; rw [Int64.le_iff_toInt_le] at c63; omega)]) hQ)
      · skip
        refine ss_iload_n dX4_faultIn_67 0 rfl ?_
        refine ss_goto 72 dX4_faultIn_68 (by decide) ?_
        exact ss_iret dX4_faultIn_72 rfl rfl (cvi (by unfold fIn; rw [hinv]; simp only []; rw [if_pos (by rw [Int64.lt_iff_toInt_lt]; rw [Int64.le_iff_toInt_le] at c63; omega)]) hQ)
  | succ nn ih =>
      intro i hin hinv
      refine ss_iload_n dX4_faultIn_2 0 rfl ?_
      refine ss_aload_n dX4_faultIn_3 2 rfl ?_
      refine ss_get (i := 2 + 7 * w) dX4_faultIn_4 flX4_50 (by omega) (sh_w0 hw _ _) rfl ?_
      rw [hse]
      refine sz_icmp_ge 39 dX4_faultIn_7 (by decide) (by omega) (by omega) (fun c7 => by omega) (fun c7 => ?_)
      refine ss_aload_n dX4_faultIn_10 1 rfl ?_
      refine ss_iload_n dX4_faultIn_11 0 rfl ?_
      refine ss_callV (As := [_]) (i := 101) dX4_faultIn_12 vlX4_53 clX4_sumOf rfl rfl (by omega) (sh_r101 _ _) rfl (Nat.le_of_ble_eq_true rfl) (Nat.le_of_ble_eq_true rfl) (q_ssumOf hn hth (by omega)) ?_
      refine ss_aload_n dX4_faultIn_15 2 rfl ?_
      refine ss_get (i := 2 + 7 * w) dX4_faultIn_16 flX4_57 (by omega) (sh_w0 hw _ _) rfl ?_
      refine ss_iload_n dX4_faultIn_19 0 rfl ?_
      refine ss_lald (i := 3 + 7 * w) dX4_faultIn_20 (by omega) (sh_w1 hw) (by omega) (by decide) ?_
      refine ss_aload_n dX4_faultIn_21 1 rfl ?_
      refine ss_get (i := 101) dX4_faultIn_22 flX4_22 (by omega) (sh_r101 _ _) rfl ?_
      refine ss_i2l dX4_faultIn_25 ?_
      refine ss_lmul dX4_faultIn_26 ?_
      refine sv_le 33 dX4_faultIn_27 dX4_faultIn_28 (by decide) (fun c27 => ?_) (fun c27 => ?_)
      · skip
        refine sz_inc (lv' := [(2, _), (0, _), (1, _)]) dX4_faultIn_33 0 rfl (by decide) rfl ?_
        refine ss_goto 2 dX4_faultIn_36 (by decide) ?_
        exact ih (i + 1) (by omega) (ff_step hinv (by simp [p_in, Int64.lt_iff_toInt_lt, Int64.le_iff_toInt_le] at *; omega))
      · skip
        refine ss_iload_n dX4_faultIn_31 0 rfl ?_
        exact ss_iret dX4_faultIn_32 rfl rfl (cvi (by unfold fIn; rw [ff_some hinv (by simp [p_in, Int64.lt_iff_toInt_lt, Int64.le_iff_toInt_le] at *; omega) (by omega)]) hQ)
set_option maxHeartbeats 4000000 in
set_option maxRecDepth 100000 in
theorem q_faultIn {c : cx} {d : Nat} {X : nX} {Y : nY} {w : Nat} (hw : w < 12) {S : Nat} (hS : S ≤ 1024) (hse : X (2 + 7 * w) 7 = nI S) (hS1 : 1 ≤ S) {n : Nat} (hn : n ≤ 10) (hth : X 101 3 = nI n) : sc c mX4_faultIn (d + 2) [.ref (c_ad c 101), .ref (c_ad c (2 + 7 * w))] (X) (Y) (some (.int (fIn (Y (3 + 7 * w)) (Y 103) n S (X 101 4).toInt64))) (X) (Y) := by
  intro Q hQ
  show ss c mX4_faultIn (d + 2) Q 0 [(0, .ref (c_ad c 101)), (1, .ref (c_ad c (2 + 7 * w)))] [] (X) (Y)
  refine ss_iconst (v := nI 0) dX4_faultIn_0 (by decide) ?_
  refine ss_istore_n (lv' := [(2, _), (0, _), (1, _)]) dX4_faultIn_1 (by decide) rfl ?_
  exact l_faultIn hw hS hse hS1 hn hth hQ S 0 (by omega) rfl
set_option maxHeartbeats 4000000 in
set_option maxRecDepth 100000 in
theorem l_isProof {c : cx} {d : Nat} {X : nX} {Y : nY} {Q : Option Value → nX → nY → Prop} {w : Nat} (hw : w < 12) {S : Nat} (hS : S ≤ 1024) (hse : X (2 + 7 * w) 7 = nI S) (hS1 : 1 ≤ S) {n : Nat} (hn : n ≤ 10) (hth : X 101 3 = nI n) (hQ : Q (some (.int (bI (decide (fIn (Y (3 + 7 * w)) (Y 103) n S (X 101 4).toInt64 = -1) && decide (lbl (Y 103) n = lmn (Y (3 + 7 * w)) S * (X 101 4).toInt64))))) X Y) : ∀ (nn i : Nat), i + nn = n → ss c mX4_isProof (d + 3) Q 5 [(4, .int (nI i)), (2, .long (lbl (Y 103) i)), (0, .ref (c_ad c 101)), (1, .ref (c_ad c (2 + 7 * w)))] [] (X) (Y) := by
  intro nn
  induction nn with
  | zero =>
      intro i hin
      simp only [Nat.add_zero] at hin
      subst hin
      refine ss_iload dX4_isProof_5 0 rfl ?_
      refine ss_aload_n dX4_isProof_7 2 rfl ?_
      refine ss_get (i := 101) dX4_isProof_8 flX4_26 (by omega) (sh_r101 _ _) rfl ?_
      rw [hth]
      refine sz_icmp_ge 34 dX4_isProof_11 (by decide) (by omega) (by omega) (fun c11 => ?_) (fun c11 => by omega)
      refine ss_aload_n dX4_isProof_34 2 rfl ?_
      refine ss_aload_n dX4_isProof_35 3 rfl ?_
      refine ss_callV (As := [_]) (i := 101) dX4_isProof_36 vlX4_70 clX4_faultIn rfl rfl (by omega) (sh_r101 _ _) rfl (Nat.le_of_ble_eq_true rfl) (Nat.le_of_ble_eq_true rfl) (q_faultIn hw hS hse hS1 hn hth) ?_
      refine ss_iconst (v := -1) dX4_isProof_39 (by decide) ?_
      refine ss_icmp_ne 62 dX4_isProof_40 (by decide) (fun c40 => ?_) (fun c40 => ?_)
      · skip
        refine ss_iconst (v := nI 0) dX4_isProof_62 (by decide) ?_
        exact ss_iret dX4_isProof_63 rfl rfl (cvi (by simp [bI, *]; rfl) hQ)
      · skip
        refine ss_lload_n dX4_isProof_43 1 rfl ?_
        refine ss_aload_n dX4_isProof_44 3 rfl ?_
        refine ss_callV (As := []) (i := 2 + 7 * w) dX4_isProof_45 vlX4_74 clX6_leastValue rfl rfl (by omega) (sh_w0 hw _ _) rfl (Nat.le_of_ble_eq_true rfl) (Nat.le_of_ble_eq_true rfl) (q_leastValue hw hS hse) ?_
        refine ss_aload_n dX4_isProof_48 2 rfl ?_
        refine ss_get (i := 101) dX4_isProof_49 flX4_22 (by omega) (sh_r101 _ _) rfl ?_
        refine ss_i2l dX4_isProof_52 ?_
        refine ss_lmul dX4_isProof_53 ?_
        refine sv_ne 62 dX4_isProof_54 dX4_isProof_55 (by decide) (fun c54 => ?_) (fun c54 => ?_)
        · skip
          refine ss_iconst (v := nI 0) dX4_isProof_62 (by decide) ?_
          exact ss_iret dX4_isProof_63 rfl rfl (cvi (by simp [bI, *]; rfl) hQ)
        · skip
          refine ss_iconst (v := nI 1) dX4_isProof_58 (by decide) ?_
          refine ss_goto 63 dX4_isProof_59 (by decide) ?_
          exact ss_iret dX4_isProof_63 rfl rfl (cvi (by simp [bI, *]; rfl) hQ)
  | succ nn ih =>
      intro i hin
      refine ss_iload dX4_isProof_5 0 rfl ?_
      refine ss_aload_n dX4_isProof_7 2 rfl ?_
      refine ss_get (i := 101) dX4_isProof_8 flX4_26 (by omega) (sh_r101 _ _) rfl ?_
      rw [hth]
      refine sz_icmp_ge 34 dX4_isProof_11 (by decide) (by omega) (by omega) (fun c11 => by omega) (fun c11 => ?_)
      refine ss_lload_n dX4_isProof_14 1 rfl ?_
      refine ss_aload_n dX4_isProof_15 2 rfl ?_
      refine ss_get (i := 101) dX4_isProof_16 flX4_15 (by omega) (sh_r101 _ _) rfl ?_
      refine ss_iload dX4_isProof_19 0 rfl ?_
      refine ss_lald (i := 103) dX4_isProof_21 (by omega) (sh_r103) (by omega) (by decide) ?_
      refine ss_lconst (v := 0) dX4_isProof_22 (by decide) ?_
      refine ss_min dX4_isProof_23 vlX4_64 mh_smin mh_i mh_cmin (Nat.le_of_ble_eq_true rfl) ?_
      refine ss_ladd dX4_isProof_26 ?_
      refine ss_lstore_n (lv' := [(2, _), (4, _), (0, _), (1, _)]) dX4_isProof_27 (by decide) rfl ?_
      refine sz_inc (lv' := [(4, _), (2, _), (0, _), (1, _)]) dX4_isProof_28 1 rfl (by decide) rfl ?_
      refine ss_goto 5 dX4_isProof_31 (by decide) ?_
      exact ih (i + 1) (by omega)
set_option maxHeartbeats 4000000 in
set_option maxRecDepth 100000 in
theorem q_isProof {c : cx} {d : Nat} {X : nX} {Y : nY} {w : Nat} (hw : w < 12) {S : Nat} (hS : S ≤ 1024) (hse : X (2 + 7 * w) 7 = nI S) (hS1 : 1 ≤ S) {n : Nat} (hn : n ≤ 10) (hth : X 101 3 = nI n) : sc c mX4_isProof (d + 3) [.ref (c_ad c 101), .ref (c_ad c (2 + 7 * w))] (X) (Y) (some (.int (bI (decide (fIn (Y (3 + 7 * w)) (Y 103) n S (X 101 4).toInt64 = -1) && decide (lbl (Y 103) n = lmn (Y (3 + 7 * w)) S * (X 101 4).toInt64))))) (X) (Y) := by
  intro Q hQ
  show ss c mX4_isProof (d + 3) Q 0 [(0, .ref (c_ad c 101)), (1, .ref (c_ad c (2 + 7 * w)))] [] (X) (Y)
  refine ss_lconst (v := 0) dX4_isProof_0 (by decide) ?_
  refine ss_lstore_n (lv' := [(2, _), (0, _), (1, _)]) dX4_isProof_1 (by decide) rfl ?_
  refine ss_iconst (v := nI 0) dX4_isProof_2 (by decide) ?_
  refine ss_istore (lv' := [(4, _), (2, _), (0, _), (1, _)]) dX4_isProof_3 (by decide) rfl ?_
  exact l_isProof hw hS hse hS1 hn hth hQ n 0 (by omega)
