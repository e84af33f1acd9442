set_option maxHeartbeats 4000000 in
set_option maxRecDepth 100000 in
theorem l_lay {c : cx} {d : Nat} {X : nX} {Y : nY} {Q : Option Value → nX → nY → Prop} {s : Nat} (hs : s < 4) {f : Int32} {m : Nat} (hm : m ≤ 1100) (hQ : Q none X (mpl Y (88 + 2 * s) 0 m (fun _ => 0))) : ∀ (nn i : Nat), i + nn = m → ss c mX5_lay d Q 17 [(3, .int (nI i)), (0, .ref (c_ad c (87 + 2 * s))), (1, .int f), (2, .int (nI m))] [] (X) (mpl Y (88 + 2 * s) 0 i (fun _ => 0)) := by
  intro nn
  induction nn with
  | zero =>
      intro i hin
      simp only [Nat.add_zero] at hin
      subst hin
      refine ss_iload_n dX5_lay_17 0 rfl ?_
      refine ss_iload_n dX5_lay_18 3 rfl ?_
      refine sz_icmp_ge 35 dX5_lay_19 (by decide) (by omega) (by omega) (fun c19 => ?_) (fun c19 => by omega)
      exact ss_vret dX5_lay_35 rfl (hQ)
  | succ nn ih =>
      intro i hin
      refine ss_iload_n dX5_lay_17 0 rfl ?_
      refine ss_iload_n dX5_lay_18 3 rfl ?_
      refine sz_icmp_ge 35 dX5_lay_19 (by decide) (by omega) (by omega) (fun c19 => by omega) (fun c19 => ?_)
      refine ss_aload_n dX5_lay_22 1 rfl ?_
      refine ss_get (i := 87 + 2 * s) dX5_lay_23 flX5_9 (by omega) (sh_s0 hs _ _) rfl ?_
      refine ss_iload_n dX5_lay_26 0 rfl ?_
      refine ss_lconst (v := 0) dX5_lay_27 (by decide) ?_
      refine ss_last (i := 88 + 2 * s) dX5_lay_28 (by omega) (sh_s1 hs) (by omega) (by decide) ?_
      refine sz_inc (lv' := [(3, _), (0, _), (1, _), (2, _)]) dX5_lay_29 0 rfl (by decide) rfl ?_
      refine ss_goto 17 dX5_lay_32 (by decide) ?_
      refine ss_eY (mpl_s (Nat.zero_le _) rfl) ?_
      exact ih (i + 1) (by omega)
def x_lay (X : nX) (s : Nat) (f : Int32) (m : Nat) : nX := up2 (up2 (up2 X (87 + 2 * s) 1 (nI 1)) (87 + 2 * s) 2 f) (87 + 2 * s) 3 (nI m)
set_option maxHeartbeats 4000000 in
set_option maxRecDepth 100000 in
theorem q_lay {c : cx} {d : Nat} {X : nX} {Y : nY} {s : Nat} (hs : s < 4) {f : Int32} {m : Nat} (hm : m ≤ 1100) : sc c mX5_lay d [.ref (c_ad c (87 + 2 * s)), .int f, .int (nI m)] (X) (Y) none (x_lay X s f m) (mpl Y (88 + 2 * s) 0 m (fun _ => 0)) := by
  intro Q hQ
  show ss c mX5_lay d Q 0 [(0, .ref (c_ad c (87 + 2 * s))), (1, .int f), (2, .int (nI m))] [] (X) (Y)
  refine ss_aload_n dX5_lay_0 0 rfl ?_
  refine ss_iconst (v := nI 1) dX5_lay_1 (by decide) ?_
  refine ss_put (i := 87 + 2 * s) dX5_lay_2 fwX5_15 (by omega) (sh_s0 hs _ _) rfl rfl (Nat.le_of_ble_eq_true rfl) (sh_s0 hs _ _) ?_
  refine ss_aload_n dX5_lay_5 0 rfl ?_
  refine ss_iload_n dX5_lay_6 1 rfl ?_
  refine ss_put (i := 87 + 2 * s) dX5_lay_7 fwX5_19 (by omega) (sh_s0 hs _ _) rfl rfl (Nat.le_of_ble_eq_true rfl) (sh_s0 hs _ _) ?_
  refine ss_aload_n dX5_lay_10 0 rfl ?_
  refine ss_iload_n dX5_lay_11 2 rfl ?_
  refine ss_put (i := 87 + 2 * s) dX5_lay_12 fwX5_23 (by omega) (sh_s0 hs _ _) rfl rfl (Nat.le_of_ble_eq_true rfl) (sh_s0 hs _ _) ?_
  refine ss_iconst (v := nI 0) dX5_lay_15 (by decide) ?_
  refine ss_istore_n (lv' := [(3, _), (0, _), (1, _), (2, _)]) dX5_lay_16 (by decide) rfl ?_
  have h9 := l_lay (X := x_lay X s f m) (Y := Y) (c := c) (d := d) (f := f) hs hm hQ m 0 (by omega)
  rw [mpl_0] at h9
  exact h9
set_option maxHeartbeats 4000000 in
set_option maxRecDepth 100000 in
theorem q_hasPlace {c : cx} {d : Nat} {X : nX} {Y : nY} {s : Nat} (hs : s < 4) {i : Int32} {m : Nat} (hm : m ≤ 1100) (hpl : X (87 + 2 * s) 3 = nI m) : sc c mX5_hasPlace (d + 1) [.ref (c_ad c (87 + 2 * s)), .int i] (X) (Y) (some (.int (bI (ix i m)))) (X) (Y) := by
  intro Q hQ
  show ss c mX5_hasPlace (d + 1) Q 0 [(0, .ref (c_ad c (87 + 2 * s))), (1, .int i)] [] (X) (Y)
  refine ss_iload_n dX5_hasPlace_0 1 rfl ?_
  refine ss_i2l dX5_hasPlace_1 ?_
  refine ss_lconst (v := 0) dX5_hasPlace_2 (by decide) ?_
  refine ss_aload_n dX5_hasPlace_3 0 rfl ?_
  refine ss_get (i := 87 + 2 * s) dX5_hasPlace_4 flX5_23 (by omega) (sh_s0 hs _ _) rfl ?_
  rw [hpl]
  refine ss_iconst (v := nI 1) dX5_hasPlace_7 (by decide) ?_
  refine ss_isub dX5_hasPlace_8 ?_
  refine ss_i2l dX5_hasPlace_9 ?_
  refine ss_callSN (As := [_, _, _]) dX5_hasPlace_10 vlX5_26 clX7_isWithin rfl rfl (Nat.le_of_ble_eq_true rfl) (Nat.le_of_ble_eq_true rfl) (q_isWithin) ?_
  exact ss_iret dX5_hasPlace_13 rfl (bI_nar _) (cvi (by rw [wi_ix (nI_s1l (by omega))]) hQ)
set_option maxHeartbeats 4000000 in
set_option maxRecDepth 100000 in
theorem l_findSecond {c : cx} {d : Nat} {X : nX} {Y : nY} {Q : Option Value → nX → nY → Prop} {w : Nat} (hw : w < 12) {n : Nat} (hn : n ≤ 10) (hth : X (2 + 7 * w) 6 = nI n) {s a : Nat} (hs : s < 1024) (ha : a < 10) (hQ : Q (some (.int (bI (ffind (p_sec (Y (3 + 7 * w)) s a) n).isSome))) (x_sec X s a (ffind (p_sec (Y (3 + 7 * w)) s a) n)) Y) : ∀ (nn i : Nat), i + nn = n → (a + 1 ≤ i ∧ ffind (p_sec (Y (3 + 7 * w)) s a) i = none) → ss c mX0_findSecond (d + 1) Q 5 [(4, .int (nI i)), (0, .ref (c_ad c 95)), (1, .ref (c_ad c (2 + 7 * w))), (2, .int (nI s)), (3, .int (nI a))] [] (X) (Y) := by
  intro nn
  induction nn with
  | zero =>
      intro i hin hinv
      simp only [Nat.add_zero] at hin
      subst hin
      refine ss_iload dX0_findSecond_5 0 rfl ?_
      refine ss_aload_n dX0_findSecond_7 2 rfl ?_
      refine ss_get (i := 2 + 7 * w) dX0_findSecond_8 flX0_13 (by omega) (sh_w0 hw _ _) rfl ?_
      rw [hth]
      refine sz_icmp_ge 60 dX0_findSecond_11 (by decide) (by omega) (by omega) (fun c11 => ?_) (fun c11 => by omega)
      refine ss_iconst (v := nI 0) dX0_findSecond_60 (by decide) ?_
      exact ss_iret dX0_findSecond_61 rfl rfl (by rw [hinv.2] at hQ; exact hQ)
  | succ nn ih =>
      intro i hin hinv
      refine ss_iload dX0_findSecond_5 0 rfl ?_
      refine ss_aload_n dX0_findSecond_7 2 rfl ?_
      refine ss_get (i := 2 + 7 * w) dX0_findSecond_8 flX0_13 (by omega) (sh_w0 hw _ _) rfl ?_
      rw [hth]
      refine sz_icmp_ge 60 dX0_findSecond_11 (by decide) (by omega) (by omega) (fun c11 => by omega) (fun c11 => ?_)
      refine ss_aload_n dX0_findSecond_14 2 rfl ?_
      refine ss_iload_n dX0_findSecond_15 3 rfl ?_
      refine ss_iconst (v := nI 1) dX0_findSecond_16 (by decide) ?_
      refine ss_iload_n dX0_findSecond_17 4 rfl ?_
      refine sz_shl1 dX0_findSecond_18 (by omega) ?_
      refine sz_ior dX0_findSecond_19 ?_
      refine ss_iload dX0_findSecond_20 0 rfl ?_
      refine ss_callV (As := [_, _]) (i := 2 + 7 * w) dX0_findSecond_22 vlX0_28 clX6_gain rfl rfl (by omega) (sh_w0 hw _ _) rfl (Nat.le_of_ble_eq_true rfl) (Nat.le_of_ble_eq_true rfl) (q_gain hw (xb_or10 hs (xb_p10 ha)) (by omega)) ?_
      refine ss_aload_n dX0_findSecond_25 2 rfl ?_
      refine ss_iload_n dX0_findSecond_26 3 rfl ?_
      refine ss_iload dX0_findSecond_27 0 rfl ?_
      refine ss_callV (As := [_, _]) (i := 2 + 7 * w) dX0_findSecond_29 vlX0_28 clX6_gain rfl rfl (by omega) (sh_w0 hw _ _) rfl (Nat.le_of_ble_eq_true rfl) (Nat.le_of_ble_eq_true rfl) (q_gain hw hs (by omega)) ?_
      refine sv_le 54 dX0_findSecond_32 dX0_findSecond_33 (by decide) (fun c32 => ?_) (fun c32 => ?_)
      · skip
        refine sz_inc (lv' := [(4, _), (0, _), (1, _), (2, _), (3, _)]) dX0_findSecond_54 0 rfl (by decide) rfl ?_
        refine ss_goto 5 dX0_findSecond_57 (by decide) ?_
        exact ih (i + 1) (by omega) ⟨by omega, ff_step hinv.2 (by simp [p_sec, Int64.lt_iff_toInt_lt, Int64.le_iff_toInt_le] at *; omega)⟩
      · skip
        refine ss_aload_n dX0_findSecond_36 1 rfl ?_
        refine ss_iload_n dX0_findSecond_37 3 rfl ?_
        refine ss_put (i := 95) dX0_findSecond_38 fwX0_32 (by omega) (sh_r95 _ _) rfl rfl (Nat.le_of_ble_eq_true rfl) (sh_r95 _ _) ?_
        refine ss_aload_n dX0_findSecond_41 1 rfl ?_
        refine ss_iload_n dX0_findSecond_42 4 rfl ?_
        refine ss_put (i := 95) dX0_findSecond_43 fwX0_35 (by omega) (sh_r95 _ _) rfl rfl (Nat.le_of_ble_eq_true rfl) (sh_r95 _ _) ?_
        refine ss_aload_n dX0_findSecond_46 1 rfl ?_
        refine ss_iload dX0_findSecond_47 0 rfl ?_
        refine ss_put (i := 95) dX0_findSecond_49 fwX0_38 (by omega) (sh_r95 _ _) rfl rfl (Nat.le_of_ble_eq_true rfl) (sh_r95 _ _) ?_
        refine ss_iconst (v := nI 1) dX0_findSecond_52 (by decide) ?_
        exact ss_iret dX0_findSecond_53 rfl rfl (by rw [ff_some hinv.2 (by simp [p_sec, Int64.lt_iff_toInt_lt, Int64.le_iff_toInt_le] at *; omega) (by omega)] at hQ; exact hQ)
set_option maxHeartbeats 4000000 in
set_option maxRecDepth 100000 in
theorem q_findSecond {c : cx} {d : Nat} {X : nX} {Y : nY} {w : Nat} (hw : w < 12) {n : Nat} (hn : n ≤ 10) (hth : X (2 + 7 * w) 6 = nI n) {s a : Nat} (hs : s < 1024) (ha : a < 10) (han : a < n) : sc c mX0_findSecond (d + 1) [.ref (c_ad c 95), .ref (c_ad c (2 + 7 * w)), .int (nI s), .int (nI a)] (X) (Y) (some (.int (bI (ffind (p_sec (Y (3 + 7 * w)) s a) n).isSome))) (x_sec X s a (ffind (p_sec (Y (3 + 7 * w)) s a) n)) (Y) := by
  intro Q hQ
  show ss c mX0_findSecond (d + 1) Q 0 [(0, .ref (c_ad c 95)), (1, .ref (c_ad c (2 + 7 * w))), (2, .int (nI s)), (3, .int (nI a))] [] (X) (Y)
  refine ss_iload_n dX0_findSecond_0 3 rfl ?_
  refine ss_iconst (v := nI 1) dX0_findSecond_1 (by decide) ?_
  refine sz_iadd dX0_findSecond_2 ?_
  refine ss_istore (lv' := [(4, _), (0, _), (1, _), (2, _), (3, _)]) dX0_findSecond_3 (by decide) rfl ?_
  exact l_findSecond hw hn hth hs ha hQ (n - (a + 1)) (a + 1) (by omega) ⟨Nat.le_refl _, ff_none.mpr (fun k hk => by simp [p_sec]; omega)⟩
set_option maxHeartbeats 4000000 in
set_option maxRecDepth 100000 in
theorem l_findBreak2 {c : cx} {d : Nat} {X : nX} {Y : nY} {Q : Option Value → nX → nY → Prop} {w : Nat} (hw : w < 12) {S : Nat} (hS : S ≤ 1024) (hse : X (2 + 7 * w) 7 = nI S) {n : Nat} (hn : n ≤ 10) (hth : X (2 + 7 * w) 6 = nI n) {s : Nat} (hs : s < S) (hbs : ffind (p_brk (Y (3 + 7 * w)) n) s = none) (hX : Q (some (.int (bI (ffind (p_brk (Y (3 + 7 * w)) n) S).isSome))) (x_brk X (Y (3 + 7 * w)) n S) Y) (hQ : ffind (p_fst (Y (3 + 7 * w)) n s) n = none → ss c mX0_findBreak (d + 2) Q 46 [(3, .int (nI n)), (2, .int (nI s)), (0, .ref (c_ad c 95)), (1, .ref (c_ad c (2 + 7 * w)))] [] X Y) : ∀ (nn i : Nat), i + nn = n → ffind (p_fst (Y (3 + 7 * w)) n s) i = none → ss c mX0_findBreak (d + 2) Q 12 [(3, .int (nI i)), (2, .int (nI s)), (0, .ref (c_ad c 95)), (1, .ref (c_ad c (2 + 7 * w)))] [] (X) (Y) := by
  intro nn
  induction nn with
  | zero =>
      intro i hin hinv
      simp only [Nat.add_zero] at hin
      subst hin
      refine ss_iload_n dX0_findBreak_12 0 rfl ?_
      refine ss_aload_n dX0_findBreak_13 3 rfl ?_
      refine ss_get (i := 2 + 7 * w) dX0_findBreak_14 flX0_13 (by omega) (sh_w0 hw _ _) rfl ?_
      rw [hth]
      refine sz_icmp_ge 46 dX0_findBreak_17 (by decide) (by omega) (by omega) (fun c17 => ?_) (fun c17 => by omega)
      exact hQ hinv
  | succ nn ih =>
      intro i hin hinv
      refine ss_iload_n dX0_findBreak_12 0 rfl ?_
      refine ss_aload_n dX0_findBreak_13 3 rfl ?_
      refine ss_get (i := 2 + 7 * w) dX0_findBreak_14 flX0_13 (by omega) (sh_w0 hw _ _) rfl ?_
      rw [hth]
      refine sz_icmp_ge 46 dX0_findBreak_17 (by decide) (by omega) (by omega) (fun c17 => by omega) (fun c17 => ?_)
      refine ss_iload_n dX0_findBreak_20 1 rfl ?_
      refine ss_iload_n dX0_findBreak_21 0 rfl ?_
      refine ss_callSN (As := [_, _]) dX0_findBreak_22 vlX0_16 clX7_hasThing rfl rfl (Nat.le_of_ble_eq_true rfl) (Nat.le_of_ble_eq_true rfl) (q_hasThing (by omega) (by omega)) ?_
      refine sy_if_ne 40 dX0_findBreak_25 (by decide) (fun c25 => ?_) (fun c25 => ?_)
      · skip
        refine sz_inc (lv' := [(3, _), (2, _), (0, _), (1, _)]) dX0_findBreak_40 0 rfl (by decide) rfl ?_
        refine ss_goto 12 dX0_findBreak_43 (by decide) ?_
        exact ih (i + 1) (by omega) (ff_step hinv (by simp [p_fst, *]))
      · skip
        refine ss_aload_n dX0_findBreak_28 2 rfl ?_
        refine ss_aload_n dX0_findBreak_29 3 rfl ?_
        refine ss_iload_n dX0_findBreak_30 1 rfl ?_
        refine ss_iload_n dX0_findBreak_31 0 rfl ?_
        refine ss_callV (As := [_, _, _]) (i := 95) dX0_findBreak_32 vlX0_22 clX0_findSecond rfl rfl (by omega) (sh_r95 _ _) rfl (Nat.le_of_ble_eq_true rfl) (Nat.le_of_ble_eq_true rfl) (q_findSecond hw hn hth (by omega) (by omega) (by omega)) ?_
        refine sy_if_eq 40 dX0_findBreak_35 (by decide) (fun c35 => ?_) (fun c35 => ?_)
        · skip
          refine sz_inc (lv' := [(3, _), (2, _), (0, _), (1, _)]) dX0_findBreak_40 0 rfl (by decide) rfl ?_
          refine ss_goto 12 dX0_findBreak_43 (by decide) ?_
          refine ss_eX (x_sec_none c35) ?_
          exact ih (i + 1) (by omega) (ff_step hinv (by simp [p_fst, *]))
        · skip
          refine ss_iconst (v := nI 1) dX0_findBreak_38 (by decide) ?_
          exact ss_iret dX0_findBreak_39 rfl rfl (by
            have e1 := ff_some hinv (show p_fst (Y (3 + 7 * w)) n s i = true by simp [p_fst, *]) (show i < n by omega)
            have e2 := ff_some hbs (show p_brk (Y (3 + 7 * w)) n s = true by simp [p_brk, e1]) hs
            rw [e2] at hX
            simp only [x_brk, e2, e1] at hX
            exact hX)
set_option maxHeartbeats 4000000 in
set_option maxRecDepth 100000 in
theorem l_findBreak1 {c : cx} {d : Nat} {X : nX} {Y : nY} {Q : Option Value → nX → nY → Prop} {w : Nat} (hw : w < 12) {S : Nat} (hS : S ≤ 1024) (hse : X (2 + 7 * w) 7 = nI S) {n : Nat} (hn : n ≤ 10) (hth : X (2 + 7 * w) 6 = nI n) (hQ : Q (some (.int (bI (ffind (p_brk (Y (3 + 7 * w)) n) S).isSome))) (x_brk X (Y (3 + 7 * w)) n S) Y) : ∀ (nn i : Nat), i + nn = S → ffind (p_brk (Y (3 + 7 * w)) n) i = none → ss c mX0_findBreak (d + 2) Q 2 [(2, .int (nI i)), (0, .ref (c_ad c 95)), (1, .ref (c_ad c (2 + 7 * w)))] [] (X) (Y) := by
  intro nn
  induction nn with
  | zero =>
      intro i hin hinv
      simp only [Nat.add_zero] at hin
      subst hin
      refine ss_iload_n dX0_findBreak_2 0 rfl ?_
      refine ss_aload_n dX0_findBreak_3 2 rfl ?_
      refine ss_get (i := 2 + 7 * w) dX0_findBreak_4 flX0_7 (by omega) (sh_w0 hw _ _) rfl ?_
      rw [hse]
      refine sz_icmp_ge 52 dX0_findBreak_7 (by decide) (by omega) (by omega) (fun c7 => ?_) (fun c7 => by omega)
      refine ss_iconst (v := nI 0) dX0_findBreak_52 (by decide) ?_
      exact ss_iret dX0_findBreak_53 rfl rfl (by simp only [x_brk, hinv] at hQ; exact hQ)
  | succ nn ih =>
      intro i hin hinv
      refine ss_iload_n dX0_findBreak_2 0 rfl ?_
      refine ss_aload_n dX0_findBreak_3 2 rfl ?_
      refine ss_get (i := 2 + 7 * w) dX0_findBreak_4 flX0_7 (by omega) (sh_w0 hw _ _) rfl ?_
      rw [hse]
      refine sz_icmp_ge 52 dX0_findBreak_7 (by decide) (by omega) (by omega) (fun c7 => by omega) (fun c7 => ?_)
      refine ss_iconst (v := nI 0) dX0_findBreak_10 (by decide) ?_
      refine ss_istore_n (lv' := [(3, _), (2, _), (0, _), (1, _)]) dX0_findBreak_11 (by decide) rfl ?_
      refine l_findBreak2 hw hS hse hn hth (by omega) hinv hQ (fun h9 => ?_) n 0 (by omega) rfl
      refine ss_sub [1, 2, 3] rfl ?_
      refine sz_inc (lv' := [(2, _), (0, _), (1, _)]) dX0_findBreak_46 0 rfl (by decide) rfl ?_
      refine ss_goto 2 dX0_findBreak_49 (by decide) ?_
      exact ih (i + 1) (by omega) (ff_step hinv (by simp [p_brk, h9]))
set_option maxHeartbeats 4000000 in
set_option maxRecDepth 100000 in
theorem q_findBreak {c : cx} {d : Nat} {X : nX} {Y : nY} {w : Nat} (hw : w < 12) {S : Nat} (hS : S ≤ 1024) (hse : X (2 + 7 * w) 7 = nI S) {n : Nat} (hn : n ≤ 10) (hth : X (2 + 7 * w) 6 = nI n) : sc c mX0_findBreak (d + 2) [.ref (c_ad c 95), .ref (c_ad c (2 + 7 * w))] (X) (Y) (some (.int (bI (ffind (p_brk (Y (3 + 7 * w)) n) S).isSome))) (x_brk X (Y (3 + 7 * w)) n S) (Y) := by
  intro Q hQ
  show ss c mX0_findBreak (d + 2) Q 0 [(0, .ref (c_ad c 95)), (1, .ref (c_ad c (2 + 7 * w)))] [] (X) (Y)
  refine ss_iconst (v := nI 0) dX0_findBreak_0 (by decide) ?_
  refine ss_istore_n (lv' := [(2, _), (0, _), (1, _)]) dX0_findBreak_1 (by decide) rfl ?_
  exact l_findBreak1 hw hS hse hn hth hQ S 0 (by omega) rfl
