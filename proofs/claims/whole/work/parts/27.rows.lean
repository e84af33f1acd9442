/-! rows of numbers made small: the work row as a function -/
def cp4 (R : Nat → Int64) (h : Nat) (N : Nat → Int32) (t : Nat) : Nat → (Nat → Int64)
  | 0 => R
  | j + 1 => vp_updL (cp4 R h N t j) (h * 4 + j) (N (t * 4 + j)).toInt64
def cpr (N : Nat → Int32) (s : Nat) (R : Nat → Int64) : Nat → Nat × (Nat → Int64)
  | 0 => (0, R)
  | i + 1 => if (cpr N s R i).1 < 4 ∧ hb s i = true then ((cpr N s R i).1 + 1, cp4 (cpr N s R i).2 (cpr N s R i).1 N i 4) else cpr N s R i
theorem cpr_s (N : Nat → Int32) (s : Nat) (R : Nat → Int64) (i : Nat) : cpr N s R (i + 1) = if (cpr N s R i).1 < 4 ∧ hb s i = true then ((cpr N s R i).1 + 1, cp4 (cpr N s R i).2 (cpr N s R i).1 N i 4) else cpr N s R i := rfl
theorem cpr_le (N : Nat → Int32) (s : Nat) (R : Nat → Int64) (i : Nat) : (cpr N s R i).1 ≤ 4 := by
  induction i with
  | zero => exact Nat.zero_le _
  | succ i ih =>
    unfold cpr
    split
    · rename_i h; exact h.1
    · exact ih
theorem cpr_stop {N : Nat → Int32} {s : Nat} {R : Nat → Int64} {i : Nat} (h : 4 ≤ (cpr N s R i).1) : ∀ j, cpr N s R (i + j) = cpr N s R i := by
  intro j
  induction j with
  | zero => rfl
  | succ j ih =>
    have e : cpr N s R (i + j + 1) = if (cpr N s R (i + j)).1 < 4 ∧ hb s (i + j) = true then ((cpr N s R (i + j)).1 + 1, cp4 (cpr N s R (i + j)).2 (cpr N s R (i + j)).1 N (i + j) 4) else cpr N s R (i + j) := rfl
    rw [show i + (j + 1) = i + j + 1 from rfl, e, ih, if_neg (by omega)]
def p_piv (R : Nat → Int64) (k col : Nat) : Nat → Bool := fun r => decide (k ≤ r) && !(decide (R (r * 4 + col) = 0))
def swr (R : Nat → Int64) (u l : Nat) : Nat → (Nat → Int64)
  | 0 => R
  | j + 1 => vp_updL (vp_updL (swr R u l j) (u * 4 + j) (swr R u l j (l * 4 + j))) (l * 4 + j) (swr R u l j (u * 4 + j))
def clc (R : Nat → Int64) (pv r col : Nat) (hd fc : Int64) : Nat → (Nat → Int64)
  | 0 => R
  | k + 1 => vp_updL (clc R pv r col hd fc k) (r * 4 + (col + k)) (clc R pv r col hd fc k (r * 4 + (col + k)) * hd - clc R pv r col hd fc k (pv * 4 + (col + k)) * fc)
theorem clc_s (R : Nat → Int64) (pv r col : Nat) (hd fc : Int64) (k : Nat) : clc R pv r col hd fc (k + 1) = vp_updL (clc R pv r col hd fc k) (r * 4 + (col + k)) (clc R pv r col hd fc k (r * 4 + (col + k)) * hd - clc R pv r col hd fc k (pv * 4 + (col + k)) * fc) := rfl
def clr (R : Nat → Int64) (pv col : Nat) (hd : Int64) : Nat → (Nat → Int64)
  | 0 => R
  | k + 1 => clc (clr R pv col hd k) pv (pv + 1 + k) col hd (clr R pv col hd k ((pv + 1 + k) * 4 + col)) (4 - col)
theorem clr_s (R : Nat → Int64) (pv col : Nat) (hd : Int64) (k : Nat) : clr R pv col hd (k + 1) = clc (clr R pv col hd k) pv (pv + 1 + k) col hd (clr R pv col hd k ((pv + 1 + k) * 4 + col)) (4 - col) := rfl
def gel (H : Nat) (R : Nat → Int64) : Nat → Nat × (Nat → Int64)
  | 0 => (0, R)
  | i + 1 => match ffind (p_piv (gel H R i).2 (gel H R i).1 i) H with
    | none => gel H R i
    | some r => ((gel H R i).1 + 1, clr (swr (gel H R i).2 (gel H R i).1 r 4) (gel H R i).1 i (swr (gel H R i).2 (gel H R i).1 r 4 ((gel H R i).1 * 4 + i)) (H - ((gel H R i).1 + 1)))
theorem gel_s (H : Nat) (R : Nat → Int64) (i : Nat) : gel H R (i + 1) = match ffind (p_piv (gel H R i).2 (gel H R i).1 i) H with
    | none => gel H R i
    | some r => ((gel H R i).1 + 1, clr (swr (gel H R i).2 (gel H R i).1 r 4) (gel H R i).1 i (swr (gel H R i).2 (gel H R i).1 r 4 ((gel H R i).1 * 4 + i)) (H - ((gel H R i).1 + 1))) := rfl
theorem gel_le (H : Nat) (R : Nat → Int64) (i : Nat) : (gel H R i).1 ≤ H ∧ (gel H R i).1 ≤ i := by
  induction i with
  | zero => exact ⟨Nat.zero_le _, Nat.le_refl _⟩
  | succ i ih =>
    unfold gel
    split
    · exact ⟨ih.1, by omega⟩
    · rename_i r h
      have h1 := ff_spec h
      have h2 := h1.2.1
      simp [p_piv] at h2
      show _ + 1 ≤ H ∧ _ + 1 ≤ i + 1
      omega
def rkf (N : Nat → Int32) (s : Nat) (R : Nat → Int64) : Nat × (Nat → Int64) := gel (cpr N s R 10).1 (cpr N s R 10).2 4
set_option maxHeartbeats 4000000 in
set_option maxRecDepth 100000 in
theorem q_write {c : cx} {d : Nat} {X : nX} {Y : nY} {w : Nat} (hw : w < 12) {t : Nat} (ht : t < 10) {a b e f : Int32} : sc c mX3_write d [.ref (c_ad c (4 + 7 * w)), .int (nI t), .int a, .int b, .int e, .int f] (X) (Y) none (up2 (up2 (up2 (up2 X (5 + 7 * w) (t * 4) a) (5 + 7 * w) (t * 4 + 1) b) (5 + 7 * w) (t * 4 + 2) e) (5 + 7 * w) (t * 4 + 3) f) (Y) := by
  intro Q hQ
  show ss c mX3_write d Q 0 [(0, .ref (c_ad c (4 + 7 * w))), (1, .int (nI t)), (2, .int a), (3, .int b), (4, .int e), (5, .int f)] [] (X) (Y)
  refine ss_iload_n dX3_write_0 1 rfl ?_
  refine ss_iconst (v := nI 4) dX3_write_1 (by decide) ?_
  refine sz_imul dX3_write_2 ?_
  refine ss_istore (lv' := [(6, _), (0, _), (1, _), (2, _), (3, _), (4, _), (5, _)]) dX3_write_3 (by decide) rfl ?_
  refine ss_aload_n dX3_write_5 1 rfl ?_
  refine ss_get (i := 4 + 7 * w) dX3_write_6 flX3_9 (by omega) (sh_w2 hw _ _) rfl ?_
  refine ss_iload dX3_write_9 0 rfl ?_
  refine ss_iload_n dX3_write_11 3 rfl ?_
  refine ss_iast (i := 5 + 7 * w) dX3_write_12 (by omega) (sh_w3 hw) (by omega) (by decide) ?_
  refine ss_aload_n dX3_write_13 1 rfl ?_
  refine ss_get (i := 4 + 7 * w) dX3_write_14 flX3_9 (by omega) (sh_w2 hw _ _) rfl ?_
  refine ss_iload dX3_write_17 0 rfl ?_
  refine ss_iconst (v := nI 1) dX3_write_19 (by decide) ?_
  refine sz_iadd dX3_write_20 ?_
  refine ss_iload_n dX3_write_21 4 rfl ?_
  refine ss_iast (i := 5 + 7 * w) dX3_write_22 (by omega) (sh_w3 hw) (by omega) (by decide) ?_
  refine ss_aload_n dX3_write_23 1 rfl ?_
  refine ss_get (i := 4 + 7 * w) dX3_write_24 flX3_9 (by omega) (sh_w2 hw _ _) rfl ?_
  refine ss_iload dX3_write_27 0 rfl ?_
  refine ss_iconst (v := nI 2) dX3_write_29 (by decide) ?_
  refine sz_iadd dX3_write_30 ?_
  refine ss_iload dX3_write_31 5 rfl ?_
  refine ss_iast (i := 5 + 7 * w) dX3_write_33 (by omega) (sh_w3 hw) (by omega) (by decide) ?_
  refine ss_aload_n dX3_write_34 1 rfl ?_
  refine ss_get (i := 4 + 7 * w) dX3_write_35 flX3_9 (by omega) (sh_w2 hw _ _) rfl ?_
  refine ss_iload dX3_write_38 0 rfl ?_
  refine ss_iconst (v := nI 3) dX3_write_40 (by decide) ?_
  refine sz_iadd dX3_write_41 ?_
  refine ss_iload dX3_write_42 6 rfl ?_
  refine ss_iast (i := 5 + 7 * w) dX3_write_44 (by omega) (sh_w3 hw) (by omega) (by decide) ?_
  exact ss_vret dX3_write_45 rfl (hQ)
set_option maxHeartbeats 4000000 in
set_option maxRecDepth 100000 in
theorem l_copyRows2 {c : cx} {d : Nat} {X : nX} {Y : nY} {Q : Option Value → nX → nY → Prop} {w : Nat} (hw : w < 12) {t h s : Nat} (ht : t < 10) (hh : h < 4) {R : Nat → Int64} (hQ : ss c mX3_copyRows (d + 1) Q 61 [(4, .int (nI 4)), (3, .int (nI t)), (2, .int (nI h)), (0, .ref (c_ad c (4 + 7 * w))), (1, .int (nI s))] [] X (srw Y (6 + 7 * w) (cp4 R h (X (5 + 7 * w)) t 4))) : ∀ (nn i : Nat), i + nn = 4 → ss c mX3_copyRows (d + 1) Q 26 [(4, .int (nI i)), (3, .int (nI t)), (2, .int (nI h)), (0, .ref (c_ad c (4 + 7 * w))), (1, .int (nI s))] [] (X) (srw Y (6 + 7 * w) (cp4 R h (X (5 + 7 * w)) t i)) := by
  intro nn
  induction nn with
  | zero =>
      intro i hin
      simp only [Nat.add_zero] at hin
      subst hin
      refine ss_iload dX3_copyRows_26 0 rfl ?_
      refine ss_iconst (v := nI 4) dX3_copyRows_28 (by decide) ?_
      refine sz_icmp_ge 61 dX3_copyRows_29 (by decide) (by omega) (by omega) (fun c29 => ?_) (fun c29 => by omega)
      exact hQ
  | succ nn ih =>
      intro i hin
      refine ss_iload dX3_copyRows_26 0 rfl ?_
      refine ss_iconst (v := nI 4) dX3_copyRows_28 (by decide) ?_
      refine sz_icmp_ge 61 dX3_copyRows_29 (by decide) (by omega) (by omega) (fun c29 => by omega) (fun c29 => ?_)
      refine ss_aload_n dX3_copyRows_32 3 rfl ?_
      refine ss_get (i := 4 + 7 * w) dX3_copyRows_33 flX3_15 (by omega) (sh_w2 hw _ _) rfl ?_
      refine ss_iload_n dX3_copyRows_36 2 rfl ?_
      refine ss_iconst (v := nI 4) dX3_copyRows_37 (by decide) ?_
      refine sz_imul dX3_copyRows_38 ?_
      refine ss_iload dX3_copyRows_39 0 rfl ?_
      refine sz_iadd dX3_copyRows_41 ?_
      refine ss_aload_n dX3_copyRows_42 3 rfl ?_
      refine ss_get (i := 4 + 7 * w) dX3_copyRows_43 flX3_9 (by omega) (sh_w2 hw _ _) rfl ?_
      refine ss_iload_n dX3_copyRows_46 1 rfl ?_
      refine ss_iconst (v := nI 4) dX3_copyRows_47 (by decide) ?_
      refine sz_imul dX3_copyRows_48 ?_
      refine ss_iload dX3_copyRows_49 0 rfl ?_
      refine sz_iadd dX3_copyRows_51 ?_
      refine ss_iald (i := 5 + 7 * w) dX3_copyRows_52 (by omega) (sh_w3 hw) (by omega) (by decide) ?_
      refine ss_i2l dX3_copyRows_53 ?_
      refine ss_last (i := 6 + 7 * w) dX3_copyRows_54 (by omega) (sh_w4 hw) (by omega) (by decide) ?_
      refine sz_inc (lv' := [(4, _), (3, _), (2, _), (0, _), (1, _)]) dX3_copyRows_55 0 rfl (by decide) rfl ?_
      refine ss_goto 26 dX3_copyRows_58 (by decide) ?_
      refine ss_eY srw_up ?_
      exact ih (i + 1) (by omega)
set_option maxHeartbeats 4000000 in
set_option maxRecDepth 100000 in
theorem l_copyRows1 {c : cx} {d : Nat} {X : nX} {Y : nY} {Q : Option Value → nX → nY → Prop} {w : Nat} (hw : w < 12) {s : Nat} (hs : s < 1024) {R : Nat → Int64} (hQ : Q (some (.int (nI (cpr (X (5 + 7 * w)) s R 10).1))) X (srw Y (6 + 7 * w) ((cpr (X (5 + 7 * w)) s R 10).2))) : ∀ (nn i : Nat), i + nn = 10 → ss c mX3_copyRows (d + 1) Q 4 [(3, .int (nI i)), (2, .int (nI (cpr (X (5 + 7 * w)) s R i).1)), (0, .ref (c_ad c (4 + 7 * w))), (1, .int (nI s))] [] (X) (srw Y (6 + 7 * w) ((cpr (X (5 + 7 * w)) s R i).2)) := by
  intro nn
  induction nn with
  | zero =>
      intro i hin
      simp only [Nat.add_zero] at hin
      subst hin
      refine ss_iload_n dX3_copyRows_4 0 rfl ?_
      refine ss_bipush (v := nI 10) dX3_copyRows_5 (by decide) ?_
      refine sz_icmp_ge 70 dX3_copyRows_7 (by decide) (by omega) (by omega) (fun c7 => ?_) (fun c7 => by omega)
      refine ss_iload_n dX3_copyRows_70 1 rfl ?_
      exact ss_iret dX3_copyRows_71 rfl rfl (hQ)
  | succ nn ih =>
      intro i hin
      refine ss_iload_n dX3_copyRows_4 0 rfl ?_
      refine ss_bipush (v := nI 10) dX3_copyRows_5 (by decide) ?_
      refine sz_icmp_ge 70 dX3_copyRows_7 (by decide) (by omega) (by omega) (fun c7 => by omega) (fun c7 => ?_)
      refine ss_iload_n dX3_copyRows_10 1 rfl ?_
      refine ss_iconst (v := nI 4) dX3_copyRows_11 (by decide) ?_
      refine sz_icmp_ge 70 dX3_copyRows_12 (by decide) (by have := cpr_le (X (5 + 7 * w)) s R i; omega) (by decide) (fun c12 => ?_) (fun c12 => ?_)
      · skip
        refine ss_iload_n dX3_copyRows_70 1 rfl ?_
        exact ss_iret dX3_copyRows_71 rfl rfl (by
            have e9 := cpr_stop (N := (X (5 + 7 * w))) (s := s) (R := R) (i := i) (by omega) (10 - i)
            rw [show i + (10 - i) = 10 by omega] at e9
            rw [e9] at hQ
            exact hQ)
      · skip
        refine ss_iload_n dX3_copyRows_15 3 rfl ?_
        refine ss_iload_n dX3_copyRows_16 0 rfl ?_
        refine ss_callSN (As := [_, _]) dX3_copyRows_17 vlX3_35 clX7_hasThing rfl rfl (Nat.le_of_ble_eq_true rfl) (Nat.le_of_ble_eq_true rfl) (q_hasThing (by omega) (by omega)) ?_
        refine sy_if_eq 64 dX3_copyRows_20 (by decide) (fun c20 => ?_) (fun c20 => ?_)
        · skip
          refine sz_inc (lv' := [(3, _), (2, _), (0, _), (1, _)]) dX3_copyRows_64 0 rfl (by decide) rfl ?_
          refine ss_goto 4 dX3_copyRows_67 (by decide) ?_
          have e9 : cpr (X (5 + 7 * w)) s R (i + 1) = cpr (X (5 + 7 * w)) s R i := by
            rw [cpr_s, if_neg (by rw [c20]; simp)]
          rw [← e9]
          exact ih (i + 1) (by omega)
        · skip
          refine ss_iconst (v := nI 0) dX3_copyRows_23 (by decide) ?_
          refine ss_istore (lv' := [(4, _), (3, _), (2, _), (0, _), (1, _)]) dX3_copyRows_24 (by decide) rfl ?_
          have h8 := l_copyRows2 (X := X) (Y := Y) (c := c) (d := d) (Q := Q) (s := s) (t := i) (h := (cpr (X (5 + 7 * w)) s R i).1) (R := (cpr (X (5 + 7 * w)) s R i).2) hw (by omega) (by omega) ?k8 4 0 (by omega)
          case k8 =>
            refine ss_sub [1, 2, 3, 4] rfl ?_
            refine sz_inc (lv' := [(2, _), (3, _), (0, _), (1, _)]) dX3_copyRows_61 1 rfl (by decide) rfl ?_
            refine sz_inc (lv' := [(3, _), (2, _), (0, _), (1, _)]) dX3_copyRows_64 1 rfl (by decide) rfl ?_
            refine ss_goto 4 dX3_copyRows_67 (by decide) ?_
            have e9 : cpr (X (5 + 7 * w)) s R (i + 1) = ((cpr (X (5 + 7 * w)) s R i).1 + 1, cp4 (cpr (X (5 + 7 * w)) s R i).2 (cpr (X (5 + 7 * w)) s R i).1 (X (5 + 7 * w)) i 4) := by
              rw [cpr_s, if_pos ⟨by omega, c20⟩]
            have h7 := ih (i + 1) (by omega)
            rw [e9] at h7
            exact h7
          exact h8
set_option maxHeartbeats 4000000 in
set_option maxRecDepth 100000 in
theorem q_copyRows {c : cx} {d : Nat} {X : nX} {Y : nY} {w : Nat} (hw : w < 12) {s : Nat} (hs : s < 1024) : sc c mX3_copyRows (d + 1) [.ref (c_ad c (4 + 7 * w)), .int (nI s)] (X) (Y) (some (.int (nI (cpr (X (5 + 7 * w)) s (Y (6 + 7 * w)) 10).1))) (X) (srw Y (6 + 7 * w) ((cpr (X (5 + 7 * w)) s (Y (6 + 7 * w)) 10).2)) := by
  intro Q hQ
  show ss c mX3_copyRows (d + 1) Q 0 [(0, .ref (c_ad c (4 + 7 * w))), (1, .int (nI s))] [] (X) (Y)
  refine ss_iconst (v := nI 0) dX3_copyRows_0 (by decide) ?_
  refine ss_istore_n (lv' := [(2, _), (0, _), (1, _)]) dX3_copyRows_1 (by decide) rfl ?_
  refine ss_iconst (v := nI 0) dX3_copyRows_2 (by decide) ?_
  refine ss_istore_n (lv' := [(3, _), (2, _), (0, _), (1, _)]) dX3_copyRows_3 (by decide) rfl ?_
  have h9 := l_copyRows1 (X := X) (Y := Y) (c := c) (d := d) (R := Y (6 + 7 * w)) hw hs hQ 10 0 (by omega)
  rw [show (cpr (X (5 + 7 * w)) s (Y (6 + 7 * w)) 0).2 = Y (6 + 7 * w) from rfl, srw_self] at h9
  exact h9
set_option maxHeartbeats 4000000 in
set_option maxRecDepth 100000 in
theorem l_findPivot {c : cx} {d : Nat} {X : nX} {Y : nY} {Q : Option Value → nX → nY → Prop} {w : Nat} (hw : w < 12) {k col H : Nat} (hH : H ≤ 4) (hcol : col < 4) (hQ : Q (some (.int (fI (ffind (p_piv (Y (6 + 7 * w)) k col) H)))) X Y) : ∀ (nn i : Nat), i + nn = H → ((k ≤ i ∧ ffind (p_piv (Y (6 + 7 * w)) k col) i = none)) → ss c mX3_findPivot d Q 3 [(4, .int (nI i)), (0, .ref (c_ad c (4 + 7 * w))), (1, .int (nI col)), (2, .int (nI k)), (3, .int (nI H))] [] (X) (Y) := by
  intro nn
  induction nn with
  | zero =>
      intro i hin hinv
      simp only [Nat.add_zero] at hin
      subst hin
      refine ss_iload dX3_findPivot_3 0 rfl ?_
      refine ss_iload_n dX3_findPivot_5 4 rfl ?_
      refine sz_icmp_ge 34 dX3_findPivot_6 (by decide) (by omega) (by omega) (fun c6 => ?_) (fun c6 => by omega)
      refine ss_iconst (v := -1) dX3_findPivot_34 (by decide) ?_
      exact ss_iret dX3_findPivot_35 rfl rfl (cvi (by rw [hinv.2]; rfl) hQ)
  | succ nn ih =>
      intro i hin hinv
      refine ss_iload dX3_findPivot_3 0 rfl ?_
      refine ss_iload_n dX3_findPivot_5 4 rfl ?_
      refine sz_icmp_ge 34 dX3_findPivot_6 (by decide) (by omega) (by omega) (fun c6 => by omega) (fun c6 => ?_)
      refine ss_aload_n dX3_findPivot_9 1 rfl ?_
      refine ss_get (i := 4 + 7 * w) dX3_findPivot_10 flX3_15 (by omega) (sh_w2 hw _ _) rfl ?_
      refine ss_iload dX3_findPivot_13 0 rfl ?_
      refine ss_iconst (v := nI 4) dX3_findPivot_15 (by decide) ?_
      refine sz_imul dX3_findPivot_16 ?_
      refine ss_iload_n dX3_findPivot_17 2 rfl ?_
      refine sz_iadd dX3_findPivot_18 ?_
      refine ss_lald (i := 6 + 7 * w) dX3_findPivot_19 (by omega) (sh_w4 hw) (by omega) (by decide) ?_
      refine ss_lconst (v := 0) dX3_findPivot_20 (by decide) ?_
      refine sv_eq 28 dX3_findPivot_21 dX3_findPivot_22 (by decide) (fun c21 => ?_) (fun c21 => ?_)
      · skip
        refine sz_inc (lv' := [(4, _), (0, _), (1, _), (2, _), (3, _)]) dX3_findPivot_28 0 rfl (by decide) rfl ?_
        refine ss_goto 3 dX3_findPivot_31 (by decide) ?_
        exact ih (i + 1) (by omega) ⟨by omega, ff_step hinv.2 (by simp [p_piv, c21])⟩
      · skip
        refine ss_iload dX3_findPivot_25 0 rfl ?_
        exact ss_iret dX3_findPivot_27 rfl rfl (cvi (by rw [ff_some hinv.2 (by simp [p_piv, c21, hinv.1]) (by omega)]; rfl) hQ)
set_option maxHeartbeats 4000000 in
set_option maxRecDepth 100000 in
theorem q_findPivot {c : cx} {d : Nat} {X : nX} {Y : nY} {w : Nat} (hw : w < 12) {k col H : Nat} (hH : H ≤ 4) (hcol : col < 4) (hk : k ≤ H) : sc c mX3_findPivot d [.ref (c_ad c (4 + 7 * w)), .int (nI col), .int (nI k), .int (nI H)] (X) (Y) (some (.int (fI (ffind (p_piv (Y (6 + 7 * w)) k col) H)))) (X) (Y) := by
  intro Q hQ
  show ss c mX3_findPivot d Q 0 [(0, .ref (c_ad c (4 + 7 * w))), (1, .int (nI col)), (2, .int (nI k)), (3, .int (nI H))] [] (X) (Y)
  refine ss_iload_n dX3_findPivot_0 2 rfl ?_
  refine ss_istore (lv' := [(4, _), (0, _), (1, _), (2, _), (3, _)]) dX3_findPivot_1 (by decide) rfl ?_
  exact l_findPivot hw hH hcol hQ (H - k) k (by omega) ⟨Nat.le_refl _, ff_none.mpr (fun j hj => by simp [p_piv]; omega)⟩
set_option maxHeartbeats 4000000 in
set_option maxRecDepth 100000 in
theorem l_swapRows {c : cx} {d : Nat} {X : nX} {Y : nY} {Q : Option Value → nX → nY → Prop} {w : Nat} (hw : w < 12) {u l : Nat} (hu : u < 4) (hl : l < 4) {R : Nat → Int64} (hQ : Q none X (srw Y (6 + 7 * w) (swr R u l 4))) : ∀ (nn i : Nat), i + nn = 4 → ss c mX3_swapRows d Q 2 [(3, .int (nI i)), (0, .ref (c_ad c (4 + 7 * w))), (1, .int (nI u)), (2, .int (nI l))] [] (X) (srw Y (6 + 7 * w) (swr R u l i)) := by
  intro nn
  induction nn with
  | zero =>
      intro i hin
      simp only [Nat.add_zero] at hin
      subst hin
      refine ss_iload_n dX3_swapRows_2 0 rfl ?_
      refine ss_iconst (v := nI 4) dX3_swapRows_3 (by decide) ?_
      refine sz_icmp_ge 57 dX3_swapRows_4 (by decide) (by omega) (by omega) (fun c4 => ?_) (fun c4 => by omega)
      exact ss_vret dX3_swapRows_57 rfl (hQ)
  | succ nn ih =>
      intro i hin
      refine ss_iload_n dX3_swapRows_2 0 rfl ?_
      refine ss_iconst (v := nI 4) dX3_swapRows_3 (by decide) ?_
      refine sz_icmp_ge 57 dX3_swapRows_4 (by decide) (by omega) (by omega) (fun c4 => by omega) (fun c4 => ?_)
      refine ss_aload_n dX3_swapRows_7 1 rfl ?_
      refine ss_get (i := 4 + 7 * w) dX3_swapRows_8 flX3_15 (by omega) (sh_w2 hw _ _) rfl ?_
      refine ss_iload_n dX3_swapRows_11 2 rfl ?_
      refine ss_iconst (v := nI 4) dX3_swapRows_12 (by decide) ?_
      refine sz_imul dX3_swapRows_13 ?_
      refine ss_iload_n dX3_swapRows_14 0 rfl ?_
      refine sz_iadd dX3_swapRows_15 ?_
      refine ss_lald (i := 6 + 7 * w) dX3_swapRows_16 (by omega) (sh_w4 hw) (by omega) (by decide) ?_
      rw [srw_at]
      refine ss_lstore (lv' := [(4, _), (3, _), (0, _), (1, _), (2, _)]) dX3_swapRows_17 (by decide) rfl ?_
      refine ss_aload_n dX3_swapRows_19 2 rfl ?_
      refine ss_get (i := 4 + 7 * w) dX3_swapRows_20 flX3_15 (by omega) (sh_w2 hw _ _) rfl ?_
      refine ss_iload_n dX3_swapRows_23 3 rfl ?_
      refine ss_iconst (v := nI 4) dX3_swapRows_24 (by decide) ?_
      refine sz_imul dX3_swapRows_25 ?_
      refine ss_iload_n dX3_swapRows_26 1 rfl ?_
      refine sz_iadd dX3_swapRows_27 ?_
      refine ss_aload_n dX3_swapRows_28 2 rfl ?_
      refine ss_get (i := 4 + 7 * w) dX3_swapRows_29 flX3_15 (by omega) (sh_w2 hw _ _) rfl ?_
      refine ss_iload_n dX3_swapRows_32 4 rfl ?_
      refine ss_iconst (v := nI 4) dX3_swapRows_33 (by decide) ?_
      refine sz_imul dX3_swapRows_34 ?_
      refine ss_iload_n dX3_swapRows_35 1 rfl ?_
      refine sz_iadd dX3_swapRows_36 ?_
      refine ss_lald (i := 6 + 7 * w) dX3_swapRows_37 (by omega) (sh_w4 hw) (by omega) (by decide) ?_
      rw [srw_at]
      refine ss_last (i := 6 + 7 * w) dX3_swapRows_38 (by omega) (sh_w4 hw) (by omega) (by decide) ?_
      refine ss_eY srw_up ?_
      refine ss_aload_n dX3_swapRows_39 2 rfl ?_
      refine ss_get (i := 4 + 7 * w) dX3_swapRows_40 flX3_15 (by omega) (sh_w2 hw _ _) rfl ?_
      refine ss_iload_n dX3_swapRows_43 4 rfl ?_
      refine ss_iconst (v := nI 4) dX3_swapRows_44 (by decide) ?_
      refine sz_imul dX3_swapRows_45 ?_
      refine ss_iload_n dX3_swapRows_46 1 rfl ?_
      refine sz_iadd dX3_swapRows_47 ?_
      refine ss_lload dX3_swapRows_48 0 rfl ?_
      refine ss_last (i := 6 + 7 * w) dX3_swapRows_50 (by omega) (sh_w4 hw) (by omega) (by decide) ?_
      refine ss_eY srw_up ?_
      refine sz_inc (lv' := [(3, _), (4, _), (0, _), (1, _), (2, _)]) dX3_swapRows_51 1 rfl (by decide) rfl ?_
      refine ss_goto 2 dX3_swapRows_54 (by decide) ?_
      refine ss_sub [0, 2, 3, 4] rfl ?_
      exact ih (i + 1) (by omega)
set_option maxHeartbeats 4000000 in
set_option maxRecDepth 100000 in
theorem q_swapRows {c : cx} {d : Nat} {X : nX} {Y : nY} {w : Nat} (hw : w < 12) {u l : Nat} (hu : u < 4) (hl : l < 4) : sc c mX3_swapRows d [.ref (c_ad c (4 + 7 * w)), .int (nI u), .int (nI l)] (X) (Y) none (X) (srw Y (6 + 7 * w) (swr (Y (6 + 7 * w)) u l 4)) := by
  intro Q hQ
  show ss c mX3_swapRows d Q 0 [(0, .ref (c_ad c (4 + 7 * w))), (1, .int (nI u)), (2, .int (nI l))] [] (X) (Y)
  refine ss_iconst (v := nI 0) dX3_swapRows_0 (by decide) ?_
  refine ss_istore_n (lv' := [(3, _), (0, _), (1, _), (2, _)]) dX3_swapRows_1 (by decide) rfl ?_
  have h9 := l_swapRows (X := X) (Y := Y) (c := c) (d := d) (R := Y (6 + 7 * w)) hw hu hl hQ 4 0 (by omega)
  rw [show swr (Y (6 + 7 * w)) u l 0 = Y (6 + 7 * w) from rfl, srw_self] at h9
  exact h9
set_option maxHeartbeats 4000000 in
set_option maxRecDepth 100000 in
theorem l_clearBelow2 {c : cx} {d : Nat} {X : nX} {Y : nY} {Q : Option Value → nX → nY → Prop} {w : Nat} (hw : w < 12) {pv col H : Nat} (hpv : pv < 4) (hcol : col < 4) (hH : H ≤ 4) {hd : Int64} {r : Nat} (hr : r < 4) {fc : Int64} {R : Nat → Int64} (hQ : ss c mX3_clearBelow d Q 92 [(9, .int (nI 4)), (7, .long fc), (6, .int (nI r)), (4, .long hd), (0, .ref (c_ad c (4 + 7 * w))), (1, .int (nI col)), (2, .int (nI pv)), (3, .int (nI H))] [] X (srw Y (6 + 7 * w) (clc R pv r col hd fc (4 - col)))) : ∀ (nn i : Nat), i + nn = 4 → (col ≤ i) → ss c mX3_clearBelow d Q 39 [(9, .int (nI i)), (7, .long fc), (6, .int (nI r)), (4, .long hd), (0, .ref (c_ad c (4 + 7 * w))), (1, .int (nI col)), (2, .int (nI pv)), (3, .int (nI H))] [] (X) (srw Y (6 + 7 * w) (clc R pv r col hd fc (i - col))) := by
  intro nn
  induction nn with
  | zero =>
      intro i hin hinv
      simp only [Nat.add_zero] at hin
      subst hin
      refine ss_iload dX3_clearBelow_39 0 rfl ?_
      refine ss_iconst (v := nI 4) dX3_clearBelow_41 (by decide) ?_
      refine sz_icmp_ge 92 dX3_clearBelow_42 (by decide) (by omega) (by omega) (fun c42 => ?_) (fun c42 => by omega)
      exact hQ
  | succ nn ih =>
      intro i hin hinv
      refine ss_iload dX3_clearBelow_39 0 rfl ?_
      refine ss_iconst (v := nI 4) dX3_clearBelow_41 (by decide) ?_
      refine sz_icmp_ge 92 dX3_clearBelow_42 (by decide) (by omega) (by omega) (fun c42 => by omega) (fun c42 => ?_)
      refine ss_iload dX3_clearBelow_45 2 rfl ?_
      refine ss_iconst (v := nI 4) dX3_clearBelow_47 (by decide) ?_
      refine sz_imul dX3_clearBelow_48 ?_
      refine ss_iload dX3_clearBelow_49 0 rfl ?_
      refine sz_iadd dX3_clearBelow_51 ?_
      refine ss_istore (lv' := [(10, _), (9, _), (7, _), (6, _), (4, _), (0, _), (1, _), (2, _), (3, _)]) dX3_clearBelow_52 (by decide) rfl ?_
      refine ss_aload_n dX3_clearBelow_54 5 rfl ?_
      refine ss_get (i := 4 + 7 * w) dX3_clearBelow_55 flX3_15 (by omega) (sh_w2 hw _ _) rfl ?_
      refine ss_iload dX3_clearBelow_58 0 rfl ?_
      refine ss_aload_n dX3_clearBelow_60 5 rfl ?_
      refine ss_get (i := 4 + 7 * w) dX3_clearBelow_61 flX3_15 (by omega) (sh_w2 hw _ _) rfl ?_
      refine ss_iload dX3_clearBelow_64 0 rfl ?_
      refine ss_lald (i := 6 + 7 * w) dX3_clearBelow_66 (by omega) (sh_w4 hw) (by omega) (by decide) ?_
      rw [srw_at]
      refine ss_lload dX3_clearBelow_67 4 rfl ?_
      refine ss_lmul dX3_clearBelow_69 ?_
      refine ss_aload_n dX3_clearBelow_70 5 rfl ?_
      refine ss_get (i := 4 + 7 * w) dX3_clearBelow_71 flX3_15 (by omega) (sh_w2 hw _ _) rfl ?_
      refine ss_iload_n dX3_clearBelow_74 7 rfl ?_
      refine ss_iconst (v := nI 4) dX3_clearBelow_75 (by decide) ?_
      refine sz_imul dX3_clearBelow_76 ?_
      refine ss_iload dX3_clearBelow_77 1 rfl ?_
      refine sz_iadd dX3_clearBelow_79 ?_
      refine ss_lald (i := 6 + 7 * w) dX3_clearBelow_80 (by omega) (sh_w4 hw) (by omega) (by decide) ?_
      rw [srw_at]
      refine ss_lload dX3_clearBelow_81 2 rfl ?_
      refine ss_lmul dX3_clearBelow_83 ?_
      refine ss_lsub dX3_clearBelow_84 ?_
      refine ss_last (i := 6 + 7 * w) dX3_clearBelow_85 (by omega) (sh_w4 hw) (by omega) (by decide) ?_
      refine sz_inc (lv' := [(9, _), (10, _), (7, _), (6, _), (4, _), (0, _), (1, _), (2, _), (3, _)]) dX3_clearBelow_86 1 rfl (by decide) rfl ?_
      refine ss_goto 39 dX3_clearBelow_89 (by decide) ?_
      refine ss_sub [0, 2, 3, 4, 5, 6, 7, 8] rfl ?_
      refine ss_eY srw_up ?_
      have e9 : clc R pv r col hd fc (i + 1 - col) = vp_updL (clc R pv r col hd fc (i - col)) (r * 4 + i) (clc R pv r col hd fc (i - col) (r * 4 + i) * hd - clc R pv r col hd fc (i - col) (pv * 4 + i) * fc) := by
        rw [show i + 1 - col = (i - col) + 1 by omega]
        rw [clc_s, show col + (i - col) = i by omega]
      rw [← e9]
      exact ih (i + 1) (by omega) (by omega)
set_option maxHeartbeats 4000000 in
set_option maxRecDepth 100000 in
theorem l_clearBelow1 {c : cx} {d : Nat} {X : nX} {Y : nY} {Q : Option Value → nX → nY → Prop} {w : Nat} (hw : w < 12) {pv col H : Nat} (hpv : pv < 4) (hcol : col < 4) (hH : H ≤ 4) {hd : Int64} {R : Nat → Int64} (hQ : Q none X (srw Y (6 + 7 * w) (clr R pv col hd (H - (pv + 1))))) : ∀ (nn i : Nat), i + nn = H → (pv + 1 ≤ i) → ss c mX3_clearBelow d Q 17 [(6, .int (nI i)), (4, .long hd), (0, .ref (c_ad c (4 + 7 * w))), (1, .int (nI col)), (2, .int (nI pv)), (3, .int (nI H))] [] (X) (srw Y (6 + 7 * w) (clr R pv col hd (i - (pv + 1)))) := by
  intro nn
  induction nn with
  | zero =>
      intro i hin hinv
      simp only [Nat.add_zero] at hin
      subst hin
      refine ss_iload dX3_clearBelow_17 0 rfl ?_
      refine ss_iload_n dX3_clearBelow_19 5 rfl ?_
      refine sz_icmp_ge 98 dX3_clearBelow_20 (by decide) (by omega) (by omega) (fun c20 => ?_) (fun c20 => by omega)
      exact ss_vret dX3_clearBelow_98 rfl (hQ)
  | succ nn ih =>
      intro i hin hinv
      refine ss_iload dX3_clearBelow_17 0 rfl ?_
      refine ss_iload_n dX3_clearBelow_19 5 rfl ?_
      refine sz_icmp_ge 98 dX3_clearBelow_20 (by decide) (by omega) (by omega) (fun c20 => by omega) (fun c20 => ?_)
      refine ss_aload_n dX3_clearBelow_23 2 rfl ?_
      refine ss_get (i := 4 + 7 * w) dX3_clearBelow_24 flX3_15 (by omega) (sh_w2 hw _ _) rfl ?_
      refine ss_iload dX3_clearBelow_27 0 rfl ?_
      refine ss_iconst (v := nI 4) dX3_clearBelow_29 (by decide) ?_
      refine sz_imul dX3_clearBelow_30 ?_
      refine ss_iload_n dX3_clearBelow_31 3 rfl ?_
      refine sz_iadd dX3_clearBelow_32 ?_
      refine ss_lald (i := 6 + 7 * w) dX3_clearBelow_33 (by omega) (sh_w4 hw) (by omega) (by decide) ?_
      rw [srw_at]
      refine ss_lstore (lv' := [(7, _), (6, _), (4, _), (0, _), (1, _), (2, _), (3, _)]) dX3_clearBelow_34 (by decide) rfl ?_
      refine ss_iload_n dX3_clearBelow_36 4 rfl ?_
      refine ss_istore (lv' := [(9, _), (7, _), (6, _), (4, _), (0, _), (1, _), (2, _), (3, _)]) dX3_clearBelow_37 (by decide) rfl ?_
      have h8 := l_clearBelow2 (X := X) (Y := Y) (c := c) (d := d) (Q := Q) (pv := pv) (col := col) (H := H) (hd := hd) (r := i) (fc := clr R pv col hd (i - (pv + 1)) (i * 4 + col)) (R := clr R pv col hd (i - (pv + 1))) hw hpv hcol hH (by omega) ?k8 (4 - col) col (by omega) (Nat.le_refl _)
      case k8 =>
        refine ss_sub [2, 3, 4, 5, 6, 7] rfl ?_
        refine sz_inc (lv' := [(6, _), (4, _), (0, _), (1, _), (2, _), (3, _)]) dX3_clearBelow_92 0 rfl (by decide) rfl ?_
        refine ss_goto 17 dX3_clearBelow_95 (by decide) ?_
        have e9 : clr R pv col hd (i + 1 - (pv + 1)) = clc (clr R pv col hd (i - (pv + 1))) pv i col hd (clr R pv col hd (i - (pv + 1)) (i * 4 + col)) (4 - col) := by
          rw [show i + 1 - (pv + 1) = (i - (pv + 1)) + 1 by omega]
          rw [clr_s, show pv + 1 + (i - (pv + 1)) = i by omega]
        have h7 := ih (i + 1) (by omega) (by omega)
        rw [e9] at h7
        exact h7
      rw [Nat.sub_self] at h8
      exact h8
set_option maxHeartbeats 4000000 in
set_option maxRecDepth 100000 in
theorem q_clearBelow {c : cx} {d : Nat} {X : nX} {Y : nY} {w : Nat} (hw : w < 12) {pv col H : Nat} (hpv : pv < H) (hcol : col < 4) (hH : H ≤ 4) : sc c mX3_clearBelow d [.ref (c_ad c (4 + 7 * w)), .int (nI col), .int (nI pv), .int (nI H)] (X) (Y) none (X) (srw Y (6 + 7 * w) (clr (Y (6 + 7 * w)) pv col (Y (6 + 7 * w) (pv * 4 + col)) (H - (pv + 1)))) := by
  intro Q hQ
  show ss c mX3_clearBelow d Q 0 [(0, .ref (c_ad c (4 + 7 * w))), (1, .int (nI col)), (2, .int (nI pv)), (3, .int (nI H))] [] (X) (Y)
  refine ss_aload_n dX3_clearBelow_0 0 rfl ?_
  refine ss_get (i := 4 + 7 * w) dX3_clearBelow_1 flX3_15 (by omega) (sh_w2 hw _ _) rfl ?_
  refine ss_iload_n dX3_clearBelow_4 2 rfl ?_
  refine ss_iconst (v := nI 4) dX3_clearBelow_5 (by decide) ?_
  refine sz_imul dX3_clearBelow_6 ?_
  refine ss_iload_n dX3_clearBelow_7 1 rfl ?_
  refine sz_iadd dX3_clearBelow_8 ?_
  refine ss_lald (i := 6 + 7 * w) dX3_clearBelow_9 (by omega) (sh_w4 hw) (by omega) (by decide) ?_
  refine ss_lstore (lv' := [(4, _), (0, _), (1, _), (2, _), (3, _)]) dX3_clearBelow_10 (by decide) rfl ?_
  refine ss_iload_n dX3_clearBelow_12 3 rfl ?_
  refine ss_iconst (v := nI 1) dX3_clearBelow_13 (by decide) ?_
  refine sz_iadd dX3_clearBelow_14 ?_
  refine ss_istore (lv' := [(6, _), (4, _), (0, _), (1, _), (2, _), (3, _)]) dX3_clearBelow_15 (by decide) rfl ?_
  have h9 := l_clearBelow1 (X := X) (Y := Y) (c := c) (d := d) (Q := Q) (hd := Y (6 + 7 * w) (pv * 4 + col)) (R := Y (6 + 7 * w)) (pv := pv) (col := col) (H := H) hw (by omega) hcol hH hQ (H - (pv + 1)) (pv + 1) (by omega) (Nat.le_refl _)
  rw [Nat.sub_self, show clr (Y (6 + 7 * w)) pv col (Y (6 + 7 * w) (pv * 4 + col)) 0 = Y (6 + 7 * w) from rfl, srw_self] at h9
  exact h9
set_option maxHeartbeats 4000000 in
set_option maxRecDepth 100000 in
theorem l_rankOfFew {c : cx} {d : Nat} {X : nX} {Y : nY} {Q : Option Value → nX → nY → Prop} {w : Nat} (hw : w < 12) {s H : Nat} (hH : H ≤ 4) {R : Nat → Int64} (hQ : Q (some (.int (nI (gel H R 4).1))) X (srw Y (6 + 7 * w) ((gel H R 4).2))) : ∀ (nn i : Nat), i + nn = 4 → ss c mX3_rankOfFew (d + 1) Q 11 [(4, .int (nI i)), (3, .int (nI (gel H R i).1)), (2, .int (nI H)), (0, .ref (c_ad c (4 + 7 * w))), (1, .int (nI s))] [] (X) (srw Y (6 + 7 * w) ((gel H R i).2)) := by
  intro nn
  induction nn with
  | zero =>
      intro i hin
      simp only [Nat.add_zero] at hin
      subst hin
      refine ss_iload dX3_rankOfFew_11 0 rfl ?_
      refine ss_iconst (v := nI 4) dX3_rankOfFew_13 (by decide) ?_
      refine sz_icmp_ge 57 dX3_rankOfFew_14 (by decide) (by omega) (by omega) (fun c14 => ?_) (fun c14 => by omega)
      refine ss_iload_n dX3_rankOfFew_57 1 rfl ?_
      exact ss_iret dX3_rankOfFew_58 rfl rfl (hQ)
  | succ nn ih =>
      intro i hin
      refine ss_iload dX3_rankOfFew_11 0 rfl ?_
      refine ss_iconst (v := nI 4) dX3_rankOfFew_13 (by decide) ?_
      refine sz_icmp_ge 57 dX3_rankOfFew_14 (by decide) (by omega) (by omega) (fun c14 => by omega) (fun c14 => ?_)
      refine ss_aload_n dX3_rankOfFew_17 3 rfl ?_
      refine ss_iload dX3_rankOfFew_18 0 rfl ?_
      refine ss_iload_n dX3_rankOfFew_20 1 rfl ?_
      refine ss_iload_n dX3_rankOfFew_21 2 rfl ?_
      refine ss_callV (As := [_, _, _]) (i := 4 + 7 * w) dX3_rankOfFew_22 vlX3_23 clX3_findPivot rfl rfl (by omega) (sh_w2 hw _ _) rfl (Nat.le_of_ble_eq_true rfl) (Nat.le_of_ble_eq_true rfl) (q_findPivot hw hH (by omega) (by have := gel_le H R i; omega)) ?_
      refine ss_istore (lv' := [(5, _), (4, _), (3, _), (2, _), (0, _), (1, _)]) dX3_rankOfFew_25 (by decide) rfl ?_
      refine ss_iload dX3_rankOfFew_27 0 rfl ?_
      refine ss_iconst (v := -1) dX3_rankOfFew_29 (by decide) ?_
      refine ss_icmp_eq 51 dX3_rankOfFew_30 (by decide) (fun c30 => ?_) (fun c30 => ?_)
      · skip
        refine sz_inc (lv' := [(4, _), (5, _), (3, _), (2, _), (0, _), (1, _)]) dX3_rankOfFew_51 1 rfl (by decide) rfl ?_
        refine ss_goto 11 dX3_rankOfFew_54 (by decide) ?_
        refine ss_sub [0, 2, 3, 4, 5] rfl ?_
        have e8 : ffind (p_piv (gel H R i).2 (gel H R i).1 i) H = none := by
          cases h8 : ffind (p_piv (gel H R i).2 (gel H R i).1 i) H with
          | none => rfl
          | some r => rw [srw_at, h8] at c30; have := ff_spec h8; have h9 := congrArg Int32.toInt c30; rw [show fI (some r) = nI r from rfl, nI_toInt (by omega)] at h9; have h0 : (-1 : Int32).toInt = -1 := rfl; omega
        have e9 : gel H R (i + 1) = gel H R i := by rw [gel_s, e8]
        have h7 := ih (i + 1) (by omega)
        rw [e9] at h7
        exact h7
      · skip
        obtain ⟨r9, e8⟩ : ∃ r, ffind (p_piv (gel H R i).2 (gel H R i).1 i) H = some r := by
          cases h8 : ffind (p_piv (gel H R i).2 (gel H R i).1 i) H with
          | none => rw [srw_at, h8] at c30; exact absurd rfl c30
          | some r => exact ⟨r, rfl⟩
        have h7 := ff_spec e8
        have h6 := h7.2.1
        simp [p_piv] at h6
        rw [srw_at, e8, show fI (some r9) = nI r9 from rfl]
        refine ss_aload_n dX3_rankOfFew_33 4 rfl ?_
        refine ss_iload_n dX3_rankOfFew_34 2 rfl ?_
        refine ss_iload dX3_rankOfFew_35 0 rfl ?_
        refine ss_callV (As := [_, _]) (i := 4 + 7 * w) dX3_rankOfFew_37 vlX3_27 clX3_swapRows rfl rfl (by omega) (sh_w2 hw _ _) rfl (Nat.le_of_ble_eq_true rfl) (Nat.le_of_ble_eq_true rfl) (q_swapRows hw (by have := gel_le H R i; omega) (by omega)) ?_
        refine ss_aload_n dX3_rankOfFew_40 4 rfl ?_
        refine ss_iload dX3_rankOfFew_41 1 rfl ?_
        refine ss_iload_n dX3_rankOfFew_43 2 rfl ?_
        refine ss_iload_n dX3_rankOfFew_44 3 rfl ?_
        refine ss_callV (As := [_, _, _]) (i := 4 + 7 * w) dX3_rankOfFew_45 vlX3_31 clX3_clearBelow rfl rfl (by omega) (sh_w2 hw _ _) rfl (Nat.le_of_ble_eq_true rfl) (Nat.le_of_ble_eq_true rfl) (q_clearBelow hw (by omega) (by omega) hH) ?_
        refine sz_inc (lv' := [(3, _), (5, _), (4, _), (2, _), (0, _), (1, _)]) dX3_rankOfFew_48 2 rfl (by decide) rfl ?_
        refine sz_inc (lv' := [(4, _), (3, _), (5, _), (2, _), (0, _), (1, _)]) dX3_rankOfFew_51 2 rfl (by decide) rfl ?_
        refine ss_goto 11 dX3_rankOfFew_54 (by decide) ?_
        refine ss_sub [0, 1, 3, 4, 5] rfl ?_
        have e9 : gel H R (i + 1) = ((gel H R i).1 + 1, clr (swr (gel H R i).2 (gel H R i).1 r9 4) (gel H R i).1 i (swr (gel H R i).2 (gel H R i).1 r9 4 ((gel H R i).1 * 4 + i)) (H - ((gel H R i).1 + 1))) := by rw [gel_s, e8]
        have h5 := ih (i + 1) (by omega)
        rw [e9] at h5
        rw [srw_srw, srw_at, srw_srw, srw_at]
        exact h5
set_option maxHeartbeats 4000000 in
set_option maxRecDepth 100000 in
theorem q_rankOfFew {c : cx} {d : Nat} {X : nX} {Y : nY} {w : Nat} (hw : w < 12) {s : Nat} (hs : s < 1024) : sc c mX3_rankOfFew (d + 2) [.ref (c_ad c (4 + 7 * w)), .int (nI s)] (X) (Y) (some (.int (nI (rkf (X (5 + 7 * w)) s (Y (6 + 7 * w))).1))) (X) (srw Y (6 + 7 * w) ((rkf (X (5 + 7 * w)) s (Y (6 + 7 * w))).2)) := by
  intro Q hQ
  show ss c mX3_rankOfFew (d + 2) Q 0 [(0, .ref (c_ad c (4 + 7 * w))), (1, .int (nI s))] [] (X) (Y)
  refine ss_aload_n dX3_rankOfFew_0 0 rfl ?_
  refine ss_iload_n dX3_rankOfFew_1 1 rfl ?_
  refine ss_callV (As := [_]) (i := 4 + 7 * w) dX3_rankOfFew_2 vlX3_19 clX3_copyRows rfl rfl (by omega) (sh_w2 hw _ _) rfl (Nat.le_of_ble_eq_true rfl) (Nat.le_of_ble_eq_true rfl) (q_copyRows hw hs) ?_
  refine ss_istore_n (lv' := [(2, _), (0, _), (1, _)]) dX3_rankOfFew_5 (by decide) rfl ?_
  refine ss_iconst (v := nI 0) dX3_rankOfFew_6 (by decide) ?_
  refine ss_istore_n (lv' := [(3, _), (2, _), (0, _), (1, _)]) dX3_rankOfFew_7 (by decide) rfl ?_
  refine ss_iconst (v := nI 0) dX3_rankOfFew_8 (by decide) ?_
  refine ss_istore (lv' := [(4, _), (3, _), (2, _), (0, _), (1, _)]) dX3_rankOfFew_9 (by decide) rfl ?_
  unfold rkf at hQ
  have h4 := cpr_le (X (5 + 7 * w)) s (Y (6 + 7 * w)) 10
  generalize cpr (X (5 + 7 * w)) s (Y (6 + 7 * w)) 10 = C9 at hQ h4 ⊢
  have h9 := l_rankOfFew (c := c) (d := d + 1) (X := X) (Y := Y) (Q := Q) (H := C9.1) (R := C9.2) (s := s) hw h4 hQ 4 0 (by omega)
  rw [show gel C9.1 C9.2 0 = (0, C9.2) from rfl] at h9
  exact h9
