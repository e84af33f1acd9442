theorem vr_mpl {Y : nY} {a lo i w : Nat} {F : Nat → Int64} (h : a ≠ 108) : vr (mpl Y a lo i F) w = vr Y w := by
  funext s
  unfold vr mpl
  rw [if_neg (by omega)]
theorem vr_srw {Y : nY} {a w : Nat} {R : Nat → Int64} (h : a ≠ 108) : vr (srw Y a R) w = vr Y w := by
  funext s
  unfold vr
  rw [srw_ne (by omega)]
def rlv (R V : Nat → Int64) (n : Nat) : Nat → Int64 := fun k => if k < n + 1 then (lvo V k (2 ^ n)).2 else R k
theorem rlv_mpl {Y : nY} {n : Nat} {V : Nat → Int64} : mpl Y 124 0 (n + 1) (fun k => (lvo V k (2 ^ n)).2) = srw Y 124 (rlv (Y 124) V n) := by
  funext b k
  unfold mpl srw rlv
  by_cases h1 : b = 124
  · subst h1
    by_cases h2 : k < n + 1 <;> simp [h2]
  · simp [h1]
def xcn (X : nX) (t : Nat → Nat) (i : Nat) : nX := fun a k => if a = 123 ∧ k ≤ i then nI (t k) else X a k
theorem xcn_t {X : nX} {t : Nat → Nat} {i k : Nat} (h : k ≤ i) : xcn X t i 123 k = nI (t k) := by simp [xcn, h]
theorem xcn_ne {X : nX} {t : Nat → Nat} {i a k : Nat} (h : a ≠ 123) : xcn X t i a k = X a k := by
  unfold xcn
  rw [if_neg (by omega)]
theorem xcn_s {X : nX} {t : Nat → Nat} {i : Nat} : up2 (xcn X t i) 123 (i + 1) (nI (t (i + 1))) = xcn X t (i + 1) := by
  funext a k
  simp only [up2_at, xcn]
  by_cases h2 : a = 123
  · subst h2
    by_cases h3 : k = i + 1
    · subst h3; simp
    · simp only [h3]
      by_cases h4 : k ≤ i
      · simp [h4, show k ≤ i + 1 by omega]
      · simp [h4, show ¬ k ≤ i + 1 by omega]
  · simp [h2]
theorem xcn_0 {X : nX} {t : Nat → Nat} (h : t 0 = 0) : up2 X 123 0 (nI 0) = xcn X t 0 := by
  funext a k
  simp only [up2_at, xcn]
  by_cases h2 : a = 123
  · subst h2
    by_cases h3 : k = 0 <;> simp [h3, h]
  · simp [h2]
set_option maxHeartbeats 4000000 in
set_option maxRecDepth 100000 in
theorem l_fb1 {c : cx} {d : Nat} {X : nX} {Y : nY} {Q : Option Value → nX → nY → Prop} {w : Nat} (hw : w < 12) {n : Nat} (hn : n ≤ 10) (h6 : X 105 0 = nI n) (hQ : ∀ k, k = n + 1 → ss c mX8_findBends (d + 2) Q 28 [(2, .int (nI k)), (0, .ref (c_ad c 105)), (1, .int (nI w))] [] X (mpl Y 124 0 (n + 1) (fun k => (lvo (vr Y w) k (2 ^ n)).2))) : ∀ (nn i : Nat), i + nn = n + 1 → ss c mX8_findBends (d + 2) Q 2 [(2, .int (nI i)), (0, .ref (c_ad c 105)), (1, .int (nI w))] [] (X) (mpl Y 124 0 i (fun k => (lvo (vr Y w) k (2 ^ n)).2)) := by
  intro nn
  induction nn with
  | zero =>
      intro i hin
      simp only [Nat.add_zero] at hin
      subst hin
      refine ss_iload_n dX8_findBends_2 0 rfl ?_
      refine ss_aload_n dX8_findBends_3 1 rfl ?_
      refine ss_get (i := 105) dX8_findBends_4 flX8_80 (by omega) (sh_r105 _ _) rfl ?_
      rw [h6]
      refine sz_icmp_gt 28 dX8_findBends_7 (by decide) (by omega) (by omega) (fun c7 => ?_) (fun c7 => by omega)
      exact hQ _ rfl
  | succ nn ih =>
      intro i hin
      refine ss_iload_n dX8_findBends_2 0 rfl ?_
      refine ss_aload_n dX8_findBends_3 1 rfl ?_
      refine ss_get (i := 105) dX8_findBends_4 flX8_80 (by omega) (sh_r105 _ _) rfl ?_
      rw [h6]
      refine sz_icmp_gt 28 dX8_findBends_7 (by decide) (by omega) (by omega) (fun c7 => by omega) (fun c7 => ?_)
      refine ss_aload_n dX8_findBends_10 1 rfl ?_
      refine ss_get (i := 105) dX8_findBends_11 flX8_70 (by omega) (sh_r105 _ _) rfl ?_
      refine ss_iload_n dX8_findBends_14 0 rfl ?_
      refine ss_aload_n dX8_findBends_15 1 rfl ?_
      refine ss_iload_n dX8_findBends_16 2 rfl ?_
      refine ss_iload_n dX8_findBends_17 0 rfl ?_
      refine ss_callV (As := [_, _]) (i := 105) dX8_findBends_18 vlX8_219 clX8_levelOf rfl rfl (by omega) (sh_r105 _ _) rfl (Nat.le_of_ble_eq_true rfl) (Nat.le_of_ble_eq_true rfl) (m_levelOf hw hn h6 (by omega)) ?_
      refine ss_last (i := 124) dX8_findBends_21 (by omega) (sh_r124) (by omega) (by decide) ?_
      refine sz_inc (lv' := [(2, _), (0, _), (1, _)]) dX8_findBends_22 0 rfl (by decide) rfl ?_
      refine ss_goto 2 dX8_findBends_25 (by decide) ?_
      refine ss_eY (mpl_s (Nat.zero_le _) (by rw [vr_mpl (by omega)])) ?_
      exact ih (i + 1) (by omega)
set_option maxHeartbeats 4000000 in
set_option maxRecDepth 100000 in
theorem l_fb2 {c : cx} {d : Nat} {X : nX} {Y : nY} {Q : Option Value → nX → nY → Prop} {n : Nat} (hn : n ≤ 10) (h6 : X 105 0 = nI n) {a b w : Nat} (ha : a < n) (hQ : ∀ k8, k8 = n + 1 → ss c mX8_findBends (d + 2) Q 143 [(5, .int (nI k8)), (4, .int (nI (nxt (Y 124) a (n - (a + 1))))), (3, .int (nI a)), (2, .int (nI b)), (0, .ref (c_ad c 105)), (1, .int (nI w))] [] X Y) : ∀ (nn i : Nat), i + nn = n + 1 → (a + 2 ≤ i) → ss c mX8_findBends (d + 2) Q 67 [(5, .int (nI i)), (4, .int (nI (nxt (Y 124) a (i - (a + 2))))), (3, .int (nI a)), (2, .int (nI b)), (0, .ref (c_ad c 105)), (1, .int (nI w))] [] (X) (Y) := by
  intro nn
  induction nn with
  | zero =>
      intro i hin hinv
      simp only [Nat.add_zero] at hin
      subst hin
      refine ss_iload dX8_findBends_67 0 rfl ?_
      refine ss_aload_n dX8_findBends_69 4 rfl ?_
      refine ss_get (i := 105) dX8_findBends_70 flX8_80 (by omega) (sh_r105 _ _) rfl ?_
      rw [h6]
      refine sz_icmp_gt 143 dX8_findBends_73 (by decide) (by omega) (by omega) (fun c73 => ?_) (fun c73 => by omega)
      rw [show n + 1 - (a + 2) = n - (a + 1) by omega]; exact hQ _ rfl
  | succ nn ih =>
      intro i hin hinv
      refine ss_iload dX8_findBends_67 0 rfl ?_
      refine ss_aload_n dX8_findBends_69 4 rfl ?_
      refine ss_get (i := 105) dX8_findBends_70 flX8_80 (by omega) (sh_r105 _ _) rfl ?_
      rw [h6]
      refine sz_icmp_gt 143 dX8_findBends_73 (by decide) (by omega) (by omega) (fun c73 => by omega) (fun c73 => ?_)
      refine ss_aload_n dX8_findBends_76 4 rfl ?_
      refine ss_get (i := 105) dX8_findBends_77 flX8_70 (by omega) (sh_r105 _ _) rfl ?_
      refine ss_iload dX8_findBends_80 0 rfl ?_
      refine ss_lald (i := 124) dX8_findBends_82 (by omega) (sh_r124) (by omega) (by decide) ?_
      refine ss_aload_n dX8_findBends_83 4 rfl ?_
      refine ss_get (i := 105) dX8_findBends_84 flX8_70 (by omega) (sh_r105 _ _) rfl ?_
      refine ss_iload_n dX8_findBends_87 2 rfl ?_
      refine ss_lald (i := 124) dX8_findBends_88 (by omega) (sh_r124) (by omega) (by decide) ?_
      refine ss_lsub dX8_findBends_89 ?_
      refine ss_iload dX8_findBends_90 1 rfl ?_
      refine ss_iload_n dX8_findBends_92 2 rfl ?_
      refine sz_isub dX8_findBends_93 (by have h8 := nxt_in (Y 124) a (i - (a + 2)); omega) ?_
      refine sz_i2l dX8_findBends_94 (by have h8 := nxt_in (Y 124) a (i - (a + 2)); omega) ?_
      refine ss_lmul dX8_findBends_95 ?_
      refine ss_lstore (lv' := [(6, _), (5, _), (4, _), (3, _), (2, _), (0, _), (1, _)]) dX8_findBends_96 (by decide) rfl ?_
      refine ss_aload_n dX8_findBends_98 5 rfl ?_
      refine ss_get (i := 105) dX8_findBends_99 flX8_70 (by omega) (sh_r105 _ _) rfl ?_
      refine ss_iload dX8_findBends_102 2 rfl ?_
      refine ss_lald (i := 124) dX8_findBends_104 (by omega) (sh_r124) (by have h8 := nxt_in (Y 124) a (i - (a + 2)); omega) (by decide) ?_
      refine ss_aload_n dX8_findBends_105 5 rfl ?_
      refine ss_get (i := 105) dX8_findBends_106 flX8_70 (by omega) (sh_r105 _ _) rfl ?_
      refine ss_iload_n dX8_findBends_109 3 rfl ?_
      refine ss_lald (i := 124) dX8_findBends_110 (by omega) (sh_r124) (by omega) (by decide) ?_
      refine ss_lsub dX8_findBends_111 ?_
      refine ss_iload dX8_findBends_112 1 rfl ?_
      refine ss_iload_n dX8_findBends_114 3 rfl ?_
      refine sz_isub dX8_findBends_115 (by omega) ?_
      refine sz_i2l dX8_findBends_116 (by omega) ?_
      refine ss_lmul dX8_findBends_117 ?_
      refine ss_lstore (lv' := [(8, _), (6, _), (5, _), (4, _), (3, _), (2, _), (0, _), (1, _)]) dX8_findBends_118 (by decide) rfl ?_
      refine ss_lload dX8_findBends_120 1 rfl ?_
      refine ss_lload dX8_findBends_122 0 rfl ?_
      refine sv_gt 133 dX8_findBends_124 dX8_findBends_125 (by decide) (fun c124 => ?_) (fun c124 => ?_)
      · skip
        refine ss_iload dX8_findBends_133 3 rfl ?_
        refine ss_istore (lv' := [(4, _), (8, _), (6, _), (5, _), (3, _), (2, _), (0, _), (1, _)]) dX8_findBends_135 (by decide) rfl ?_
        refine sz_inc (lv' := [(5, _), (4, _), (8, _), (6, _), (3, _), (2, _), (0, _), (1, _)]) dX8_findBends_137 3 rfl (by decide) rfl ?_
        refine ss_goto 67 dX8_findBends_140 (by decide) ?_
        refine ss_sub [0, 1, 4, 5, 6, 7] rfl ?_
        have e9 : nxt (Y 124) a (i + 1 - (a + 2)) = nxt (Y 124) a (i - (a + 2)) := by
          rw [show i + 1 - (a + 2) = (i - (a + 2)) + 1 by omega]
          rw [nxt_s, show a + 2 + (i - (a + 2)) = i by omega]
          rw [if_neg (by first | (rw [Int64.lt_iff_toInt_lt] at c124; rw [Int64.le_iff_toInt_le]; omega) | exact c124)]
        refine ss_eL (lv' := [(5, .int (nI (i + 1))), (4, .int (nI (nxt (Y 124) a (i + 1 - (a + 2))))), (3, .int (nI a)), (2, .int (nI b)), (0, .ref (c_ad c 105)), (1, .int (nI w))]) (by rw [e9] <;> rfl) ?_
        exact ih (i + 1) (by omega) (by omega)
      · skip
        refine ss_iload dX8_findBends_128 2 rfl ?_
        refine ss_goto 135 dX8_findBends_130 (by decide) ?_
        refine ss_istore (lv' := [(4, _), (8, _), (6, _), (5, _), (3, _), (2, _), (0, _), (1, _)]) dX8_findBends_135 (by decide) rfl ?_
        refine sz_inc (lv' := [(5, _), (4, _), (8, _), (6, _), (3, _), (2, _), (0, _), (1, _)]) dX8_findBends_137 3 rfl (by decide) rfl ?_
        refine ss_goto 67 dX8_findBends_140 (by decide) ?_
        refine ss_sub [0, 1, 4, 5, 6, 7] rfl ?_
        have e9 : nxt (Y 124) a (i + 1 - (a + 2)) = i := by
          rw [show i + 1 - (a + 2) = (i - (a + 2)) + 1 by omega]
          rw [nxt_s, show a + 2 + (i - (a + 2)) = i by omega]
          rw [if_pos (by first | (rw [Int64.lt_iff_toInt_lt] at c124; rw [Int64.le_iff_toInt_le]; omega) | exact c124)]
        refine ss_eL (lv' := [(5, .int (nI (i + 1))), (4, .int (nI (nxt (Y 124) a (i + 1 - (a + 2))))), (3, .int (nI a)), (2, .int (nI b)), (0, .ref (c_ad c 105)), (1, .int (nI w))]) (by rw [e9] <;> rfl) ?_
        exact ih (i + 1) (by omega) (by omega)
set_option maxHeartbeats 4000000 in
set_option maxRecDepth 100000 in
theorem l_fb3 {c : cx} {d : Nat} {X : nX} {Y : nY} {Q : Option Value → nX → nY → Prop} {n : Nat} (hn : n ≤ 10) (h6 : X 105 0 = nI n) {w : Nat} (hQ : ∀ i, i ≤ n → (∀ j, j < i → tno (Y 124) n j < n) → n ≤ tno (Y 124) n i → Q (some (.int (nI i))) (xcn X (tno (Y 124) n) i) Y) : ∀ (nn i : Nat), i + nn = n → (∀ j, j < i → tno (Y 124) n j < n) → ss c mX8_findBends (d + 2) Q 37 [(2, .int (nI i)), (0, .ref (c_ad c 105)), (1, .int (nI w))] [] (xcn X (tno (Y 124) n) i) (Y) := by
  intro nn
  induction nn with
  | zero =>
      intro i hin hinv
      simp only [Nat.add_zero] at hin
      subst hin
      have h31 : tno (Y 124) i i < 2 ^ 31 := by
        rcases Nat.eq_zero_or_pos i with h5 | h5
        · rw [h5]; exact (by decide : (0 : Nat) < 2 ^ 31)
        · have := tno_le (Y 124) (hinv (i - 1) (by omega)); rw [show i - 1 + 1 = i by omega] at this; omega
      refine ss_aload_n dX8_findBends_37 1 rfl ?_
      refine ss_get (i := 105) dX8_findBends_38 flX8_67 (by omega) (sh_r105 _ _) rfl ?_
      refine ss_iload_n dX8_findBends_41 0 rfl ?_
      refine ss_iald (i := 123) dX8_findBends_42 (by omega) (sh_r123) (by omega) (by decide) ?_
      rw [xcn_t (Nat.le_refl _)]
      refine ss_aload_n dX8_findBends_43 1 rfl ?_
      refine ss_get (i := 105) dX8_findBends_44 flX8_80 (by omega) (sh_r105 _ _) rfl ?_
      rw [xcn_ne (by omega), h6]
      refine sz_icmp_ge 157 dX8_findBends_47 (by decide) (by have := h31; omega) (by omega) (fun c47 => ?_) (fun c47 => by have := tno_ge (Y 124) i i; omega)
      refine ss_iload_n dX8_findBends_157 0 rfl ?_
      exact ss_iret dX8_findBends_158 rfl rfl (hQ i (Nat.le_refl _) hinv (tno_ge _ _ _))
  | succ nn ih =>
      intro i hin hinv
      have h31 : tno (Y 124) n i < 2 ^ 31 := by
        rcases Nat.eq_zero_or_pos i with h5 | h5
        · rw [h5]; exact (by decide : (0 : Nat) < 2 ^ 31)
        · have := tno_le (Y 124) (hinv (i - 1) (by omega)); rw [show i - 1 + 1 = i by omega] at this; omega
      refine ss_aload_n dX8_findBends_37 1 rfl ?_
      refine ss_get (i := 105) dX8_findBends_38 flX8_67 (by omega) (sh_r105 _ _) rfl ?_
      refine ss_iload_n dX8_findBends_41 0 rfl ?_
      refine ss_iald (i := 123) dX8_findBends_42 (by omega) (sh_r123) (by omega) (by decide) ?_
      rw [xcn_t (Nat.le_refl _)]
      refine ss_aload_n dX8_findBends_43 1 rfl ?_
      refine ss_get (i := 105) dX8_findBends_44 flX8_80 (by omega) (sh_r105 _ _) rfl ?_
      rw [xcn_ne (by omega), h6]
      refine sz_icmp_ge 157 dX8_findBends_47 (by decide) (by have : tno (Y 124) n i < 2 ^ 31 := h31; omega) (by omega) (fun c47 => ?_) (fun c47 => ?_)
      · skip
        refine ss_iload_n dX8_findBends_157 0 rfl ?_
        exact ss_iret dX8_findBends_158 rfl rfl (hQ i (by omega) hinv (by omega))
      · skip
        refine ss_aload_n dX8_findBends_50 1 rfl ?_
        refine ss_get (i := 105) dX8_findBends_51 flX8_67 (by omega) (sh_r105 _ _) rfl ?_
        refine ss_iload_n dX8_findBends_54 0 rfl ?_
        refine ss_iald (i := 123) dX8_findBends_55 (by omega) (sh_r123) (by omega) (by decide) ?_
        rw [xcn_t (Nat.le_refl _)]
        refine ss_istore_n (lv' := [(3, _), (2, _), (0, _), (1, _)]) dX8_findBends_56 (by decide) rfl ?_
        refine ss_iload_n dX8_findBends_57 0 rfl ?_
        refine ss_iconst (v := nI 1) dX8_findBends_58 (by decide) ?_
        refine sz_iadd dX8_findBends_59 ?_
        refine ss_istore (lv' := [(4, _), (3, _), (2, _), (0, _), (1, _)]) dX8_findBends_60 (by decide) rfl ?_
        refine ss_iload_n dX8_findBends_62 1 rfl ?_
        refine ss_iconst (v := nI 2) dX8_findBends_63 (by decide) ?_
        refine sz_iadd dX8_findBends_64 ?_
        refine ss_istore (lv' := [(5, _), (4, _), (3, _), (2, _), (0, _), (1, _)]) dX8_findBends_65 (by decide) rfl ?_
        have h9 := l_fb2 (X := xcn X (tno (Y 124) n) i) (Y := Y) (c := c) (d := d) (Q := Q) (w := w) (b := i) hn (by rw [xcn_ne (by omega)]; exact h6) (a := tno (Y 124) n i) (by omega) (fun k8 hk8 => ?k8) (n + 1 - (tno (Y 124) n i + 2)) (tno (Y 124) n i + 2) (by omega) (Nat.le_refl _)
        case k8 =>
          refine sz_inc (lv' := [(2, _), (5, _), (4, _), (3, _), (0, _), (1, _)]) dX8_findBends_143 3 rfl (by decide) rfl ?_
          refine ss_aload_n dX8_findBends_146 4 rfl ?_
          refine ss_get (i := 105) dX8_findBends_147 flX8_67 (by omega) (sh_r105 _ _) rfl ?_
          refine ss_iload_n dX8_findBends_150 0 rfl ?_
          refine ss_iload dX8_findBends_151 2 rfl ?_
          refine ss_iast (i := 123) dX8_findBends_153 (by omega) (sh_r123) (by omega) (by decide) ?_
          refine ss_goto 37 dX8_findBends_154 (by decide) ?_
          refine ss_sub [0, 4, 5] rfl ?_
          refine ss_eX xcn_s ?_
          exact ih (i + 1) (by omega) (fun j hj => by rcases Nat.lt_or_ge j i with h8 | h8; exact hinv j h8; rw [show j = i by omega]; omega)
        rw [Nat.sub_self] at h9
        exact h9
set_option maxHeartbeats 4000000 in
set_option maxRecDepth 100000 in
theorem m_findBends {c : cx} {d : Nat} {X : nX} {Y : nY} {w : Nat} (hw : w < 12) {n : Nat} (hn : n ≤ 10) (h6 : X 105 0 = nI n) : sc c mX8_findBends (d + 2) [.ref (c_ad c 105), .int (nI w)] (X) (Y) (some (.int (nI (bcn (rlv (Y 124) (vr Y w) n) n)))) (xcn X (tno (rlv (Y 124) (vr Y w) n) n) (bcn (rlv (Y 124) (vr Y w) n) n)) (srw Y 124 (rlv (Y 124) (vr Y w) n)) := by
  intro Q hQ
  show ss c mX8_findBends (d + 2) Q 0 [(0, .ref (c_ad c 105)), (1, .int (nI w))] [] (X) (Y)
  refine ss_iconst (v := nI 0) dX8_findBends_0 (by decide) ?_
  refine ss_istore_n (lv' := [(2, _), (0, _), (1, _)]) dX8_findBends_1 (by decide) rfl ?_
  refine ss_eY (Y' := mpl Y 124 0 0 (fun k => (lvo (vr Y w) k (2 ^ n)).2)) mpl_0.symm ?_
  refine l_fb1 hw hn h6 (fun k9 hk9 => ?_) (n + 1) 0 (by omega)
  refine ss_aload_n dX8_findBends_28 1 rfl ?_
  refine ss_get (i := 105) dX8_findBends_29 flX8_67 (by omega) (sh_r105 _ _) rfl ?_
  refine ss_iconst (v := nI 0) dX8_findBends_32 (by decide) ?_
  refine ss_iconst (v := nI 0) dX8_findBends_33 (by decide) ?_
  refine ss_iast (i := 123) dX8_findBends_34 (by omega) (sh_r123) (by omega) (by decide) ?_
  refine ss_iconst (v := nI 0) dX8_findBends_35 (by decide) ?_
  refine ss_istore_n (lv' := [(2, _), (0, _), (1, _)]) dX8_findBends_36 (by decide) rfl ?_
  rw [rlv_mpl]
  refine ss_eX (xcn_0 (t := tno (rlv (Y 124) (vr Y w) n) n) rfl) ?_
  have h9 := l_fb3 (X := X) (Y := srw Y 124 (rlv (Y 124) (vr Y w) n)) (c := c) (d := d) (Q := Q) (w := w) hn h6 (fun i h1 h2 h3 => by rw [srw_at] at h2 h3; rw [bcn_eq h1 h2 h3] at hQ; rw [srw_at]; exact hQ) n 0 (by omega) (fun j hj => by omega)
  rw [srw_at] at h9
  exact h9
set_option maxHeartbeats 4000000 in
set_option maxRecDepth 100000 in
theorem l_mfindCorner {c : cx} {d : Nat} {X : nX} {Y : nY} {Q : Option Value → nX → nY → Prop} {w : Nat} (hw : w < 12) {n : Nat} (hn : n ≤ 10) (h6 : X 105 0 = nI n) {r : Nat → Nat} (hr : ∀ k, k < n → X 117 k = nI (r k)) (hr2 : ∀ k, k < n → r k < 10) (hQ : Q none X (srw Y 125 (cor (vr Y w) r (Y 125) n))) : ∀ (nn i : Nat), i + nn = n → ss c mX8_findCorner (d + 1) Q 4 [(3, .int (nI i)), (2, .int (nI (ahd r i))), (0, .ref (c_ad c 105)), (1, .int (nI w))] [] (X) (srw Y 125 (cor (vr Y w) r (Y 125) i)) := by
  intro nn
  induction nn with
  | zero =>
      intro i hin
      simp only [Nat.add_zero] at hin
      subst hin
      refine ss_iload_n dX8_findCorner_4 0 rfl ?_
      refine ss_aload_n dX8_findCorner_5 2 rfl ?_
      refine ss_get (i := 105) dX8_findCorner_6 flX8_80 (by omega) (sh_r105 _ _) rfl ?_
      rw [h6]
      refine sz_icmp_ge 58 dX8_findCorner_9 (by decide) (by omega) (by omega) (fun c9 => ?_) (fun c9 => by omega)
      exact ss_vret dX8_findCorner_58 rfl (hQ)
  | succ nn ih =>
      intro i hin
      refine ss_iload_n dX8_findCorner_4 0 rfl ?_
      refine ss_aload_n dX8_findCorner_5 2 rfl ?_
      refine ss_get (i := 105) dX8_findCorner_6 flX8_80 (by omega) (sh_r105 _ _) rfl ?_
      rw [h6]
      refine sz_icmp_ge 58 dX8_findCorner_9 (by decide) (by omega) (by omega) (fun c9 => by omega) (fun c9 => ?_)
      refine ss_aload_n dX8_findCorner_12 2 rfl ?_
      refine ss_get (i := 105) dX8_findCorner_13 flX8_45 (by omega) (sh_r105 _ _) rfl ?_
      refine ss_iload_n dX8_findCorner_16 0 rfl ?_
      refine ss_iald (i := 117) dX8_findCorner_17 (by omega) (sh_r117) (by omega) (by decide) ?_
      rw [hr i (by omega)]
      refine ss_istore (lv' := [(4, _), (3, _), (2, _), (0, _), (1, _)]) dX8_findCorner_18 (by decide) rfl ?_
      refine ss_aload_n dX8_findCorner_20 3 rfl ?_
      refine ss_get (i := 105) dX8_findCorner_21 flX8_73 (by omega) (sh_r105 _ _) rfl ?_
      refine ss_iload dX8_findCorner_24 0 rfl ?_
      refine ss_aload_n dX8_findCorner_26 3 rfl ?_
      refine ss_iload_n dX8_findCorner_27 4 rfl ?_
      refine ss_iload_n dX8_findCorner_28 2 rfl ?_
      refine ss_iconst (v := nI 1) dX8_findCorner_29 (by decide) ?_
      refine ss_iload dX8_findCorner_30 0 rfl ?_
      refine sz_shl1 dX8_findCorner_32 (by have := hr2 i (by omega); omega) ?_
      refine sz_ior dX8_findCorner_33 ?_
      refine ss_callV (As := [_, _]) (i := 105) dX8_findCorner_34 vlX8_205 clX8_v rfl rfl (by omega) (sh_r105 _ _) rfl (Nat.le_of_ble_eq_true rfl) (Nat.le_of_ble_eq_true rfl) (m_v hw (xb_or10 (by have := ahd_lt (m := 10) hr2 i (by omega); omega) (xb_p10 (hr2 i (by omega))))) ?_
      refine ss_aload_n dX8_findCorner_37 3 rfl ?_
      refine ss_iload_n dX8_findCorner_38 4 rfl ?_
      refine ss_iload_n dX8_findCorner_39 2 rfl ?_
      refine ss_callV (As := [_, _]) (i := 105) dX8_findCorner_40 vlX8_205 clX8_v rfl rfl (by omega) (sh_r105 _ _) rfl (Nat.le_of_ble_eq_true rfl) (Nat.le_of_ble_eq_true rfl) (m_v hw (by have := ahd_lt (m := 10) hr2 i (by omega); omega)) ?_
      rw [vr_srw (by omega)]
      refine ss_lsub dX8_findCorner_43 ?_
      refine ss_last (i := 125) dX8_findCorner_44 (by omega) (sh_r125) (hr2 i (by omega)) (by decide) ?_
      refine ss_iload_n dX8_findCorner_45 2 rfl ?_
      refine ss_iconst (v := nI 1) dX8_findCorner_46 (by decide) ?_
      refine ss_iload dX8_findCorner_47 0 rfl ?_
      refine sz_shl1 dX8_findCorner_49 (by have := hr2 i (by omega); omega) ?_
      refine sz_ior dX8_findCorner_50 ?_
      refine ss_istore_n (lv' := [(2, _), (4, _), (3, _), (0, _), (1, _)]) dX8_findCorner_51 (by decide) rfl ?_
      refine sz_inc (lv' := [(3, _), (2, _), (4, _), (0, _), (1, _)]) dX8_findCorner_52 2 rfl (by decide) rfl ?_
      refine ss_goto 4 dX8_findCorner_55 (by decide) ?_
      refine ss_sub [0, 1, 3, 4] rfl ?_
      refine ss_eY srw_up ?_
      exact ih (i + 1) (by omega)
set_option maxHeartbeats 4000000 in
set_option maxRecDepth 100000 in
theorem m_findCorner {c : cx} {d : Nat} {X : nX} {Y : nY} {w : Nat} (hw : w < 12) {n : Nat} (hn : n ≤ 10) (h6 : X 105 0 = nI n) {r : Nat → Nat} (hr : ∀ k, k < n → X 117 k = nI (r k)) (hr2 : ∀ k, k < n → r k < 10) : sc c mX8_findCorner (d + 1) [.ref (c_ad c 105), .int (nI w)] (X) (Y) none (X) (srw Y 125 (cor (vr Y w) r (Y 125) n)) := by
  intro Q hQ
  show ss c mX8_findCorner (d + 1) Q 0 [(0, .ref (c_ad c 105)), (1, .int (nI w))] [] (X) (Y)
  refine ss_iconst (v := nI 0) dX8_findCorner_0 (by decide) ?_
  refine ss_istore_n (lv' := [(2, _), (0, _), (1, _)]) dX8_findCorner_1 (by decide) rfl ?_
  refine ss_iconst (v := nI 0) dX8_findCorner_2 (by decide) ?_
  refine ss_istore_n (lv' := [(3, _), (2, _), (0, _), (1, _)]) dX8_findCorner_3 (by decide) rfl ?_
  have h9 := l_mfindCorner (X := X) (Y := Y) (c := c) (d := d) hw hn h6 hr hr2 hQ n 0 (by omega)
  rw [show cor (vr Y w) r (Y 125) 0 = Y 125 from rfl, srw_self] at h9
  exact h9
set_option maxHeartbeats 4000000 in
set_option maxRecDepth 100000 in
theorem l_fresh1 {c : cx} {d : Nat} {X : nX} {Y : nY} {Q : Option Value → nX → nY → Prop} {w : Nat} (hw : w < 12) {k : Int32} (hQ : ss c mX8_fresh d Q 54 [(3, .int (nI 1024)), (2, .int (nI w)), (0, .ref (c_ad c 105)), (1, .int k)] [] (X) (mpl Y 108 (1024 * w) (1024 * w + 1024) (fun _ => 0))) : ∀ (nn i : Nat), i + nn = 1024 → ss c mX8_fresh d Q 28 [(3, .int (nI i)), (2, .int (nI w)), (0, .ref (c_ad c 105)), (1, .int k)] [] (X) (mpl Y 108 (1024 * w) (1024 * w + i) (fun _ => 0)) := by
  intro nn
  induction nn with
  | zero =>
      intro i hin
      simp only [Nat.add_zero] at hin
      subst hin
      refine ss_iload_n dX8_fresh_28 0 rfl ?_
      refine ss_sipush (v := nI 1024) dX8_fresh_29 (by decide) ?_
      refine sz_icmp_ge 54 dX8_fresh_32 (by decide) (by omega) (by omega) (fun c32 => ?_) (fun c32 => by omega)
      exact hQ
  | succ nn ih =>
      intro i hin
      refine ss_iload_n dX8_fresh_28 0 rfl ?_
      refine ss_sipush (v := nI 1024) dX8_fresh_29 (by decide) ?_
      refine sz_icmp_ge 54 dX8_fresh_32 (by decide) (by omega) (by omega) (fun c32 => by omega) (fun c32 => ?_)
      refine ss_aload_n dX8_fresh_35 2 rfl ?_
      refine ss_get (i := 105) dX8_fresh_36 flX8_17 (by omega) (sh_r105 _ _) rfl ?_
      refine ss_sipush (v := nI 1024) dX8_fresh_39 (by decide) ?_
      refine ss_iload_n dX8_fresh_42 1 rfl ?_
      refine sz_imul dX8_fresh_43 ?_
      refine ss_iload_n dX8_fresh_44 0 rfl ?_
      refine sz_iadd dX8_fresh_45 ?_
      refine ss_lconst (v := 0) dX8_fresh_46 (by decide) ?_
      refine ss_last (i := 108) dX8_fresh_47 (by omega) (sh_r108) (by omega) (by decide) ?_
      refine sz_inc (lv' := [(3, _), (2, _), (0, _), (1, _)]) dX8_fresh_48 0 rfl (by decide) rfl ?_
      refine ss_goto 28 dX8_fresh_51 (by decide) ?_
      refine ss_eY (mpl_s (by omega) rfl) ?_
      exact ih (i + 1) (by omega)
set_option maxHeartbeats 4000000 in
set_option maxRecDepth 100000 in
theorem l_fresh2 {c : cx} {d : Nat} {X : nX} {Y : nY} {Q : Option Value → nX → nY → Prop} {w : Nat} (hw : w < 12) {k : Int32} (hQ : ss c mX8_fresh d Q 80 [(3, .int (nI 40)), (2, .int (nI w)), (0, .ref (c_ad c 105)), (1, .int k)] [] (mpx X 113 (40 * w) (40 * w + 40) (fun _ => nI 0)) (Y)) : ∀ (nn i : Nat), i + nn = 40 → ss c mX8_fresh d Q 56 [(3, .int (nI i)), (2, .int (nI w)), (0, .ref (c_ad c 105)), (1, .int k)] [] (mpx X 113 (40 * w) (40 * w + i) (fun _ => nI 0)) (Y) := by
  intro nn
  induction nn with
  | zero =>
      intro i hin
      simp only [Nat.add_zero] at hin
      subst hin
      refine ss_iload_n dX8_fresh_56 0 rfl ?_
      refine ss_bipush (v := nI 40) dX8_fresh_57 (by decide) ?_
      refine sz_icmp_ge 80 dX8_fresh_59 (by decide) (by omega) (by omega) (fun c59 => ?_) (fun c59 => by omega)
      exact hQ
  | succ nn ih =>
      intro i hin
      refine ss_iload_n dX8_fresh_56 0 rfl ?_
      refine ss_bipush (v := nI 40) dX8_fresh_57 (by decide) ?_
      refine sz_icmp_ge 80 dX8_fresh_59 (by decide) (by omega) (by omega) (fun c59 => by omega) (fun c59 => ?_)
      refine ss_aload_n dX8_fresh_62 2 rfl ?_
      refine ss_get (i := 105) dX8_fresh_63 flX8_33 (by omega) (sh_r105 _ _) rfl ?_
      refine ss_bipush (v := nI 40) dX8_fresh_66 (by decide) ?_
      refine ss_iload_n dX8_fresh_68 1 rfl ?_
      refine sz_imul dX8_fresh_69 ?_
      refine ss_iload_n dX8_fresh_70 0 rfl ?_
      refine sz_iadd dX8_fresh_71 ?_
      refine ss_iconst (v := nI 0) dX8_fresh_72 (by decide) ?_
      refine ss_iast (i := 113) dX8_fresh_73 (by omega) (sh_r113) (by omega) (by decide) ?_
      refine sz_inc (lv' := [(3, _), (2, _), (0, _), (1, _)]) dX8_fresh_74 0 rfl (by decide) rfl ?_
      refine ss_goto 56 dX8_fresh_77 (by decide) ?_
      refine ss_eX (mpx_s (by omega) rfl) ?_
      exact ih (i + 1) (by omega)
set_option maxHeartbeats 4000000 in
set_option maxRecDepth 100000 in
theorem l_fresh3 {c : cx} {d : Nat} {X : nX} {Y : nY} {Q : Option Value → nX → nY → Prop} {w : Nat} (hw : w < 12) {k : Int32} (hQ : ss c mX8_fresh d Q 106 [(3, .int (nI 10)), (2, .int (nI w)), (0, .ref (c_ad c 105)), (1, .int k)] [] (mpx X 114 (10 * w) (10 * w + 10) (fun _ => nI 0)) (Y)) : ∀ (nn i : Nat), i + nn = 10 → ss c mX8_fresh d Q 82 [(3, .int (nI i)), (2, .int (nI w)), (0, .ref (c_ad c 105)), (1, .int k)] [] (mpx X 114 (10 * w) (10 * w + i) (fun _ => nI 0)) (Y) := by
  intro nn
  induction nn with
  | zero =>
      intro i hin
      simp only [Nat.add_zero] at hin
      subst hin
      refine ss_iload_n dX8_fresh_82 0 rfl ?_
      refine ss_bipush (v := nI 10) dX8_fresh_83 (by decide) ?_
      refine sz_icmp_ge 106 dX8_fresh_85 (by decide) (by omega) (by omega) (fun c85 => ?_) (fun c85 => by omega)
      exact hQ
  | succ nn ih =>
      intro i hin
      refine ss_iload_n dX8_fresh_82 0 rfl ?_
      refine ss_bipush (v := nI 10) dX8_fresh_83 (by decide) ?_
      refine sz_icmp_ge 106 dX8_fresh_85 (by decide) (by omega) (by omega) (fun c85 => by omega) (fun c85 => ?_)
      refine ss_aload_n dX8_fresh_88 2 rfl ?_
      refine ss_get (i := 105) dX8_fresh_89 flX8_36 (by omega) (sh_r105 _ _) rfl ?_
      refine ss_bipush (v := nI 10) dX8_fresh_92 (by decide) ?_
      refine ss_iload_n dX8_fresh_94 1 rfl ?_
      refine sz_imul dX8_fresh_95 ?_
      refine ss_iload_n dX8_fresh_96 0 rfl ?_
      refine sz_iadd dX8_fresh_97 ?_
      refine ss_iconst (v := nI 0) dX8_fresh_98 (by decide) ?_
      refine ss_iast (i := 114) dX8_fresh_99 (by omega) (sh_r114) (by omega) (by decide) ?_
      refine sz_inc (lv' := [(3, _), (2, _), (0, _), (1, _)]) dX8_fresh_100 0 rfl (by decide) rfl ?_
      refine ss_goto 82 dX8_fresh_103 (by decide) ?_
      refine ss_eX (mpx_s (by omega) rfl) ?_
      exact ih (i + 1) (by omega)
def x_fr (X : nX) (w : Nat) (k : Int32) : nX := up2 (mpx (mpx (up2 (up2 (up2 X 106 w k) 107 w (nI 0)) 109 w (nI 0)) 113 (40 * w) (40 * w + 40) (fun _ => nI 0)) 114 (10 * w) (10 * w + 10) (fun _ => nI 0)) 105 1 (nI (w + 1))
def y_fr (Y : nY) (w : Nat) : nY := mpl Y 108 (1024 * w) (1024 * w + 1024) (fun _ => 0)
set_option maxHeartbeats 4000000 in
set_option maxRecDepth 100000 in
theorem m_fresh {c : cx} {d : Nat} {X : nX} {Y : nY} {w : Nat} (hw : w < 12) (h7 : X 105 1 = nI w) {k : Int32} : sc c mX8_fresh d [.ref (c_ad c 105), .int k] (X) (Y) (some (.int (nI w))) (x_fr X w k) (y_fr Y w) := by
  intro Q hQ
  show ss c mX8_fresh d Q 0 [(0, .ref (c_ad c 105)), (1, .int k)] [] (X) (Y)
  refine ss_aload_n dX8_fresh_0 0 rfl ?_
  refine ss_get (i := 105) dX8_fresh_1 flX8_84 (by omega) (sh_r105 _ _) rfl ?_
  rw [h7]
  refine ss_istore_n (lv' := [(2, _), (0, _), (1, _)]) dX8_fresh_4 (by decide) rfl ?_
  refine ss_aload_n dX8_fresh_5 1 rfl ?_
  refine ss_get (i := 105) dX8_fresh_6 flX8_7 (by omega) (sh_r105 _ _) rfl ?_
  refine ss_iload_n dX8_fresh_9 0 rfl ?_
  refine ss_iload_n dX8_fresh_10 2 rfl ?_
  refine ss_iast (i := 106) dX8_fresh_11 (by omega) (sh_r106) (by omega) (by decide) ?_
  refine ss_aload_n dX8_fresh_12 1 rfl ?_
  refine ss_get (i := 105) dX8_fresh_13 flX8_13 (by omega) (sh_r105 _ _) rfl ?_
  refine ss_iload_n dX8_fresh_16 0 rfl ?_
  refine ss_iconst (v := nI 0) dX8_fresh_17 (by decide) ?_
  refine ss_zast (i := 107) dX8_fresh_18 (by omega) (sh_r107) (by omega) (by decide) rfl ?_
  refine ss_aload_n dX8_fresh_19 1 rfl ?_
  refine ss_get (i := 105) dX8_fresh_20 flX8_21 (by omega) (sh_r105 _ _) rfl ?_
  refine ss_iload_n dX8_fresh_23 0 rfl ?_
  refine ss_iconst (v := nI 0) dX8_fresh_24 (by decide) ?_
  refine ss_iast (i := 109) dX8_fresh_25 (by omega) (sh_r109) (by omega) (by decide) ?_
  refine ss_iconst (v := nI 0) dX8_fresh_26 (by decide) ?_
  refine ss_istore_n (lv' := [(3, _), (2, _), (0, _), (1, _)]) dX8_fresh_27 (by decide) rfl ?_
  refine ss_eY (Y' := mpl Y 108 (1024 * w) (1024 * w + 0) (fun _ => 0)) mpl_0.symm ?_
  refine l_fresh1 hw ?_ 1024 0 (by omega)
  refine ss_iconst (v := nI 0) dX8_fresh_54 (by decide) ?_
  refine ss_istore_n (lv' := [(3, _), (2, _), (0, _), (1, _)]) dX8_fresh_55 (by decide) rfl ?_
  refine ss_eX (X' := mpx (up2 (up2 (up2 X 106 w k) 107 w (nI 0)) 109 w (nI 0)) 113 (40 * w) (40 * w + 0) (fun _ => nI 0)) mpx_0.symm ?_
  refine l_fresh2 hw ?_ 40 0 (by omega)
  refine ss_iconst (v := nI 0) dX8_fresh_80 (by decide) ?_
  refine ss_istore_n (lv' := [(3, _), (2, _), (0, _), (1, _)]) dX8_fresh_81 (by decide) rfl ?_
  refine ss_eX (X' := mpx (mpx (up2 (up2 (up2 X 106 w k) 107 w (nI 0)) 109 w (nI 0)) 113 (40 * w) (40 * w + 40) (fun _ => nI 0)) 114 (10 * w) (10 * w + 0) (fun _ => nI 0)) mpx_0.symm ?_
  refine l_fresh3 hw ?_ 10 0 (by omega)
  refine ss_aload_n dX8_fresh_106 2 rfl ?_
  refine ss_dup dX8_fresh_107 rfl ?_
  refine ss_get (i := 105) dX8_fresh_108 flX8_84 (by omega) (sh_r105 _ _) rfl ?_
  rw [show mpx (mpx _ _ _ _ _) _ _ _ _ 105 1 = nI w from by rw [mpx_ne (by omega), mpx_ne (by omega)]; simp [up2_at, h7]]
  refine ss_iconst (v := nI 1) dX8_fresh_111 (by decide) ?_
  refine sz_iadd dX8_fresh_112 ?_
  refine ss_put (i := 105) dX8_fresh_113 fwX8_84 (by omega) (sh_r105 _ _) rfl rfl (Nat.le_of_ble_eq_true rfl) (sh_r105 _ _) ?_
  refine ss_iload_n dX8_fresh_116 1 rfl ?_
  exact ss_iret dX8_fresh_117 rfl rfl (hQ)
