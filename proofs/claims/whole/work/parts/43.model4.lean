def p_plm (X : nX) (t : Int32) : Nat → Bool := fun k => decide (X 117 k = t)
set_option maxHeartbeats 1000000 in
set_option maxRecDepth 100000 in
theorem l_order0 {c : cx} {d : Nat} {X : nX} {Y : nY} {Q : Option Value → nX → nY → Prop} {t : Int32} {b q : Nat} (hb0 : b < 10) (hfb : X 117 b = t) (hlt : ∀ j, j < b → ¬ X 117 j = t) (hQ : ss c mX8_order (d + 1) Q 50 [(3, .int (nI b)), (0, .ref (c_ad c 105)), (1, .int t), (2, .int (nI q))] [] X Y) : ∀ (nn i : Nat), i + nn = b → ss c mX8_order (d + 1) Q 34 [(3, .int (nI i)), (0, .ref (c_ad c 105)), (1, .int t), (2, .int (nI q))] [] (X) (Y) := by
  intro nn
  induction nn with
  | zero =>
      intro i hin
      simp only [Nat.add_zero] at hin
      subst hin
      refine ss_aload_n dX8_order_34 1 rfl ?_
      refine ss_get (i := 105) dX8_order_35 flX8_45 (by omega) (sh_r105 _ _) rfl ?_
      refine ss_iload_n dX8_order_38 0 rfl ?_
      refine ss_iald (i := 117) dX8_order_39 (by omega) (sh_r117) (by omega) (by decide) ?_
      refine ss_iload_n dX8_order_40 2 rfl ?_
      refine ss_icmp_eq 50 dX8_order_41 (by decide) (fun c41 => ?_) (fun c41 => absurd hfb c41)
      exact hQ
  | succ nn ih =>
      intro i hin
      refine ss_aload_n dX8_order_34 1 rfl ?_
      refine ss_get (i := 105) dX8_order_35 flX8_45 (by omega) (sh_r105 _ _) rfl ?_
      refine ss_iload_n dX8_order_38 0 rfl ?_
      refine ss_iald (i := 117) dX8_order_39 (by omega) (sh_r117) (by omega) (by decide) ?_
      refine ss_iload_n dX8_order_40 2 rfl ?_
      refine ss_icmp_eq 50 dX8_order_41 (by decide) (fun c41 => absurd c41 (hlt i (by omega))) (fun c41 => ?_)
      refine sz_inc (lv' := [(3, _), (0, _), (1, _), (2, _)]) dX8_order_44 0 rfl (by decide) rfl ?_
      refine ss_goto 34 dX8_order_47 (by decide) ?_
      exact ih (i + 1) (by omega)
set_option maxHeartbeats 1000000 in
set_option maxRecDepth 100000 in
theorem l_order1 {c : cx} {d : Nat} {X : nX} {Y : nY} {Q : Option Value → nX → nY → Prop} {t : Int32} {b q : Nat} (hb0 : b < 10) (hq : q < 10) (hQ : ∀ k : Nat, ss c mX8_order (d + 1) Q 81 [(4, .int (nI k)), (3, .int (nI b)), (0, .ref (c_ad c 105)), (1, .int t), (2, .int (nI q))] [] (mpx X 117 b q (fun k => X 117 (k + 1))) Y) : ∀ (nn i : Nat), i + nn = q → (b ≤ i) → ss c mX8_order (d + 1) Q 53 [(4, .int (nI i)), (3, .int (nI b)), (0, .ref (c_ad c 105)), (1, .int t), (2, .int (nI q))] [] (mpx X 117 b i (fun k => X 117 (k + 1))) (Y) := by
  intro nn
  induction nn with
  | zero =>
      intro i hin hinv
      simp only [Nat.add_zero] at hin
      subst hin
      refine ss_iload dX8_order_53 0 rfl ?_
      refine ss_iload_n dX8_order_55 4 rfl ?_
      refine sz_icmp_ge 81 dX8_order_56 (by decide) (by omega) (by omega) (fun c56 => ?_) (fun c56 => by omega)
      exact hQ i
  | succ nn ih =>
      intro i hin hinv
      refine ss_iload dX8_order_53 0 rfl ?_
      refine ss_iload_n dX8_order_55 4 rfl ?_
      refine sz_icmp_ge 81 dX8_order_56 (by decide) (by omega) (by omega) (fun c56 => by omega) (fun c56 => ?_)
      refine ss_aload_n dX8_order_59 2 rfl ?_
      refine ss_get (i := 105) dX8_order_60 flX8_45 (by omega) (sh_r105 _ _) rfl ?_
      refine ss_iload dX8_order_63 0 rfl ?_
      refine ss_aload_n dX8_order_65 2 rfl ?_
      refine ss_get (i := 105) dX8_order_66 flX8_45 (by omega) (sh_r105 _ _) rfl ?_
      refine ss_iload dX8_order_69 0 rfl ?_
      refine ss_iconst (v := nI 1) dX8_order_71 (by decide) ?_
      refine sz_iadd dX8_order_72 ?_
      refine ss_iald (i := 117) dX8_order_73 (by omega) (sh_r117) (by omega) (by decide) ?_
      rw [mpx_out (by omega)]
      refine ss_iast (i := 117) dX8_order_74 (by omega) (sh_r117) (by omega) (by decide) ?_
      refine sz_inc (lv' := [(4, _), (3, _), (0, _), (1, _), (2, _)]) dX8_order_75 0 rfl (by decide) rfl ?_
      refine ss_goto 53 dX8_order_78 (by decide) ?_
      refine ss_eX (mpx_s hinv rfl) ?_
      exact ih (i + 1) (by omega) (by omega)
set_option maxHeartbeats 1000000 in
set_option maxRecDepth 100000 in
theorem l_order1b {c : cx} {d : Nat} {X : nX} {Y : nY} {Q : Option Value → nX → nY → Prop} {t : Int32} {b q : Nat} (hb0 : b < 10) (hq : q < 10) (hqb : q ≤ b) (hQ : ∀ k : Nat, ss c mX8_order (d + 1) Q 81 [(4, .int (nI k)), (3, .int (nI b)), (0, .ref (c_ad c 105)), (1, .int t), (2, .int (nI q))] [] X Y) : ss c mX8_order (d + 1) Q 53 [(4, .int (nI b)), (3, .int (nI b)), (0, .ref (c_ad c 105)), (1, .int t), (2, .int (nI q))] [] X Y := by
  refine ss_iload dX8_order_53 0 rfl ?_
  refine ss_iload_n dX8_order_55 4 rfl ?_
  refine sz_icmp_ge 81 dX8_order_56 (by decide) (by omega) (by omega) (fun c56 => ?_) (fun c56 => by omega)
  exact hQ b
set_option maxHeartbeats 1000000 in
set_option maxRecDepth 100000 in
theorem l_order2 {c : cx} {d : Nat} {X : nX} {Y : nY} {Q : Option Value → nX → nY → Prop} {t : Int32} {b q : Nat} (hb0 : b < 10) (hq : q < 10) (hQ : ∀ k : Nat, ss c mX8_order (d + 1) Q 112 [(4, .int (nI k)), (3, .int (nI b)), (0, .ref (c_ad c 105)), (1, .int t), (2, .int (nI q))] [] (mpx X 117 (q + 1) (b + 1) (fun k => X 117 (k - 1))) Y) : ∀ e, q + e ≤ b → ss c mX8_order (d + 1) Q 84 [(4, .int (nI (q + e))), (3, .int (nI b)), (0, .ref (c_ad c 105)), (1, .int t), (2, .int (nI q))] [] (mpx X 117 (q + e + 1) (b + 1) (fun k => X 117 (k - 1))) Y := by
  intro e
  induction e with
  | zero =>
      intro he
      refine ss_iload dX8_order_84 0 rfl ?_
      refine ss_iload_n dX8_order_86 4 rfl ?_
      refine sz_icmp_le 112 dX8_order_87 (by decide) (by omega) (by omega) (fun c87 => ?_) (fun c87 => by omega)
      exact hQ _
  | succ e ih =>
      intro he
      refine ss_iload dX8_order_84 0 rfl ?_
      refine ss_iload_n dX8_order_86 4 rfl ?_
      refine sz_icmp_le 112 dX8_order_87 (by decide) (by omega) (by omega) (fun c87 => by omega) (fun c87 => ?_)
      refine ss_aload_n dX8_order_90 2 rfl ?_
      refine ss_get (i := 105) dX8_order_91 flX8_45 (by omega) (sh_r105 _ _) rfl ?_
      refine ss_iload dX8_order_94 0 rfl ?_
      refine ss_aload_n dX8_order_96 2 rfl ?_
      refine ss_get (i := 105) dX8_order_97 flX8_45 (by omega) (sh_r105 _ _) rfl ?_
      refine ss_iload dX8_order_100 0 rfl ?_
      refine ss_iconst (v := nI 1) dX8_order_102 (by decide) ?_
      refine sz_isub dX8_order_103 (by omega) ?_
      refine ss_iald (i := 117) dX8_order_104 (by omega) (sh_r117) (by omega) (by decide) ?_
      rw [mpx_out (by omega)]
      refine ss_iast (i := 117) dX8_order_105 (by omega) (sh_r117) (by omega) (by decide) ?_
      refine sz_dec (lv' := [(4, _), (3, _), (0, _), (1, _), (2, _)]) dX8_order_106 0 rfl (by omega) (by decide) rfl ?_
      refine ss_goto 84 dX8_order_109 (by decide) ?_
      refine ss_eX (mpx_d (by omega) rfl) ?_
      rw [show q + (e + 1) - 1 = q + e by omega]
      exact ih (by omega)
set_option maxHeartbeats 1000000 in
set_option maxRecDepth 100000 in
theorem l_order2b {c : cx} {d : Nat} {X : nX} {Y : nY} {Q : Option Value → nX → nY → Prop} {t : Int32} {b q : Nat} (hb0 : b < 10) (hq : q < 10) (hqb : b ≤ q) (hQ : ∀ k : Nat, ss c mX8_order (d + 1) Q 112 [(4, .int (nI k)), (3, .int (nI b)), (0, .ref (c_ad c 105)), (1, .int t), (2, .int (nI q))] [] X Y) : ss c mX8_order (d + 1) Q 84 [(4, .int (nI b)), (3, .int (nI b)), (0, .ref (c_ad c 105)), (1, .int t), (2, .int (nI q))] [] X Y := by
  refine ss_iload dX8_order_84 0 rfl ?_
  refine ss_iload_n dX8_order_86 4 rfl ?_
  refine sz_icmp_le 112 dX8_order_87 (by decide) (by omega) (by omega) (fun c87 => ?_) (fun c87 => by omega)
  exact hQ b
def ymv (X : nX) (b q : Nat) (t : Int32) : nX := fun a => if a = 117 then mrw (X 117) b q t else X a
theorem ymv_up {X : nX} {b q : Nat} {t : Int32} (h : b ≤ q) : up2 (mpx X 117 b q (fun k => X 117 (k + 1))) 117 q t = ymv X b q t := by
  funext a k
  rw [up2_at]
  unfold ymv mrw mpx
  by_cases h1 : a = 117
  · subst h1
    by_cases h2 : k = q
    · simp [h2]
    · simp only [h2, and_false, if_false, true_and, if_true]
      by_cases h3 : b ≤ k ∧ k < q
      · rw [if_pos h3, if_pos h3]
      · rw [if_neg h3, if_neg h3, if_neg (by omega)]
  · simp [h1]
theorem ymv_dn {X : nX} {b q : Nat} {t : Int32} (h : q ≤ b) : up2 (mpx X 117 (q + 1) (b + 1) (fun k => X 117 (k - 1))) 117 q t = ymv X b q t := by
  funext a k
  rw [up2_at]
  unfold ymv mrw mpx
  by_cases h1 : a = 117
  · subst h1
    by_cases h2 : k = q
    · simp [h2]
    · simp only [h2, and_false, if_false, true_and, if_true]
      rw [if_neg (show ¬ (b ≤ k ∧ k < q) by omega)]
      by_cases h3 : q < k ∧ k ≤ b
      · rw [if_pos (by omega), if_pos h3]
      · rw [if_neg (by omega), if_neg h3]
  · simp [h1]
set_option maxHeartbeats 1000000 in
set_option maxRecDepth 100000 in
theorem l_order {c : cx} {d : Nat} {X : nX} {Y : nY} {Q : Option Value → nX → nY → Prop} {t : Int32} {b q : Nat} (hb0 : b < 10) (hq : q < 10) (hQ : Q (some (.int (nI b))) (ymv X b q t) Y) : ss c mX8_order (d + 1) Q 53 [(4, .int (nI b)), (3, .int (nI b)), (0, .ref (c_ad c 105)), (1, .int t), (2, .int (nI q))] [] X Y := by
  rcases Nat.lt_or_ge b q with hbq | hbq
  · have h9 := l_order1 (X := X) (Y := Y) (c := c) (d := d) (Q := Q) (t := t) hb0 hq (fun k9 => ?k9) (q - b) b (by omega) (Nat.le_refl b)
    case k9 =>
      refine ss_iload_n dX8_order_81 1 rfl ?_
      refine ss_istore (lv' := [(4, _), (3, _), (0, _), (1, _), (2, _)]) dX8_order_82 (by decide) rfl ?_
      refine l_order2b (by omega) hq (by omega) (fun k8 => ?_)
      refine ss_aload_n dX8_order_112 2 rfl ?_
      refine ss_get (i := 105) dX8_order_113 flX8_45 (by omega) (sh_r105 _ _) rfl ?_
      refine ss_iload_n dX8_order_116 4 rfl ?_
      refine ss_iload_n dX8_order_117 3 rfl ?_
      refine ss_iast (i := 117) dX8_order_118 (by omega) (sh_r117) (by omega) (by decide) ?_
      refine ss_iload_n dX8_order_119 1 rfl ?_
      exact ss_iret dX8_order_120 rfl rfl (by rw [ymv_up (by omega)]; exact hQ)
    rw [mpx_0] at h9
    exact h9
  · refine l_order1b hb0 hq hbq (fun k9 => ?_)
    refine ss_iload_n dX8_order_81 1 rfl ?_
    refine ss_istore (lv' := [(4, _), (3, _), (0, _), (1, _), (2, _)]) dX8_order_82 (by decide) rfl ?_
    have h7 := l_order2 (X := X) (Y := Y) (c := c) (d := d) (Q := Q) (t := t) (b := b) (q := q) hb0 hq (fun k8 => ?k8) (b - q) (by omega)
    case k8 =>
      refine ss_aload_n dX8_order_112 2 rfl ?_
      refine ss_get (i := 105) dX8_order_113 flX8_45 (by omega) (sh_r105 _ _) rfl ?_
      refine ss_iload_n dX8_order_116 4 rfl ?_
      refine ss_iload_n dX8_order_117 3 rfl ?_
      refine ss_iast (i := 117) dX8_order_118 (by omega) (sh_r117) (by omega) (by decide) ?_
      refine ss_iload_n dX8_order_119 1 rfl ?_
      exact ss_iret dX8_order_120 rfl rfl (by rw [ymv_dn (by omega)]; exact hQ)
    rw [show q + (b - q) = b by omega, mpx_0] at h7
    exact h7
def lct (a b : Nat → Nat) (W : Nat → Int32) (s : Nat) : Nat → Int64
  | 0 => 0
  | k + 1 => lct a b W s k + (if hb s (a k) = true ∧ hb s (b k) = false then (W k).toInt64 else 0)
def lcv (W : Nat → Int32) (b : Nat → Nat) (s : Nat) : Nat → Int64
  | 0 => 0
  | k + 1 => lcv W b s k + (if b k &&& s = 0 then 0 else (W k).toInt64)
def lsq (W : Nat → Int32) (U : Nat → Int64) : Nat → Int64
  | 0 => 0
  | k + 1 => lsq W U k + (W k).toInt64 * U k
def lpr (W : Nat → Int32) (s : Nat) (b : Int64) : Nat → Int64
  | 0 => b
  | t + 1 => lpr W s b t + (if hb s t = true then (W t).toInt64 else 0)
set_option maxHeartbeats 1000000 in
set_option maxRecDepth 100000 in
theorem l_cut {c : cx} {d : Nat} {X : nX} {Y : nY} {Q : Option Value → nX → nY → Prop} {w : Nat} (hw : w < 12) {P : Nat} (hP : P ≤ 24) (hmy : X 109 w = nI P) {s : Nat} (hs : s < 1024) {a b : Nat → Nat} (ha : ∀ k, k < P → X 110 (24 * w + k) = nI (a k)) (hb0 : ∀ k, k < P → X 111 (24 * w + k) = nI (b k)) (ha2 : ∀ k, k < P → a k < 10) (hb2 : ∀ k, k < P → b k < 10) (hQ : Q (some (.long (lct a b (fun k => X 112 (24 * w + k)) s P))) X Y) : ∀ (nn i : Nat), i + nn = P → ss c mX8_cut d Q 5 [(5, .int (nI i)), (3, .long (lct a b (fun k => X 112 (24 * w + k)) s i)), (0, .ref (c_ad c 105)), (1, .int (nI w)), (2, .int (nI s))] [] (X) (Y) := by
  intro nn
  induction nn with
  | zero =>
      intro i hin
      simp only [Nat.add_zero] at hin
      subst hin
      refine ss_iload dX8_cut_5 0 rfl ?_
      refine ss_aload_n dX8_cut_7 2 rfl ?_
      refine ss_get (i := 105) dX8_cut_8 flX8_21 (by omega) (sh_r105 _ _) rfl ?_
      refine ss_iload_n dX8_cut_11 3 rfl ?_
      refine ss_iald (i := 109) dX8_cut_12 (by omega) (sh_r109) (by omega) (by decide) ?_
      rw [hmy]
      refine sz_icmp_ge 106 dX8_cut_13 (by decide) (by omega) (by omega) (fun c13 => ?_) (fun c13 => by omega)
      refine ss_lload_n dX8_cut_106 1 rfl ?_
      exact ss_lret dX8_cut_107 rfl (hQ)
  | succ nn ih =>
      intro i hin
      refine ss_iload dX8_cut_5 0 rfl ?_
      refine ss_aload_n dX8_cut_7 2 rfl ?_
      refine ss_get (i := 105) dX8_cut_8 flX8_21 (by omega) (sh_r105 _ _) rfl ?_
      refine ss_iload_n dX8_cut_11 3 rfl ?_
      refine ss_iald (i := 109) dX8_cut_12 (by omega) (sh_r109) (by omega) (by decide) ?_
      rw [hmy]
      refine sz_icmp_ge 106 dX8_cut_13 (by decide) (by omega) (by omega) (fun c13 => by omega) (fun c13 => ?_)
      refine ss_iload_n dX8_cut_16 4 rfl ?_
      refine ss_aload_n dX8_cut_17 2 rfl ?_
      refine ss_get (i := 105) dX8_cut_18 flX8_24 (by omega) (sh_r105 _ _) rfl ?_
      refine ss_bipush (v := nI 24) dX8_cut_21 (by decide) ?_
      refine ss_iload_n dX8_cut_23 3 rfl ?_
      refine sz_imul dX8_cut_24 ?_
      refine ss_iload dX8_cut_25 0 rfl ?_
      refine sz_iadd dX8_cut_27 ?_
      refine ss_iald (i := 110) dX8_cut_28 (by omega) (sh_r110) (by omega) (by decide) ?_
      rw [ha i (by omega)]
      refine sz_ishr dX8_cut_29 (by have := ha2 i (by omega); omega) (by omega) ?_
      refine ss_iconst (v := nI 1) dX8_cut_30 (by decide) ?_
      refine sz_iand dX8_cut_31 ?_
      refine ss_iconst (v := nI 1) dX8_cut_32 (by decide) ?_
      refine sz_icmp_ne 40 dX8_cut_33 (by decide) (by have := xb_bit s (a i); have := Bool.toNat_le (hb s (a i)); omega) (by decide) (fun c33 => ?_) (fun c33 => ?_)
      · skip
        refine ss_iconst (v := nI 0) dX8_cut_40 (by decide) ?_
        refine ss_istore (lv' := [(6, _), (5, _), (3, _), (0, _), (1, _), (2, _)]) dX8_cut_41 (by decide) rfl ?_
        refine ss_iload_n dX8_cut_43 5 rfl ?_
        refine ss_aload_n dX8_cut_44 3 rfl ?_
        refine ss_get (i := 105) dX8_cut_45 flX8_27 (by omega) (sh_r105 _ _) rfl ?_
        refine ss_bipush (v := nI 24) dX8_cut_48 (by decide) ?_
        refine ss_iload_n dX8_cut_50 4 rfl ?_
        refine sz_imul dX8_cut_51 ?_
        refine ss_iload dX8_cut_52 1 rfl ?_
        refine sz_iadd dX8_cut_54 ?_
        refine ss_iald (i := 111) dX8_cut_55 (by omega) (sh_r111) (by omega) (by decide) ?_
        rw [hb0 i (by omega)]
        refine sz_ishr dX8_cut_56 (by have := hb2 i (by omega); omega) (by omega) ?_
        refine ss_iconst (v := nI 1) dX8_cut_57 (by decide) ?_
        refine sz_iand dX8_cut_58 ?_
        refine ss_iconst (v := nI 1) dX8_cut_59 (by decide) ?_
        refine sz_icmp_ne 67 dX8_cut_60 (by decide) (by have := xb_bit s (b i); have := Bool.toNat_le (hb s (b i)); omega) (by decide) (fun c60 => ?_) (fun c60 => ?_)
        · skip
          refine ss_iconst (v := nI 0) dX8_cut_67 (by decide) ?_
          refine ss_istore (lv' := [(7, _), (6, _), (5, _), (3, _), (0, _), (1, _), (2, _)]) dX8_cut_68 (by decide) rfl ?_
          refine ss_lload_n dX8_cut_70 3 rfl ?_
          refine ss_iload dX8_cut_71 1 rfl ?_
          refine sz_if_eq 97 dX8_cut_73 (by decide) (by decide) (fun c73 => ?_) (fun c73 => absurd rfl c73)
          refine ss_lconst (v := 0) dX8_cut_97 (by decide) ?_
          refine ss_ladd dX8_cut_98 ?_
          refine ss_lstore_n (lv' := [(3, _), (7, _), (6, _), (5, _), (0, _), (1, _), (2, _)]) dX8_cut_99 (by decide) rfl ?_
          refine sz_inc (lv' := [(5, _), (3, _), (7, _), (6, _), (0, _), (1, _), (2, _)]) dX8_cut_100 3 rfl (by decide) rfl ?_
          refine ss_goto 5 dX8_cut_103 (by decide) ?_
          refine ss_sub [0, 1, 4, 5, 6] rfl ?_
          refine ss_eL (lv' := [(5, .int (nI (i + 1))), (3, .long (lct a b (fun k => X 112 (24 * w + k)) s (i + 1))), (0, .ref (c_ad c 105)), (1, .int (nI w)), (2, .int (nI s))]) (by show _ = [_, (3, Value.long (_ + if _ then _ else _)), _, _, _]; rw [if_neg (fun h9 => c33 ((xb_bit1 s _).mpr h9.1))] <;> rfl) ?_
          exact ih (i + 1) (by omega)
        · skip
          refine ss_iconst (v := nI 1) dX8_cut_63 (by decide) ?_
          refine ss_goto 68 dX8_cut_64 (by decide) ?_
          refine ss_istore (lv' := [(7, _), (6, _), (5, _), (3, _), (0, _), (1, _), (2, _)]) dX8_cut_68 (by decide) rfl ?_
          refine ss_lload_n dX8_cut_70 3 rfl ?_
          refine ss_iload dX8_cut_71 1 rfl ?_
          refine sz_if_eq 97 dX8_cut_73 (by decide) (by decide) (fun c73 => ?_) (fun c73 => absurd rfl c73)
          refine ss_lconst (v := 0) dX8_cut_97 (by decide) ?_
          refine ss_ladd dX8_cut_98 ?_
          refine ss_lstore_n (lv' := [(3, _), (7, _), (6, _), (5, _), (0, _), (1, _), (2, _)]) dX8_cut_99 (by decide) rfl ?_
          refine sz_inc (lv' := [(5, _), (3, _), (7, _), (6, _), (0, _), (1, _), (2, _)]) dX8_cut_100 3 rfl (by decide) rfl ?_
          refine ss_goto 5 dX8_cut_103 (by decide) ?_
          refine ss_sub [0, 1, 4, 5, 6] rfl ?_
          refine ss_eL (lv' := [(5, .int (nI (i + 1))), (3, .long (lct a b (fun k => X 112 (24 * w + k)) s (i + 1))), (0, .ref (c_ad c 105)), (1, .int (nI w)), (2, .int (nI s))]) (by show _ = [_, (3, Value.long (_ + if _ then _ else _)), _, _, _]; rw [if_neg (fun h9 => c33 ((xb_bit1 s _).mpr h9.1))] <;> rfl) ?_
          exact ih (i + 1) (by omega)
      · skip
        refine ss_iconst (v := nI 1) dX8_cut_36 (by decide) ?_
        refine ss_goto 41 dX8_cut_37 (by decide) ?_
        refine ss_istore (lv' := [(6, _), (5, _), (3, _), (0, _), (1, _), (2, _)]) dX8_cut_41 (by decide) rfl ?_
        refine ss_iload_n dX8_cut_43 5 rfl ?_
        refine ss_aload_n dX8_cut_44 3 rfl ?_
        refine ss_get (i := 105) dX8_cut_45 flX8_27 (by omega) (sh_r105 _ _) rfl ?_
        refine ss_bipush (v := nI 24) dX8_cut_48 (by decide) ?_
        refine ss_iload_n dX8_cut_50 4 rfl ?_
        refine sz_imul dX8_cut_51 ?_
        refine ss_iload dX8_cut_52 1 rfl ?_
        refine sz_iadd dX8_cut_54 ?_
        refine ss_iald (i := 111) dX8_cut_55 (by omega) (sh_r111) (by omega) (by decide) ?_
        rw [hb0 i (by omega)]
        refine sz_ishr dX8_cut_56 (by have := hb2 i (by omega); omega) (by omega) ?_
        refine ss_iconst (v := nI 1) dX8_cut_57 (by decide) ?_
        refine sz_iand dX8_cut_58 ?_
        refine ss_iconst (v := nI 1) dX8_cut_59 (by decide) ?_
        refine sz_icmp_ne 67 dX8_cut_60 (by decide) (by have := xb_bit s (b i); have := Bool.toNat_le (hb s (b i)); omega) (by decide) (fun c60 => ?_) (fun c60 => ?_)
        · skip
          refine ss_iconst (v := nI 0) dX8_cut_67 (by decide) ?_
          refine ss_istore (lv' := [(7, _), (6, _), (5, _), (3, _), (0, _), (1, _), (2, _)]) dX8_cut_68 (by decide) rfl ?_
          refine ss_lload_n dX8_cut_70 3 rfl ?_
          refine ss_iload dX8_cut_71 1 rfl ?_
          refine sz_if_eq 97 dX8_cut_73 (by decide) (by decide) (fun c73 => absurd c73 (by decide)) (fun c73 => ?_)
          refine ss_iload dX8_cut_76 0 rfl ?_
          refine sz_if_ne 97 dX8_cut_78 (by decide) (by decide) (fun c78 => absurd rfl c78) (fun c78 => ?_)
          refine ss_aload_n dX8_cut_81 4 rfl ?_
          refine ss_get (i := 105) dX8_cut_82 flX8_30 (by omega) (sh_r105 _ _) rfl ?_
          refine ss_bipush (v := nI 24) dX8_cut_85 (by decide) ?_
          refine ss_iload_n dX8_cut_87 5 rfl ?_
          refine sz_imul dX8_cut_88 ?_
          refine ss_iload dX8_cut_89 2 rfl ?_
          refine sz_iadd dX8_cut_91 ?_
          refine ss_iald (i := 112) dX8_cut_92 (by omega) (sh_r112) (by omega) (by decide) ?_
          refine ss_i2l dX8_cut_93 ?_
          refine ss_goto 98 dX8_cut_94 (by decide) ?_
          refine ss_ladd dX8_cut_98 ?_
          refine ss_lstore_n (lv' := [(3, _), (7, _), (6, _), (5, _), (0, _), (1, _), (2, _)]) dX8_cut_99 (by decide) rfl ?_
          refine sz_inc (lv' := [(5, _), (3, _), (7, _), (6, _), (0, _), (1, _), (2, _)]) dX8_cut_100 3 rfl (by decide) rfl ?_
          refine ss_goto 5 dX8_cut_103 (by decide) ?_
          refine ss_sub [0, 1, 4, 5, 6] rfl ?_
          refine ss_eL (lv' := [(5, .int (nI (i + 1))), (3, .long (lct a b (fun k => X 112 (24 * w + k)) s (i + 1))), (0, .ref (c_ad c 105)), (1, .int (nI w)), (2, .int (nI s))]) (by show _ = [_, (3, Value.long (_ + if _ then _ else _)), _, _, _]; rw [if_pos ⟨(xb_bit1 s _).mp c33, by cases h9 : hb s (b i) with | false => rfl | true => exact absurd ((xb_bit1 s _).mpr h9) c60⟩] <;> rfl) ?_
          exact ih (i + 1) (by omega)
        · skip
          refine ss_iconst (v := nI 1) dX8_cut_63 (by decide) ?_
          refine ss_goto 68 dX8_cut_64 (by decide) ?_
          refine ss_istore (lv' := [(7, _), (6, _), (5, _), (3, _), (0, _), (1, _), (2, _)]) dX8_cut_68 (by decide) rfl ?_
          refine ss_lload_n dX8_cut_70 3 rfl ?_
          refine ss_iload dX8_cut_71 1 rfl ?_
          refine sz_if_eq 97 dX8_cut_73 (by decide) (by decide) (fun c73 => absurd c73 (by decide)) (fun c73 => ?_)
          refine ss_iload dX8_cut_76 0 rfl ?_
          refine sz_if_ne 97 dX8_cut_78 (by decide) (by decide) (fun c78 => ?_) (fun c78 => absurd c78 (by decide))
          refine ss_lconst (v := 0) dX8_cut_97 (by decide) ?_
          refine ss_ladd dX8_cut_98 ?_
          refine ss_lstore_n (lv' := [(3, _), (7, _), (6, _), (5, _), (0, _), (1, _), (2, _)]) dX8_cut_99 (by decide) rfl ?_
          refine sz_inc (lv' := [(5, _), (3, _), (7, _), (6, _), (0, _), (1, _), (2, _)]) dX8_cut_100 3 rfl (by decide) rfl ?_
          refine ss_goto 5 dX8_cut_103 (by decide) ?_
          refine ss_sub [0, 1, 4, 5, 6] rfl ?_
          refine ss_eL (lv' := [(5, .int (nI (i + 1))), (3, .long (lct a b (fun k => X 112 (24 * w + k)) s (i + 1))), (0, .ref (c_ad c 105)), (1, .int (nI w)), (2, .int (nI s))]) (by show _ = [_, (3, Value.long (_ + if _ then _ else _)), _, _, _]; rw [if_neg (fun h9 => by rw [(xb_bit1 s _).mp c60] at h9; exact absurd h9.2 (by decide))] <;> rfl) ?_
          exact ih (i + 1) (by omega)
set_option maxHeartbeats 1000000 in
set_option maxRecDepth 100000 in
theorem m_cut {c : cx} {d : Nat} {X : nX} {Y : nY} {w : Nat} (hw : w < 12) {P : Nat} (hP : P ≤ 24) (hmy : X 109 w = nI P) {s : Nat} (hs : s < 1024) {a b : Nat → Nat} (ha : ∀ k, k < P → X 110 (24 * w + k) = nI (a k)) (hb0 : ∀ k, k < P → X 111 (24 * w + k) = nI (b k)) (ha2 : ∀ k, k < P → a k < 10) (hb2 : ∀ k, k < P → b k < 10) : sc c mX8_cut d [.ref (c_ad c 105), .int (nI w), .int (nI s)] (X) (Y) (some (.long (lct a b (fun k => X 112 (24 * w + k)) s P))) (X) (Y) := by
  intro Q hQ
  show ss c mX8_cut d Q 0 [(0, .ref (c_ad c 105)), (1, .int (nI w)), (2, .int (nI s))] [] (X) (Y)
  refine ss_lconst (v := 0) dX8_cut_0 (by decide) ?_
  refine ss_lstore_n (lv' := [(3, _), (0, _), (1, _), (2, _)]) dX8_cut_1 (by decide) rfl ?_
  refine ss_iconst (v := nI 0) dX8_cut_2 (by decide) ?_
  refine ss_istore (lv' := [(5, _), (3, _), (0, _), (1, _), (2, _)]) dX8_cut_3 (by decide) rfl ?_
  exact l_cut hw hP hmy hs ha hb0 ha2 hb2 hQ P 0 (by omega)
set_option maxHeartbeats 1000000 in
set_option maxRecDepth 100000 in
theorem l_cover {c : cx} {d : Nat} {X : nX} {Y : nY} {Q : Option Value → nX → nY → Prop} {w : Nat} (hw : w < 12) {P : Nat} (hP : P ≤ 24) (hmy : X 109 w = nI P) {s : Nat} (hs : s < 1024) {b : Nat → Nat} (hb0 : ∀ k, k < P → X 111 (24 * w + k) = nI (b k)) (hb2 : ∀ k, k < P → b k < 1024) (hQ : Q (some (.long (lcv (fun k => X 110 (24 * w + k)) b s P))) X Y) : ∀ (nn i : Nat), i + nn = P → ss c mX8_cover d Q 5 [(5, .int (nI i)), (3, .long (lcv (fun k => X 110 (24 * w + k)) b s i)), (0, .ref (c_ad c 105)), (1, .int (nI w)), (2, .int (nI s))] [] (X) (Y) := by
  intro nn
  induction nn with
  | zero =>
      intro i hin
      simp only [Nat.add_zero] at hin
      subst hin
      refine ss_iload dX8_cover_5 0 rfl ?_
      refine ss_aload_n dX8_cover_7 2 rfl ?_
      refine ss_get (i := 105) dX8_cover_8 flX8_21 (by omega) (sh_r105 _ _) rfl ?_
      refine ss_iload_n dX8_cover_11 3 rfl ?_
      refine ss_iald (i := 109) dX8_cover_12 (by omega) (sh_r109) (by omega) (by decide) ?_
      rw [hmy]
      refine sz_icmp_ge 59 dX8_cover_13 (by decide) (by omega) (by omega) (fun c13 => ?_) (fun c13 => by omega)
      refine ss_lload_n dX8_cover_59 1 rfl ?_
      exact ss_lret dX8_cover_60 rfl (hQ)
  | succ nn ih =>
      intro i hin
      refine ss_iload dX8_cover_5 0 rfl ?_
      refine ss_aload_n dX8_cover_7 2 rfl ?_
      refine ss_get (i := 105) dX8_cover_8 flX8_21 (by omega) (sh_r105 _ _) rfl ?_
      refine ss_iload_n dX8_cover_11 3 rfl ?_
      refine ss_iald (i := 109) dX8_cover_12 (by omega) (sh_r109) (by omega) (by decide) ?_
      rw [hmy]
      refine sz_icmp_ge 59 dX8_cover_13 (by decide) (by omega) (by omega) (fun c13 => by omega) (fun c13 => ?_)
      refine ss_lload_n dX8_cover_16 1 rfl ?_
      refine ss_aload_n dX8_cover_17 2 rfl ?_
      refine ss_get (i := 105) dX8_cover_18 flX8_27 (by omega) (sh_r105 _ _) rfl ?_
      refine ss_bipush (v := nI 24) dX8_cover_21 (by decide) ?_
      refine ss_iload_n dX8_cover_23 3 rfl ?_
      refine sz_imul dX8_cover_24 ?_
      refine ss_iload dX8_cover_25 0 rfl ?_
      refine sz_iadd dX8_cover_27 ?_
      refine ss_iald (i := 111) dX8_cover_28 (by omega) (sh_r111) (by omega) (by decide) ?_
      rw [hb0 i (by omega)]
      refine ss_iload_n dX8_cover_29 4 rfl ?_
      refine sz_iand dX8_cover_30 ?_
      refine sz_if_eq 50 dX8_cover_31 (by decide) (by have := xb_and10 (t := s) (hb2 i (by omega)); omega) (fun c31 => ?_) (fun c31 => ?_)
      · skip
        refine ss_lconst (v := 0) dX8_cover_50 (by decide) ?_
        refine ss_ladd dX8_cover_51 ?_
        refine ss_lstore_n (lv' := [(3, _), (5, _), (0, _), (1, _), (2, _)]) dX8_cover_52 (by decide) rfl ?_
        refine sz_inc (lv' := [(5, _), (3, _), (0, _), (1, _), (2, _)]) dX8_cover_53 1 rfl (by decide) rfl ?_
        refine ss_goto 5 dX8_cover_56 (by decide) ?_
        refine ss_eL (lv' := [(5, .int (nI (i + 1))), (3, .long (lcv (fun k => X 110 (24 * w + k)) b s (i + 1))), (0, .ref (c_ad c 105)), (1, .int (nI w)), (2, .int (nI s))]) (by show _ = [_, (3, Value.long (_ + if _ then _ else _)), _, _, _]; rw [if_pos c31] <;> rfl) ?_
        exact ih (i + 1) (by omega)
      · skip
        refine ss_aload_n dX8_cover_34 2 rfl ?_
        refine ss_get (i := 105) dX8_cover_35 flX8_24 (by omega) (sh_r105 _ _) rfl ?_
        refine ss_bipush (v := nI 24) dX8_cover_38 (by decide) ?_
        refine ss_iload_n dX8_cover_40 3 rfl ?_
        refine sz_imul dX8_cover_41 ?_
        refine ss_iload dX8_cover_42 0 rfl ?_
        refine sz_iadd dX8_cover_44 ?_
        refine ss_iald (i := 110) dX8_cover_45 (by omega) (sh_r110) (by omega) (by decide) ?_
        refine ss_i2l dX8_cover_46 ?_
        refine ss_goto 51 dX8_cover_47 (by decide) ?_
        refine ss_ladd dX8_cover_51 ?_
        refine ss_lstore_n (lv' := [(3, _), (5, _), (0, _), (1, _), (2, _)]) dX8_cover_52 (by decide) rfl ?_
        refine sz_inc (lv' := [(5, _), (3, _), (0, _), (1, _), (2, _)]) dX8_cover_53 1 rfl (by decide) rfl ?_
        refine ss_goto 5 dX8_cover_56 (by decide) ?_
        refine ss_eL (lv' := [(5, .int (nI (i + 1))), (3, .long (lcv (fun k => X 110 (24 * w + k)) b s (i + 1))), (0, .ref (c_ad c 105)), (1, .int (nI w)), (2, .int (nI s))]) (by show _ = [_, (3, Value.long (_ + if _ then _ else _)), _, _, _]; rw [if_neg c31] <;> rfl) ?_
        exact ih (i + 1) (by omega)
set_option maxHeartbeats 1000000 in
set_option maxRecDepth 100000 in
theorem m_cover {c : cx} {d : Nat} {X : nX} {Y : nY} {w : Nat} (hw : w < 12) {P : Nat} (hP : P ≤ 24) (hmy : X 109 w = nI P) {s : Nat} (hs : s < 1024) {b : Nat → Nat} (hb0 : ∀ k, k < P → X 111 (24 * w + k) = nI (b k)) (hb2 : ∀ k, k < P → b k < 1024) : sc c mX8_cover d [.ref (c_ad c 105), .int (nI w), .int (nI s)] (X) (Y) (some (.long (lcv (fun k => X 110 (24 * w + k)) b s P))) (X) (Y) := by
  intro Q hQ
  show ss c mX8_cover d Q 0 [(0, .ref (c_ad c 105)), (1, .int (nI w)), (2, .int (nI s))] [] (X) (Y)
  refine ss_lconst (v := 0) dX8_cover_0 (by decide) ?_
  refine ss_lstore_n (lv' := [(3, _), (0, _), (1, _), (2, _)]) dX8_cover_1 (by decide) rfl ?_
  refine ss_iconst (v := nI 0) dX8_cover_2 (by decide) ?_
  refine ss_istore (lv' := [(5, _), (3, _), (0, _), (1, _), (2, _)]) dX8_cover_3 (by decide) rfl ?_
  exact l_cover hw hP hmy hs hb0 hb2 hQ P 0 (by omega)
theorem lsr_s (R : Nat → Int32) (k : Nat) : lsr R (k + 1) = lsr R k + (R k).toInt64 := rfl
theorem nI_gt0 {P : Nat} (h : 1 ≤ P) (h2 : P < 2 ^ 31) : ¬ nI P ≤ 0 := by
  rw [Int32.le_iff_toInt_le, nI_toInt h2, show (0 : Int32).toInt = 0 from rfl]
  omega
set_option maxHeartbeats 1000000 in
set_option maxRecDepth 100000 in
theorem l_bent {c : cx} {d : Nat} {X : nX} {Y : nY} {Q : Option Value → nX → nY → Prop} {w : Nat} (hw : w < 12) {P : Nat} (hP : P ≤ 24) (hmy : X 109 w = nI P) (hP1 : 1 ≤ P) {W : Nat → Int32} (hW1 : ∀ k, k < P → W k = X 110 (24 * w + k)) (hW2 : ∀ k, P ≤ k → W k = X 110 (24 * w + (P - 1))) {s m : Nat} (hm : m ≤ 10) (hQ : Q (some (.long (lsr W m))) X Y) : ∀ (nn i : Nat), i + nn = m → ss c mX8_bent d Q 11 [(6, .int (nI i)), (5, .int (nI m)), (3, .long (lsr W i)), (0, .ref (c_ad c 105)), (1, .int (nI w)), (2, .int (nI s))] [] (X) (Y) := by
  intro nn
  induction nn with
  | zero =>
      intro i hin
      simp only [Nat.add_zero] at hin
      subst hin
      refine ss_iload dX8_bent_11 0 rfl ?_
      refine ss_iload dX8_bent_13 1 rfl ?_
      refine sz_icmp_ge 71 dX8_bent_15 (by decide) (by omega) (by omega) (fun c15 => ?_) (fun c15 => by omega)
      refine ss_lload_n dX8_bent_71 2 rfl ?_
      exact ss_lret dX8_bent_72 rfl (hQ)
  | succ nn ih =>
      intro i hin
      refine ss_iload dX8_bent_11 0 rfl ?_
      refine ss_iload dX8_bent_13 1 rfl ?_
      refine sz_icmp_ge 71 dX8_bent_15 (by decide) (by omega) (by omega) (fun c15 => by omega) (fun c15 => ?_)
      refine ss_aload_n dX8_bent_18 3 rfl ?_
      refine ss_get (i := 105) dX8_bent_19 flX8_21 (by omega) (sh_r105 _ _) rfl ?_
      refine ss_iload_n dX8_bent_22 4 rfl ?_
      refine ss_iald (i := 109) dX8_bent_23 (by omega) (sh_r109) (by omega) (by decide) ?_
      rw [hmy]
      refine ss_if_le 71 dX8_bent_24 (by decide) (fun c24 => absurd c24 (nI_gt0 hP1 (by omega))) (fun c24 => ?_)
      refine ss_lload_n dX8_bent_27 2 rfl ?_
      refine ss_aload_n dX8_bent_28 3 rfl ?_
      refine ss_get (i := 105) dX8_bent_29 flX8_24 (by omega) (sh_r105 _ _) rfl ?_
      refine ss_bipush (v := nI 24) dX8_bent_32 (by decide) ?_
      refine ss_iload_n dX8_bent_34 4 rfl ?_
      refine sz_imul dX8_bent_35 ?_
      refine ss_iload dX8_bent_36 0 rfl ?_
      refine ss_aload_n dX8_bent_38 3 rfl ?_
      refine ss_get (i := 105) dX8_bent_39 flX8_21 (by omega) (sh_r105 _ _) rfl ?_
      refine ss_iload_n dX8_bent_42 4 rfl ?_
      refine ss_iald (i := 109) dX8_bent_43 (by omega) (sh_r109) (by omega) (by decide) ?_
      rw [hmy]
      refine sz_icmp_ge 52 dX8_bent_44 (by decide) (by omega) (by omega) (fun c44 => ?_) (fun c44 => ?_)
      · skip
        refine ss_aload_n dX8_bent_52 3 rfl ?_
        refine ss_get (i := 105) dX8_bent_53 flX8_21 (by omega) (sh_r105 _ _) rfl ?_
        refine ss_iload_n dX8_bent_56 4 rfl ?_
        refine ss_iald (i := 109) dX8_bent_57 (by omega) (sh_r109) (by omega) (by decide) ?_
        rw [hmy]
        refine ss_iconst (v := nI 1) dX8_bent_58 (by decide) ?_
        refine sz_isub dX8_bent_59 (by omega) ?_
        refine sz_iadd dX8_bent_60 ?_
        refine ss_iald (i := 110) dX8_bent_61 (by omega) (sh_r110) (by first | omega | (have := hP; omega)) (by decide) ?_
        refine ss_i2l dX8_bent_62 ?_
        refine ss_ladd dX8_bent_63 ?_
        refine ss_lstore_n (lv' := [(3, _), (6, _), (5, _), (0, _), (1, _), (2, _)]) dX8_bent_64 (by decide) rfl ?_
        refine sz_inc (lv' := [(6, _), (3, _), (5, _), (0, _), (1, _), (2, _)]) dX8_bent_65 1 rfl (by decide) rfl ?_
        refine ss_goto 11 dX8_bent_68 (by decide) ?_
        refine ss_sub [0, 2, 1, 3, 4, 5] rfl ?_
        have e9 : lsr W (i + 1) = lsr W i + (X 110 (24 * w + (P - 1))).toInt64 := by rw [lsr_s, hW2 i (by omega)]
        have h7 := ih (i + 1) (by omega)
        rw [e9] at h7
        exact h7
      · skip
        refine ss_iload dX8_bent_47 0 rfl ?_
        refine ss_goto 60 dX8_bent_49 (by decide) ?_
        refine sz_iadd dX8_bent_60 ?_
        refine ss_iald (i := 110) dX8_bent_61 (by omega) (sh_r110) (by first | omega | (have := hP; omega)) (by decide) ?_
        refine ss_i2l dX8_bent_62 ?_
        refine ss_ladd dX8_bent_63 ?_
        refine ss_lstore_n (lv' := [(3, _), (6, _), (5, _), (0, _), (1, _), (2, _)]) dX8_bent_64 (by decide) rfl ?_
        refine sz_inc (lv' := [(6, _), (3, _), (5, _), (0, _), (1, _), (2, _)]) dX8_bent_65 1 rfl (by decide) rfl ?_
        refine ss_goto 11 dX8_bent_68 (by decide) ?_
        refine ss_sub [0, 2, 1, 3, 4, 5] rfl ?_
        have e9 : lsr W (i + 1) = lsr W i + (X 110 (24 * w + i)).toInt64 := by rw [lsr_s, hW1 i (by omega)]
        have h7 := ih (i + 1) (by omega)
        rw [e9] at h7
        exact h7
set_option maxHeartbeats 1000000 in
set_option maxRecDepth 100000 in
theorem m_bent {c : cx} {d : Nat} {X : nX} {Y : nY} {w : Nat} (hw : w < 12) {P : Nat} (hP : P ≤ 24) (hmy : X 109 w = nI P) (hP1 : 1 ≤ P) {W : Nat → Int32} (hW1 : ∀ k, k < P → W k = X 110 (24 * w + k)) (hW2 : ∀ k, P ≤ k → W k = X 110 (24 * w + (P - 1))) {s : Nat} (hs : s < 1024) : sc c mX8_bent (d + 1) [.ref (c_ad c 105), .int (nI w), .int (nI s)] (X) (Y) (some (.long (lsr W (cnt s 10)))) (X) (Y) := by
  intro Q hQ
  show ss c mX8_bent (d + 1) Q 0 [(0, .ref (c_ad c 105)), (1, .int (nI w)), (2, .int (nI s))] [] (X) (Y)
  refine ss_lconst (v := 0) dX8_bent_0 (by decide) ?_
  refine ss_lstore_n (lv' := [(3, _), (0, _), (1, _), (2, _)]) dX8_bent_1 (by decide) rfl ?_
  refine ss_iload_n dX8_bent_2 3 rfl ?_
  refine ss_callS (As := [_]) dX8_bent_3 vlX8_128 clX8_countOf rfl rfl (Nat.le_of_ble_eq_true rfl) (Nat.le_of_ble_eq_true rfl) (m_countOf hs) ?_
  refine ss_istore (lv' := [(5, _), (3, _), (0, _), (1, _), (2, _)]) dX8_bent_6 (by decide) rfl ?_
  refine ss_iconst (v := nI 0) dX8_bent_8 (by decide) ?_
  refine ss_istore (lv' := [(6, _), (5, _), (3, _), (0, _), (1, _), (2, _)]) dX8_bent_9 (by decide) rfl ?_
  exact l_bent hw hP hmy hP1 hW1 hW2 (cnt_le s 10) hQ (cnt s 10) 0 (by omega)
set_option maxHeartbeats 1000000 in
set_option maxRecDepth 100000 in
theorem l_sumOf1 {c : cx} {d : Nat} {X : nX} {Y : nY} {Q : Option Value → nX → nY → Prop} {w : Nat} (hw : w < 12) {P : Nat} (hP : P ≤ 24) (hmy : X 109 w = nI P) {s : Nat} (hs : s < 1024) {o : Nat → Nat} (ho : ∀ k, k < P → X 110 (24 * w + k) = nI (o k)) (ho2 : ∀ k, k < P → o k < 12) (hQ : ss c mX8_sumOf d Q 62 [(5, .int (nI P)), (3, .long (lsq (fun k => X 111 (24 * w + k)) (fun k => vr Y (o k) s) P)), (0, .ref (c_ad c 105)), (1, .int (nI w)), (2, .int (nI s))] [] X Y) : ∀ (nn i : Nat), i + nn = P → ss c mX8_sumOf d Q 5 [(5, .int (nI i)), (3, .long (lsq (fun k => X 111 (24 * w + k)) (fun k => vr Y (o k) s) i)), (0, .ref (c_ad c 105)), (1, .int (nI w)), (2, .int (nI s))] [] (X) (Y) := by
  intro nn
  induction nn with
  | zero =>
      intro i hin
      simp only [Nat.add_zero] at hin
      subst hin
      refine ss_iload dX8_sumOf_5 0 rfl ?_
      refine ss_aload_n dX8_sumOf_7 2 rfl ?_
      refine ss_get (i := 105) dX8_sumOf_8 flX8_21 (by omega) (sh_r105 _ _) rfl ?_
      refine ss_iload_n dX8_sumOf_11 3 rfl ?_
      refine ss_iald (i := 109) dX8_sumOf_12 (by omega) (sh_r109) (by omega) (by decide) ?_
      rw [hmy]
      refine sz_icmp_ge 62 dX8_sumOf_13 (by decide) (by omega) (by omega) (fun c13 => ?_) (fun c13 => by omega)
      exact hQ
  | succ nn ih =>
      intro i hin
      refine ss_iload dX8_sumOf_5 0 rfl ?_
      refine ss_aload_n dX8_sumOf_7 2 rfl ?_
      refine ss_get (i := 105) dX8_sumOf_8 flX8_21 (by omega) (sh_r105 _ _) rfl ?_
      refine ss_iload_n dX8_sumOf_11 3 rfl ?_
      refine ss_iald (i := 109) dX8_sumOf_12 (by omega) (sh_r109) (by omega) (by decide) ?_
      rw [hmy]
      refine sz_icmp_ge 62 dX8_sumOf_13 (by decide) (by omega) (by omega) (fun c13 => by omega) (fun c13 => ?_)
      refine ss_lload_n dX8_sumOf_16 1 rfl ?_
      refine ss_aload_n dX8_sumOf_17 2 rfl ?_
      refine ss_get (i := 105) dX8_sumOf_18 flX8_27 (by omega) (sh_r105 _ _) rfl ?_
      refine ss_bipush (v := nI 24) dX8_sumOf_21 (by decide) ?_
      refine ss_iload_n dX8_sumOf_23 3 rfl ?_
      refine sz_imul dX8_sumOf_24 ?_
      refine ss_iload dX8_sumOf_25 0 rfl ?_
      refine sz_iadd dX8_sumOf_27 ?_
      refine ss_iald (i := 111) dX8_sumOf_28 (by omega) (sh_r111) (by omega) (by decide) ?_
      refine ss_i2l dX8_sumOf_29 ?_
      refine ss_aload_n dX8_sumOf_30 2 rfl ?_
      refine ss_get (i := 105) dX8_sumOf_31 flX8_17 (by omega) (sh_r105 _ _) rfl ?_
      refine ss_sipush (v := nI 1024) dX8_sumOf_34 (by decide) ?_
      refine ss_aload_n dX8_sumOf_37 2 rfl ?_
      refine ss_get (i := 105) dX8_sumOf_38 flX8_24 (by omega) (sh_r105 _ _) rfl ?_
      refine ss_bipush (v := nI 24) dX8_sumOf_41 (by decide) ?_
      refine ss_iload_n dX8_sumOf_43 3 rfl ?_
      refine sz_imul dX8_sumOf_44 ?_
      refine ss_iload dX8_sumOf_45 0 rfl ?_
      refine sz_iadd dX8_sumOf_47 ?_
      refine ss_iald (i := 110) dX8_sumOf_48 (by omega) (sh_r110) (by omega) (by decide) ?_
      rw [ho i (by omega)]
      refine sz_imul dX8_sumOf_49 ?_
      refine ss_iload_n dX8_sumOf_50 4 rfl ?_
      refine sz_iadd dX8_sumOf_51 ?_
      refine ss_lald (i := 108) dX8_sumOf_52 (by omega) (sh_r108) (by have := ho2 i (by omega); omega) (by decide) ?_
      refine ss_lmul dX8_sumOf_53 ?_
      refine ss_ladd dX8_sumOf_54 ?_
      refine ss_lstore_n (lv' := [(3, _), (5, _), (0, _), (1, _), (2, _)]) dX8_sumOf_55 (by decide) rfl ?_
      refine sz_inc (lv' := [(5, _), (3, _), (0, _), (1, _), (2, _)]) dX8_sumOf_56 1 rfl (by decide) rfl ?_
      refine ss_goto 5 dX8_sumOf_59 (by decide) ?_
      exact ih (i + 1) (by omega)
set_option maxHeartbeats 1000000 in
set_option maxRecDepth 100000 in
theorem l_sumOf2 {c : cx} {d : Nat} {X : nX} {Y : nY} {Q : Option Value → nX → nY → Prop} {w : Nat} (hw : w < 12) {n : Nat} (hn : n ≤ 10) (h6 : X 105 0 = nI n) {s : Nat} (hs : s < 1024) {b : Int64} (hQ : Q (some (.long (lpr (fun t => X 114 (10 * w + t)) s b n))) X Y) : ∀ (nn i : Nat), i + nn = n → ss c mX8_sumOf d Q 65 [(5, .int (nI i)), (3, .long (lpr (fun t => X 114 (10 * w + t)) s b i)), (0, .ref (c_ad c 105)), (1, .int (nI w)), (2, .int (nI s))] [] (X) (Y) := by
  intro nn
  induction nn with
  | zero =>
      intro i hin
      simp only [Nat.add_zero] at hin
      subst hin
      refine ss_iload dX8_sumOf_65 0 rfl ?_
      refine ss_aload_n dX8_sumOf_67 2 rfl ?_
      refine ss_get (i := 105) dX8_sumOf_68 flX8_80 (by omega) (sh_r105 _ _) rfl ?_
      rw [h6]
      refine sz_icmp_ge 110 dX8_sumOf_71 (by decide) (by omega) (by omega) (fun c71 => ?_) (fun c71 => by omega)
      refine ss_lload_n dX8_sumOf_110 1 rfl ?_
      exact ss_lret dX8_sumOf_111 rfl (hQ)
  | succ nn ih =>
      intro i hin
      refine ss_iload dX8_sumOf_65 0 rfl ?_
      refine ss_aload_n dX8_sumOf_67 2 rfl ?_
      refine ss_get (i := 105) dX8_sumOf_68 flX8_80 (by omega) (sh_r105 _ _) rfl ?_
      rw [h6]
      refine sz_icmp_ge 110 dX8_sumOf_71 (by decide) (by omega) (by omega) (fun c71 => by omega) (fun c71 => ?_)
      refine ss_lload_n dX8_sumOf_74 1 rfl ?_
      refine ss_iload_n dX8_sumOf_75 4 rfl ?_
      refine ss_iload dX8_sumOf_76 0 rfl ?_
      refine sz_ishr dX8_sumOf_78 (by omega) (by omega) ?_
      refine ss_iconst (v := nI 1) dX8_sumOf_79 (by decide) ?_
      refine sz_iand dX8_sumOf_80 ?_
      refine ss_iconst (v := nI 1) dX8_sumOf_81 (by decide) ?_
      refine sz_icmp_ne 101 dX8_sumOf_82 (by decide) (by have := xb_bit s i; have := Bool.toNat_le (hb s i); omega) (by decide) (fun c82 => ?_) (fun c82 => ?_)
      · skip
        refine ss_lconst (v := 0) dX8_sumOf_101 (by decide) ?_
        refine ss_ladd dX8_sumOf_102 ?_
        refine ss_lstore_n (lv' := [(3, _), (5, _), (0, _), (1, _), (2, _)]) dX8_sumOf_103 (by decide) rfl ?_
        refine sz_inc (lv' := [(5, _), (3, _), (0, _), (1, _), (2, _)]) dX8_sumOf_104 1 rfl (by decide) rfl ?_
        refine ss_goto 65 dX8_sumOf_107 (by decide) ?_
        refine ss_eL (lv' := [(5, .int (nI (i + 1))), (3, .long (lpr (fun t => X 114 (10 * w + t)) s b (i + 1))), (0, .ref (c_ad c 105)), (1, .int (nI w)), (2, .int (nI s))]) (by show _ = [_, (3, Value.long (_ + if _ then _ else _)), _, _, _]; rw [if_neg (fun h9 => c82 ((xb_bit1 s i).mpr h9))] <;> rfl) ?_
        exact ih (i + 1) (by omega)
      · skip
        refine ss_aload_n dX8_sumOf_85 2 rfl ?_
        refine ss_get (i := 105) dX8_sumOf_86 flX8_36 (by omega) (sh_r105 _ _) rfl ?_
        refine ss_bipush (v := nI 10) dX8_sumOf_89 (by decide) ?_
        refine ss_iload_n dX8_sumOf_91 3 rfl ?_
        refine sz_imul dX8_sumOf_92 ?_
        refine ss_iload dX8_sumOf_93 0 rfl ?_
        refine sz_iadd dX8_sumOf_95 ?_
        refine ss_iald (i := 114) dX8_sumOf_96 (by omega) (sh_r114) (by omega) (by decide) ?_
        refine ss_i2l dX8_sumOf_97 ?_
        refine ss_goto 102 dX8_sumOf_98 (by decide) ?_
        refine ss_ladd dX8_sumOf_102 ?_
        refine ss_lstore_n (lv' := [(3, _), (5, _), (0, _), (1, _), (2, _)]) dX8_sumOf_103 (by decide) rfl ?_
        refine sz_inc (lv' := [(5, _), (3, _), (0, _), (1, _), (2, _)]) dX8_sumOf_104 1 rfl (by decide) rfl ?_
        refine ss_goto 65 dX8_sumOf_107 (by decide) ?_
        refine ss_eL (lv' := [(5, .int (nI (i + 1))), (3, .long (lpr (fun t => X 114 (10 * w + t)) s b (i + 1))), (0, .ref (c_ad c 105)), (1, .int (nI w)), (2, .int (nI s))]) (by show _ = [_, (3, Value.long (_ + if _ then _ else _)), _, _, _]; rw [if_pos ((xb_bit1 s i).mp c82)] <;> rfl) ?_
        exact ih (i + 1) (by omega)
set_option maxHeartbeats 1000000 in
set_option maxRecDepth 100000 in
theorem m_sumOf {c : cx} {d : Nat} {X : nX} {Y : nY} {w : Nat} (hw : w < 12) {P : Nat} (hP : P ≤ 24) (hmy : X 109 w = nI P) {s : Nat} (hs : s < 1024) {n : Nat} (hn : n ≤ 10) (h6 : X 105 0 = nI n) {o : Nat → Nat} (ho : ∀ k, k < P → X 110 (24 * w + k) = nI (o k)) (ho2 : ∀ k, k < P → o k < 12) : sc c mX8_sumOf d [.ref (c_ad c 105), .int (nI w), .int (nI s)] (X) (Y) (some (.long (lpr (fun t => X 114 (10 * w + t)) s (lsq (fun k => X 111 (24 * w + k)) (fun k => vr Y (o k) s) P) n))) (X) (Y) := by
  intro Q hQ
  show ss c mX8_sumOf d Q 0 [(0, .ref (c_ad c 105)), (1, .int (nI w)), (2, .int (nI s))] [] (X) (Y)
  refine ss_lconst (v := 0) dX8_sumOf_0 (by decide) ?_
  refine ss_lstore_n (lv' := [(3, _), (0, _), (1, _), (2, _)]) dX8_sumOf_1 (by decide) rfl ?_
  refine ss_iconst (v := nI 0) dX8_sumOf_2 (by decide) ?_
  refine ss_istore (lv' := [(5, _), (3, _), (0, _), (1, _), (2, _)]) dX8_sumOf_3 (by decide) rfl ?_
  refine l_sumOf1 hw hP hmy hs ho ho2 ?_ P 0 (by omega)
  refine ss_iconst (v := nI 0) dX8_sumOf_62 (by decide) ?_
  refine ss_istore (lv' := [(5, _), (3, _), (0, _), (1, _), (2, _)]) dX8_sumOf_63 (by decide) rfl ?_
  exact l_sumOf2 hw hn h6 hs hQ n 0 (by omega)
