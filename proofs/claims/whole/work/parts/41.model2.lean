def q_sec (V : Nat → Int64) (s a : Nat) : Nat → Bool := fun b => decide (a < b) && (decide (s &&& (2 ^ a ||| 2 ^ b) = 0) && decide (V (s ||| 2 ^ a) + V (s ||| 2 ^ b) < V s + V (s ||| (2 ^ a ||| 2 ^ b))))
def q_fst (V : Nat → Int64) (n s : Nat) : Nat → Bool := fun a => (ffind (q_sec V s a) n).isSome
def q_brk (V : Nat → Int64) (n : Nat) : Nat → Bool := fun s => (ffind (q_fst V n s) n).isSome
def wrg (V : Nat → Int64) (n S : Nat) : Int32 := match ffind (q_brk V n) S with
  | none => -1
  | some s => match ffind (q_fst V n s) n with
    | none => -1
    | some a => match ffind (q_sec V s a) n with
      | none => -1
      | some b => nI (100 * s + 10 * a + b)
theorem wrg_at {V : Nat → Int64} {n S s a b : Nat} (h1 : ffind (q_brk V n) S = some s) (h2 : ffind (q_fst V n s) n = some a) (h3 : ffind (q_sec V s a) n = some b) : wrg V n S = nI (100 * s + 10 * a + b) := by
  unfold wrg
  rw [h1]
  simp only [h2, h3]
def q_cl (V : Nat → Int64) (L : Int64) (s : Nat) : Nat → Bool := fun t => decide (V s = L) && (decide (V t = L) && !(decide (V (s &&& t) = L) && decide (V (s ||| t) = L)))
def q_cls (V : Nat → Int64) (L : Int64) : Nat → Bool := fun s => (ffind (q_cl V L s) s).isSome
/-- the least of a count: whether there is one yet, and which -/
def lvo (V : Nat → Int64) (k : Nat) : Nat → Bool × Int64
  | 0 => (false, 0)
  | i + 1 => if cnt i 10 = k ∧ ((lvo V k i).1 = false ∨ V i < (lvo V k i).2) then (true, V i) else lvo V k i
theorem lvo_s (V : Nat → Int64) (k i : Nat) : lvo V k (i + 1) = if cnt i 10 = k ∧ ((lvo V k i).1 = false ∨ V i < (lvo V k i).2) then (true, V i) else lvo V k i := rfl
set_option maxHeartbeats 4000000 in
set_option maxRecDepth 100000 in
theorem l_wrong3 {c : cx} {d : Nat} {X : nX} {Y : nY} {Q : Option Value → nX → nY → Prop} {w : Nat} (hw : w < 12) {n : Nat} (hn : n ≤ 10) (h6 : X 105 0 = nI n) {s : Nat} (hs : s < 2 ^ n) {a : Nat} (ha : a < n) (hbs : ffind (q_brk (vr Y w) n) s = none) (hfs : ffind (q_fst (vr Y w) n s) a = none) (hX : Q (some (.int (wrg (vr Y w) n (2 ^ n)))) X Y) (hQ : ffind (q_sec (vr Y w) s a) n = none → ss c mX8_wrong (d + 1) Q 112 [(4, .int (nI n)), (3, .int (nI a)), (2, .int (nI s)), (0, .ref (c_ad c 105)), (1, .int (nI w))] [] X Y) : ∀ (nn i : Nat), i + nn = n → ((a + 1 ≤ i ∧ ffind (q_sec (vr Y w) s a) i = none)) → ss c mX8_wrong (d + 1) Q 25 [(4, .int (nI i)), (3, .int (nI a)), (2, .int (nI s)), (0, .ref (c_ad c 105)), (1, .int (nI w))] [] (X) (Y) := by
  have h2n := p2_le hn
  intro nn
  induction nn with
  | zero =>
      intro i hin hinv
      simp only [Nat.add_zero] at hin
      subst hin
      refine ss_iload dX8_wrong_25 0 rfl ?_
      refine ss_aload_n dX8_wrong_27 3 rfl ?_
      refine ss_get (i := 105) dX8_wrong_28 flX8_80 (by omega) (sh_r105 _ _) rfl ?_
      rw [h6]
      refine sz_icmp_ge 112 dX8_wrong_31 (by decide) (by omega) (by omega) (fun c31 => ?_) (fun c31 => by omega)
      exact hQ hinv.2
  | succ nn ih =>
      intro i hin hinv
      refine ss_iload dX8_wrong_25 0 rfl ?_
      refine ss_aload_n dX8_wrong_27 3 rfl ?_
      refine ss_get (i := 105) dX8_wrong_28 flX8_80 (by omega) (sh_r105 _ _) rfl ?_
      rw [h6]
      refine sz_icmp_ge 112 dX8_wrong_31 (by decide) (by omega) (by omega) (fun c31 => by omega) (fun c31 => ?_)
      refine ss_iconst (v := nI 1) dX8_wrong_34 (by decide) ?_
      refine ss_iload_n dX8_wrong_35 1 rfl ?_
      refine sz_shl1 dX8_wrong_36 (by omega) ?_
      refine ss_iconst (v := nI 1) dX8_wrong_37 (by decide) ?_
      refine ss_iload dX8_wrong_38 0 rfl ?_
      refine sz_shl1 dX8_wrong_40 (by omega) ?_
      refine sz_ior dX8_wrong_41 ?_
      refine ss_istore (lv' := [(5, _), (4, _), (3, _), (2, _), (0, _), (1, _)]) dX8_wrong_42 (by decide) rfl ?_
      refine ss_iload_n dX8_wrong_44 3 rfl ?_
      refine ss_iload dX8_wrong_45 0 rfl ?_
      refine sz_iand dX8_wrong_47 ?_
      refine sz_if_ne 106 dX8_wrong_48 (by decide) (by have := xb_and10 (s := s) (t := 2 ^ a ||| 2 ^ i) (by omega); omega) (fun c48 => ?_) (fun c48 => ?_)
      · skip
        refine sz_inc (lv' := [(4, _), (5, _), (3, _), (2, _), (0, _), (1, _)]) dX8_wrong_106 1 rfl (by decide) rfl ?_
        refine ss_goto 25 dX8_wrong_109 (by decide) ?_
        refine ss_sub [0, 2, 3, 4, 5] rfl ?_
        exact ih (i + 1) (by omega) ⟨by omega, ff_step hinv.2 (by first | (simp [q_sec, c48]; done) | (simp only [q_sec]; rw [show decide (vr Y w (s ||| 2 ^ a) + vr Y w (s ||| 2 ^ i) < vr Y w s + vr Y w (s ||| (2 ^ a ||| 2 ^ i))) = false from by simp only [decide_eq_false_iff_not, Int64.lt_iff_toInt_lt]; rw [Int64.le_iff_toInt_le] at c89; omega]; simp))⟩
      · skip
        refine ss_aload_n dX8_wrong_51 4 rfl ?_
        refine ss_iload_n dX8_wrong_52 5 rfl ?_
        refine ss_iload_n dX8_wrong_53 3 rfl ?_
        refine ss_iconst (v := nI 1) dX8_wrong_54 (by decide) ?_
        refine ss_iload_n dX8_wrong_55 2 rfl ?_
        refine sz_shl1 dX8_wrong_56 (by omega) ?_
        refine sz_ior dX8_wrong_57 ?_
        refine ss_callV (As := [_, _]) (i := 105) dX8_wrong_58 vlX8_205 clX8_v rfl rfl (by omega) (sh_r105 _ _) rfl (Nat.le_of_ble_eq_true rfl) (Nat.le_of_ble_eq_true rfl) (m_v hw (xb_or10 (by omega) (xb_p10 (by omega)))) ?_
        refine ss_aload_n dX8_wrong_61 4 rfl ?_
        refine ss_iload_n dX8_wrong_62 5 rfl ?_
        refine ss_iload_n dX8_wrong_63 3 rfl ?_
        refine ss_iconst (v := nI 1) dX8_wrong_64 (by decide) ?_
        refine ss_iload dX8_wrong_65 1 rfl ?_
        refine sz_shl1 dX8_wrong_67 (by omega) ?_
        refine sz_ior dX8_wrong_68 ?_
        refine ss_callV (As := [_, _]) (i := 105) dX8_wrong_69 vlX8_205 clX8_v rfl rfl (by omega) (sh_r105 _ _) rfl (Nat.le_of_ble_eq_true rfl) (Nat.le_of_ble_eq_true rfl) (m_v hw (xb_or10 (by omega) (xb_p10 (by omega)))) ?_
        refine ss_ladd dX8_wrong_72 ?_
        refine ss_aload_n dX8_wrong_73 4 rfl ?_
        refine ss_iload_n dX8_wrong_74 5 rfl ?_
        refine ss_iload_n dX8_wrong_75 3 rfl ?_
        refine ss_callV (As := [_, _]) (i := 105) dX8_wrong_76 vlX8_205 clX8_v rfl rfl (by omega) (sh_r105 _ _) rfl (Nat.le_of_ble_eq_true rfl) (Nat.le_of_ble_eq_true rfl) (m_v hw (by omega)) ?_
        refine ss_aload_n dX8_wrong_79 4 rfl ?_
        refine ss_iload_n dX8_wrong_80 5 rfl ?_
        refine ss_iload_n dX8_wrong_81 3 rfl ?_
        refine ss_iload dX8_wrong_82 0 rfl ?_
        refine sz_ior dX8_wrong_84 ?_
        refine ss_callV (As := [_, _]) (i := 105) dX8_wrong_85 vlX8_205 clX8_v rfl rfl (by omega) (sh_r105 _ _) rfl (Nat.le_of_ble_eq_true rfl) (Nat.le_of_ble_eq_true rfl) (m_v hw (xb_or10 (by omega) (xb_or10 (xb_p10 (show a < 10 by omega)) (xb_p10 (show i < 10 by omega))))) ?_
        refine ss_ladd dX8_wrong_88 ?_
        refine sv_ge 106 dX8_wrong_89 dX8_wrong_90 (by decide) (fun c89 => ?_) (fun c89 => ?_)
        · skip
          refine sz_inc (lv' := [(4, _), (5, _), (3, _), (2, _), (0, _), (1, _)]) dX8_wrong_106 1 rfl (by decide) rfl ?_
          refine ss_goto 25 dX8_wrong_109 (by decide) ?_
          refine ss_sub [0, 2, 3, 4, 5] rfl ?_
          exact ih (i + 1) (by omega) ⟨by omega, ff_step hinv.2 (by first | (simp [q_sec, c48]; done) | (simp only [q_sec]; rw [show decide (vr Y w (s ||| 2 ^ a) + vr Y w (s ||| 2 ^ i) < vr Y w s + vr Y w (s ||| (2 ^ a ||| 2 ^ i))) = false from by simp only [decide_eq_false_iff_not, Int64.lt_iff_toInt_lt]; rw [Int64.le_iff_toInt_le] at c89; omega]; simp))⟩
        · skip
          refine ss_bipush (v := nI 100) dX8_wrong_93 (by decide) ?_
          refine ss_iload_n dX8_wrong_95 3 rfl ?_
          refine sz_imul dX8_wrong_96 ?_
          refine ss_bipush (v := nI 10) dX8_wrong_97 (by decide) ?_
          refine ss_iload_n dX8_wrong_99 2 rfl ?_
          refine sz_imul dX8_wrong_100 ?_
          refine sz_iadd dX8_wrong_101 ?_
          refine ss_iload dX8_wrong_102 1 rfl ?_
          refine sz_iadd dX8_wrong_104 ?_
          exact ss_iret dX8_wrong_105 rfl rfl (by
            have e3 := ff_some (S := n) hinv.2 (show q_sec (vr Y w) s a i = true by
              simp only [q_sec]
              rw [show decide (vr Y w (s ||| 2 ^ a) + vr Y w (s ||| 2 ^ i) < vr Y w s + vr Y w (s ||| (2 ^ a ||| 2 ^ i))) = true from by simp only [decide_eq_true_eq, Int64.lt_iff_toInt_lt]; rw [Int64.le_iff_toInt_le] at c89; omega]
              simp [c48]; omega) (by omega)
            have e2 := ff_some (S := n) hfs (show q_fst (vr Y w) n s a = true by simp [q_fst, e3]) ha
            have e1 := ff_some (S := 2 ^ n) hbs (show q_brk (vr Y w) n s = true by simp [q_brk, e2]) hs
            rw [wrg_at e1 e2 e3] at hX
            exact hX)
set_option maxHeartbeats 4000000 in
set_option maxRecDepth 100000 in
theorem l_wrong2 {c : cx} {d : Nat} {X : nX} {Y : nY} {Q : Option Value → nX → nY → Prop} {w : Nat} (hw : w < 12) {n : Nat} (hn : n ≤ 10) (h6 : X 105 0 = nI n) {s : Nat} (hs : s < 2 ^ n) (hbs : ffind (q_brk (vr Y w) n) s = none) (hX : Q (some (.int (wrg (vr Y w) n (2 ^ n)))) X Y) (hQ : ffind (q_fst (vr Y w) n s) n = none → ss c mX8_wrong (d + 1) Q 118 [(3, .int (nI n)), (2, .int (nI s)), (0, .ref (c_ad c 105)), (1, .int (nI w))] [] X Y) : ∀ (nn i : Nat), i + nn = n → (ffind (q_fst (vr Y w) n s) i = none) → ss c mX8_wrong (d + 1) Q 12 [(3, .int (nI i)), (2, .int (nI s)), (0, .ref (c_ad c 105)), (1, .int (nI w))] [] (X) (Y) := by
  intro nn
  induction nn with
  | zero =>
      intro i hin hinv
      simp only [Nat.add_zero] at hin
      subst hin
      refine ss_iload_n dX8_wrong_12 0 rfl ?_
      refine ss_aload_n dX8_wrong_13 2 rfl ?_
      refine ss_get (i := 105) dX8_wrong_14 flX8_80 (by omega) (sh_r105 _ _) rfl ?_
      rw [h6]
      refine sz_icmp_ge 118 dX8_wrong_17 (by decide) (by omega) (by omega) (fun c17 => ?_) (fun c17 => by omega)
      exact hQ hinv
  | succ nn ih =>
      intro i hin hinv
      refine ss_iload_n dX8_wrong_12 0 rfl ?_
      refine ss_aload_n dX8_wrong_13 2 rfl ?_
      refine ss_get (i := 105) dX8_wrong_14 flX8_80 (by omega) (sh_r105 _ _) rfl ?_
      rw [h6]
      refine sz_icmp_ge 118 dX8_wrong_17 (by decide) (by omega) (by omega) (fun c17 => by omega) (fun c17 => ?_)
      refine ss_iload_n dX8_wrong_20 0 rfl ?_
      refine ss_iconst (v := nI 1) dX8_wrong_21 (by decide) ?_
      refine sz_iadd dX8_wrong_22 ?_
      refine ss_istore (lv' := [(4, _), (3, _), (2, _), (0, _), (1, _)]) dX8_wrong_23 (by decide) rfl ?_
      refine l_wrong3 hw hn h6 hs (by omega) hbs hinv hX (fun h9 => ?_) (n - (i + 1)) (i + 1) (by omega) ⟨Nat.le_refl _, ff_none.mpr (fun k hk => by simp [q_sec]; omega)⟩
      refine ss_sub [1, 2, 3, 4] rfl ?_
      refine sz_inc (lv' := [(3, _), (2, _), (0, _), (1, _)]) dX8_wrong_112 0 rfl (by decide) rfl ?_
      refine ss_goto 12 dX8_wrong_115 (by decide) ?_
      exact ih (i + 1) (by omega) (ff_step hinv (by simp [q_fst, h9]))
set_option maxHeartbeats 4000000 in
set_option maxRecDepth 100000 in
theorem l_wrong1 {c : cx} {d : Nat} {X : nX} {Y : nY} {Q : Option Value → nX → nY → Prop} {w : Nat} (hw : w < 12) {n : Nat} (hn : n ≤ 10) (h6 : X 105 0 = nI n) {S : Nat} (hSn : S = 2 ^ n)  (hQ : Q (some (.int (wrg (vr Y w) n S))) X Y) : ∀ (nn i : Nat), i + nn = S → (ffind (q_brk (vr Y w) n) i = none) → ss c mX8_wrong (d + 1) Q 2 [(2, .int (nI i)), (0, .ref (c_ad c 105)), (1, .int (nI w))] [] (X) (Y) := by
  have h1n := p2_1 (n := n)
  have h2n := p2_le hn
  intro nn
  induction nn with
  | zero =>
      intro i hin hinv
      simp only [Nat.add_zero] at hin
      subst hin
      refine ss_iload_n dX8_wrong_2 0 rfl ?_
      refine ss_aload_n dX8_wrong_3 1 rfl ?_
      refine ss_callV (As := []) (i := 105) dX8_wrong_4 vlX8_93 clX8_last rfl rfl (by omega) (sh_r105 _ _) rfl (Nat.le_of_ble_eq_true rfl) (Nat.le_of_ble_eq_true rfl) (m_last hn h6) ?_
      refine sz_icmp_gt 124 dX8_wrong_7 (by decide) (by omega) (by omega) (fun c7 => ?_) (fun c7 => by omega)
      refine ss_iconst (v := -1) dX8_wrong_124 (by decide) ?_
      exact ss_iret dX8_wrong_125 rfl rfl (cvi (by unfold wrg; rw [hinv]) hQ)
  | succ nn ih =>
      intro i hin hinv
      refine ss_iload_n dX8_wrong_2 0 rfl ?_
      refine ss_aload_n dX8_wrong_3 1 rfl ?_
      refine ss_callV (As := []) (i := 105) dX8_wrong_4 vlX8_93 clX8_last rfl rfl (by omega) (sh_r105 _ _) rfl (Nat.le_of_ble_eq_true rfl) (Nat.le_of_ble_eq_true rfl) (m_last hn h6) ?_
      refine sz_icmp_gt 124 dX8_wrong_7 (by decide) (by omega) (by omega) (fun c7 => by omega) (fun c7 => ?_)
      refine ss_iconst (v := nI 0) dX8_wrong_10 (by decide) ?_
      refine ss_istore_n (lv' := [(3, _), (2, _), (0, _), (1, _)]) dX8_wrong_11 (by decide) rfl ?_
      refine l_wrong2 hw hn h6 (by omega) hinv (by rw [← hSn]; exact hQ) (fun h9 => ?_) n 0 (by omega) rfl
      refine ss_sub [1, 2, 3] rfl ?_
      refine sz_inc (lv' := [(2, _), (0, _), (1, _)]) dX8_wrong_118 0 rfl (by decide) rfl ?_
      refine ss_goto 2 dX8_wrong_121 (by decide) ?_
      exact ih (i + 1) (by omega) (ff_step hinv (by simp [q_brk, h9]))
set_option maxHeartbeats 4000000 in
set_option maxRecDepth 100000 in
theorem m_wrong {c : cx} {d : Nat} {X : nX} {Y : nY} {w : Nat} (hw : w < 12) {n : Nat} (hn : n ≤ 10) (h6 : X 105 0 = nI n) : sc c mX8_wrong (d + 1) [.ref (c_ad c 105), .int (nI w)] (X) (Y) (some (.int (wrg (vr Y w) n (2 ^ n)))) (X) (Y) := by
  intro Q hQ
  show ss c mX8_wrong (d + 1) Q 0 [(0, .ref (c_ad c 105)), (1, .int (nI w))] [] (X) (Y)
  refine ss_iconst (v := nI 0) dX8_wrong_0 (by decide) ?_
  refine ss_istore_n (lv' := [(2, _), (0, _), (1, _)]) dX8_wrong_1 (by decide) rfl ?_
  exact l_wrong1 hw hn h6 rfl hQ (2 ^ n) 0 (by omega) rfl
set_option maxHeartbeats 4000000 in
set_option maxRecDepth 100000 in
theorem l_isClosed2 {c : cx} {d : Nat} {X : nX} {Y : nY} {Q : Option Value → nX → nY → Prop} {w : Nat} (hw : w < 12) {s S : Nat} (hs : s < S) (hS : S ≤ 1024) {L : Int64} (hcs : ffind (q_cls (vr Y w) L) s = none) (hX : Q (some (.int (bI (!(lany (q_cls (vr Y w) L) S))))) X Y) (hQ : ffind (q_cl (vr Y w) L s) s = none → ss c mX8_isClosed (d + 1) Q 84 [(5, .int (nI s)), (4, .int (nI s)), (0, .ref (c_ad c 105)), (1, .int (nI w)), (2, .long L)] [] X Y) : ∀ (nn i : Nat), i + nn = s → (ffind (q_cl (vr Y w) L s) i = none) → ss c mX8_isClosed (d + 1) Q 15 [(5, .int (nI i)), (4, .int (nI s)), (0, .ref (c_ad c 105)), (1, .int (nI w)), (2, .long L)] [] (X) (Y) := by
  intro nn
  induction nn with
  | zero =>
      intro i hin hinv
      simp only [Nat.add_zero] at hin
      subst hin
      refine ss_iload dX8_isClosed_15 0 rfl ?_
      refine ss_iload dX8_isClosed_17 1 rfl ?_
      refine sz_icmp_ge 84 dX8_isClosed_19 (by decide) (by omega) (by omega) (fun c19 => ?_) (fun c19 => by omega)
      exact hQ hinv
  | succ nn ih =>
      intro i hin hinv
      refine ss_iload dX8_isClosed_15 0 rfl ?_
      refine ss_iload dX8_isClosed_17 1 rfl ?_
      refine sz_icmp_ge 84 dX8_isClosed_19 (by decide) (by omega) (by omega) (fun c19 => by omega) (fun c19 => ?_)
      refine ss_aload_n dX8_isClosed_22 2 rfl ?_
      refine ss_iload_n dX8_isClosed_23 3 rfl ?_
      refine ss_iload dX8_isClosed_24 1 rfl ?_
      refine ss_callV (As := [_, _]) (i := 105) dX8_isClosed_26 vlX8_205 clX8_v rfl rfl (by omega) (sh_r105 _ _) rfl (Nat.le_of_ble_eq_true rfl) (Nat.le_of_ble_eq_true rfl) (m_v hw (by omega)) ?_
      refine ss_lload_n dX8_isClosed_29 4 rfl ?_
      refine sv_ne 78 dX8_isClosed_30 dX8_isClosed_31 (by decide) (fun c30 => ?_) (fun c30 => ?_)
      · skip
        refine sz_inc (lv' := [(5, _), (4, _), (0, _), (1, _), (2, _)]) dX8_isClosed_78 0 rfl (by decide) rfl ?_
        refine ss_goto 15 dX8_isClosed_81 (by decide) ?_
        exact ih (i + 1) (by omega) (ff_step hinv (by simp [q_cl, *]))
      · skip
        refine ss_aload_n dX8_isClosed_34 2 rfl ?_
        refine ss_iload_n dX8_isClosed_35 3 rfl ?_
        refine ss_iload dX8_isClosed_36 0 rfl ?_
        refine ss_callV (As := [_, _]) (i := 105) dX8_isClosed_38 vlX8_205 clX8_v rfl rfl (by omega) (sh_r105 _ _) rfl (Nat.le_of_ble_eq_true rfl) (Nat.le_of_ble_eq_true rfl) (m_v hw (by omega)) ?_
        refine ss_lload_n dX8_isClosed_41 4 rfl ?_
        refine sv_ne 78 dX8_isClosed_42 dX8_isClosed_43 (by decide) (fun c42 => ?_) (fun c42 => ?_)
        · skip
          refine sz_inc (lv' := [(5, _), (4, _), (0, _), (1, _), (2, _)]) dX8_isClosed_78 0 rfl (by decide) rfl ?_
          refine ss_goto 15 dX8_isClosed_81 (by decide) ?_
          exact ih (i + 1) (by omega) (ff_step hinv (by simp [q_cl, *]))
        · skip
          refine ss_aload_n dX8_isClosed_46 2 rfl ?_
          refine ss_iload_n dX8_isClosed_47 3 rfl ?_
          refine ss_iload dX8_isClosed_48 1 rfl ?_
          refine ss_iload dX8_isClosed_50 0 rfl ?_
          refine sz_iand dX8_isClosed_52 ?_
          refine ss_callV (As := [_, _]) (i := 105) dX8_isClosed_53 vlX8_205 clX8_v rfl rfl (by omega) (sh_r105 _ _) rfl (Nat.le_of_ble_eq_true rfl) (Nat.le_of_ble_eq_true rfl) (m_v hw (xb_and10 (by omega))) ?_
          refine ss_lload_n dX8_isClosed_56 4 rfl ?_
          refine sv_ne 76 dX8_isClosed_57 dX8_isClosed_58 (by decide) (fun c57 => ?_) (fun c57 => ?_)
          · skip
            refine ss_iconst (v := nI 0) dX8_isClosed_76 (by decide) ?_
            exact ss_iret dX8_isClosed_77 rfl rfl (cvi (by rw [lany_t hcs (show q_cls (vr Y w) L s = true by simp [q_cls, ff_some hinv (show q_cl (vr Y w) L s i = true by simp [q_cl, *]) (show i < s by omega)]) hs]; rfl) hX)
          · skip
            refine ss_aload_n dX8_isClosed_61 2 rfl ?_
            refine ss_iload_n dX8_isClosed_62 3 rfl ?_
            refine ss_iload dX8_isClosed_63 1 rfl ?_
            refine ss_iload dX8_isClosed_65 0 rfl ?_
            refine sz_ior dX8_isClosed_67 ?_
            refine ss_callV (As := [_, _]) (i := 105) dX8_isClosed_68 vlX8_205 clX8_v rfl rfl (by omega) (sh_r105 _ _) rfl (Nat.le_of_ble_eq_true rfl) (Nat.le_of_ble_eq_true rfl) (m_v hw (xb_or10 (by omega) (by omega))) ?_
            refine ss_lload_n dX8_isClosed_71 4 rfl ?_
            refine sv_eq 78 dX8_isClosed_72 dX8_isClosed_73 (by decide) (fun c72 => ?_) (fun c72 => ?_)
            · skip
              refine sz_inc (lv' := [(5, _), (4, _), (0, _), (1, _), (2, _)]) dX8_isClosed_78 0 rfl (by decide) rfl ?_
              refine ss_goto 15 dX8_isClosed_81 (by decide) ?_
              exact ih (i + 1) (by omega) (ff_step hinv (by simp [q_cl, *]))
            · skip
              refine ss_iconst (v := nI 0) dX8_isClosed_76 (by decide) ?_
              exact ss_iret dX8_isClosed_77 rfl rfl (cvi (by rw [lany_t hcs (show q_cls (vr Y w) L s = true by simp [q_cls, ff_some hinv (show q_cl (vr Y w) L s i = true by simp [q_cl, *]) (show i < s by omega)]) hs]; rfl) hX)
set_option maxHeartbeats 4000000 in
set_option maxRecDepth 100000 in
theorem l_isClosed1 {c : cx} {d : Nat} {X : nX} {Y : nY} {Q : Option Value → nX → nY → Prop} {w : Nat} (hw : w < 12) {n : Nat} (hn : n ≤ 10) (h6 : X 105 0 = nI n) {S : Nat} (hSn : S = 2 ^ n) {L : Int64} (hQ : Q (some (.int (bI (!(lany (q_cls (vr Y w) L) S))))) X Y) : ∀ (nn i : Nat), i + nn = S → (ffind (q_cls (vr Y w) L) i = none) → ss c mX8_isClosed (d + 1) Q 3 [(4, .int (nI i)), (0, .ref (c_ad c 105)), (1, .int (nI w)), (2, .long L)] [] (X) (Y) := by
  have h1n := p2_1 (n := n)
  have h2n := p2_le hn
  intro nn
  induction nn with
  | zero =>
      intro i hin hinv
      simp only [Nat.add_zero] at hin
      subst hin
      refine ss_iload dX8_isClosed_3 0 rfl ?_
      refine ss_aload_n dX8_isClosed_5 1 rfl ?_
      refine ss_callV (As := []) (i := 105) dX8_isClosed_6 vlX8_93 clX8_last rfl rfl (by omega) (sh_r105 _ _) rfl (Nat.le_of_ble_eq_true rfl) (Nat.le_of_ble_eq_true rfl) (m_last hn h6) ?_
      refine sz_icmp_gt 90 dX8_isClosed_9 (by decide) (by omega) (by omega) (fun c9 => ?_) (fun c9 => by omega)
      refine ss_iconst (v := nI 1) dX8_isClosed_90 (by decide) ?_
      exact ss_iret dX8_isClosed_91 rfl rfl (cvi (by rw [lany_f hinv]; rfl) hQ)
  | succ nn ih =>
      intro i hin hinv
      refine ss_iload dX8_isClosed_3 0 rfl ?_
      refine ss_aload_n dX8_isClosed_5 1 rfl ?_
      refine ss_callV (As := []) (i := 105) dX8_isClosed_6 vlX8_93 clX8_last rfl rfl (by omega) (sh_r105 _ _) rfl (Nat.le_of_ble_eq_true rfl) (Nat.le_of_ble_eq_true rfl) (m_last hn h6) ?_
      refine sz_icmp_gt 90 dX8_isClosed_9 (by decide) (by omega) (by omega) (fun c9 => by omega) (fun c9 => ?_)
      refine ss_iconst (v := nI 0) dX8_isClosed_12 (by decide) ?_
      refine ss_istore (lv' := [(5, _), (4, _), (0, _), (1, _), (2, _)]) dX8_isClosed_13 (by decide) rfl ?_
      refine l_isClosed2 (S := S) hw (by omega) (by omega) hinv hQ (fun h9 => ?_) i 0 (by omega) rfl
      refine ss_sub [1, 2, 3, 4] rfl ?_
      refine sz_inc (lv' := [(4, _), (0, _), (1, _), (2, _)]) dX8_isClosed_84 0 rfl (by decide) rfl ?_
      refine ss_goto 3 dX8_isClosed_87 (by decide) ?_
      exact ih (i + 1) (by omega) (ff_step hinv (by simp [q_cls, h9]))
set_option maxHeartbeats 4000000 in
set_option maxRecDepth 100000 in
theorem m_isClosed {c : cx} {d : Nat} {X : nX} {Y : nY} {w : Nat} (hw : w < 12) {n : Nat} (hn : n ≤ 10) (h6 : X 105 0 = nI n) {L : Int64} : sc c mX8_isClosed (d + 1) [.ref (c_ad c 105), .int (nI w), .long L] (X) (Y) (some (.int (bI (!(lany (q_cls (vr Y w) L) (2 ^ n)))))) (X) (Y) := by
  intro Q hQ
  show ss c mX8_isClosed (d + 1) Q 0 [(0, .ref (c_ad c 105)), (1, .int (nI w)), (2, .long L)] [] (X) (Y)
  refine ss_iconst (v := nI 0) dX8_isClosed_0 (by decide) ?_
  refine ss_istore (lv' := [(4, _), (0, _), (1, _), (2, _)]) dX8_isClosed_1 (by decide) rfl ?_
  exact l_isClosed1 hw hn h6 rfl hQ (2 ^ n) 0 (by omega) rfl
set_option maxHeartbeats 4000000 in
set_option maxRecDepth 100000 in
theorem l_levelOf {c : cx} {d : Nat} {X : nX} {Y : nY} {Q : Option Value → nX → nY → Prop} {w : Nat} (hw : w < 12) {n : Nat} (hn : n ≤ 10) (h6 : X 105 0 = nI n) {S : Nat} (hSn : S = 2 ^ n) {k : Nat} (hk : k < 2 ^ 31) (hQ : Q (some (.long (lvo (vr Y w) k S).2)) X Y) : ∀ (nn i : Nat), i + nn = S → ss c mX8_levelOf (d + 1) Q 8 [(6, .int (nI i)), (4, .long (lvo (vr Y w) k i).2), (3, .int (bI (lvo (vr Y w) k i).1)), (0, .ref (c_ad c 105)), (1, .int (nI w)), (2, .int (nI k))] [] (X) (Y) := by
  have h1n := p2_1 (n := n)
  have h2n := p2_le hn
  intro nn
  induction nn with
  | zero =>
      intro i hin
      simp only [Nat.add_zero] at hin
      subst hin
      refine ss_iload dX8_levelOf_8 0 rfl ?_
      refine ss_aload_n dX8_levelOf_10 3 rfl ?_
      refine ss_callV (As := []) (i := 105) dX8_levelOf_11 vlX8_93 clX8_last rfl rfl (by omega) (sh_r105 _ _) rfl (Nat.le_of_ble_eq_true rfl) (Nat.le_of_ble_eq_true rfl) (m_last hn h6) ?_
      refine sz_icmp_gt 60 dX8_levelOf_14 (by decide) (by omega) (by omega) (fun c14 => ?_) (fun c14 => by omega)
      refine ss_lload dX8_levelOf_60 1 rfl ?_
      exact ss_lret dX8_levelOf_62 rfl (hQ)
  | succ nn ih =>
      intro i hin
      refine ss_iload dX8_levelOf_8 0 rfl ?_
      refine ss_aload_n dX8_levelOf_10 3 rfl ?_
      refine ss_callV (As := []) (i := 105) dX8_levelOf_11 vlX8_93 clX8_last rfl rfl (by omega) (sh_r105 _ _) rfl (Nat.le_of_ble_eq_true rfl) (Nat.le_of_ble_eq_true rfl) (m_last hn h6) ?_
      refine sz_icmp_gt 60 dX8_levelOf_14 (by decide) (by omega) (by omega) (fun c14 => by omega) (fun c14 => ?_)
      refine ss_iload dX8_levelOf_17 0 rfl ?_
      refine ss_callS (As := [_]) dX8_levelOf_19 vlX8_128 clX8_countOf rfl rfl (Nat.le_of_ble_eq_true rfl) (Nat.le_of_ble_eq_true rfl) (m_countOf (by omega)) ?_
      refine ss_iload_n dX8_levelOf_22 5 rfl ?_
      refine sz_icmp_ne 54 dX8_levelOf_23 (by decide) (by have := cnt_le i 10; omega) (by omega) (fun c23 => ?_) (fun c23 => ?_)
      · skip
        refine sz_inc (lv' := [(6, _), (4, _), (3, _), (0, _), (1, _), (2, _)]) dX8_levelOf_54 0 rfl (by decide) rfl ?_
        refine ss_goto 8 dX8_levelOf_57 (by decide) ?_
        have e9 : lvo (vr Y w) k (i + 1) = lvo (vr Y w) k i := by rw [lvo_s, if_neg (fun h9 => c23 h9.1)]
        have h7 := ih (i + 1) (by omega)
        rw [e9] at h7
        exact h7
      · skip
        refine ss_iload_n dX8_levelOf_26 2 rfl ?_
        refine sy_if_eq 43 dX8_levelOf_27 (by decide) (fun c27 => ?_) (fun c27 => ?_)
        · skip
          refine ss_iconst (v := nI 1) dX8_levelOf_43 (by decide) ?_
          refine ss_istore_n (lv' := [(3, _), (6, _), (4, _), (0, _), (1, _), (2, _)]) dX8_levelOf_44 (by decide) rfl ?_
          refine ss_aload_n dX8_levelOf_45 3 rfl ?_
          refine ss_iload_n dX8_levelOf_46 4 rfl ?_
          refine ss_iload dX8_levelOf_47 1 rfl ?_
          refine ss_callV (As := [_, _]) (i := 105) dX8_levelOf_49 vlX8_205 clX8_v rfl rfl (by omega) (sh_r105 _ _) rfl (Nat.le_of_ble_eq_true rfl) (Nat.le_of_ble_eq_true rfl) (m_v hw (by omega)) ?_
          refine ss_lstore (lv' := [(4, _), (3, _), (6, _), (0, _), (1, _), (2, _)]) dX8_levelOf_52 (by decide) rfl ?_
          refine sz_inc (lv' := [(6, _), (4, _), (3, _), (0, _), (1, _), (2, _)]) dX8_levelOf_54 2 rfl (by decide) rfl ?_
          refine ss_goto 8 dX8_levelOf_57 (by decide) ?_
          have e9 : lvo (vr Y w) k (i + 1) = (true, vr Y w i) := by
            rw [lvo_s, if_pos ⟨c23, Or.inl c27⟩]
          have h7 := ih (i + 1) (by omega)
          rw [e9] at h7
          exact h7
        · skip
          refine ss_aload_n dX8_levelOf_30 3 rfl ?_
          refine ss_iload_n dX8_levelOf_31 4 rfl ?_
          refine ss_iload dX8_levelOf_32 0 rfl ?_
          refine ss_callV (As := [_, _]) (i := 105) dX8_levelOf_34 vlX8_205 clX8_v rfl rfl (by omega) (sh_r105 _ _) rfl (Nat.le_of_ble_eq_true rfl) (Nat.le_of_ble_eq_true rfl) (m_v hw (by omega)) ?_
          refine ss_lload dX8_levelOf_37 1 rfl ?_
          refine sv_ge 54 dX8_levelOf_39 dX8_levelOf_40 (by decide) (fun c39 => ?_) (fun c39 => ?_)
          · skip
            refine sz_inc (lv' := [(6, _), (4, _), (3, _), (0, _), (1, _), (2, _)]) dX8_levelOf_54 0 rfl (by decide) rfl ?_
            refine ss_goto 8 dX8_levelOf_57 (by decide) ?_
            have e9 : lvo (vr Y w) k (i + 1) = lvo (vr Y w) k i := by
              rw [lvo_s, if_neg (by intro h9; rcases h9.2 with h8 | h8; exact kd_tf c27 h8; rw [Int64.lt_iff_toInt_lt] at h8; rw [Int64.le_iff_toInt_le] at c39; omega)]
            have h7 := ih (i + 1) (by omega)
            rw [e9] at h7
            exact h7
          · skip
            refine ss_iconst (v := nI 1) dX8_levelOf_43 (by decide) ?_
            refine ss_istore_n (lv' := [(3, _), (6, _), (4, _), (0, _), (1, _), (2, _)]) dX8_levelOf_44 (by decide) rfl ?_
            refine ss_aload_n dX8_levelOf_45 3 rfl ?_
            refine ss_iload_n dX8_levelOf_46 4 rfl ?_
            refine ss_iload dX8_levelOf_47 1 rfl ?_
            refine ss_callV (As := [_, _]) (i := 105) dX8_levelOf_49 vlX8_205 clX8_v rfl rfl (by omega) (sh_r105 _ _) rfl (Nat.le_of_ble_eq_true rfl) (Nat.le_of_ble_eq_true rfl) (m_v hw (by omega)) ?_
            refine ss_lstore (lv' := [(4, _), (3, _), (6, _), (0, _), (1, _), (2, _)]) dX8_levelOf_52 (by decide) rfl ?_
            refine sz_inc (lv' := [(6, _), (4, _), (3, _), (0, _), (1, _), (2, _)]) dX8_levelOf_54 2 rfl (by decide) rfl ?_
            refine ss_goto 8 dX8_levelOf_57 (by decide) ?_
            have e9 : lvo (vr Y w) k (i + 1) = (true, vr Y w i) := by
              rw [lvo_s, if_pos ⟨c23, Or.inr (by rw [Int64.lt_iff_toInt_lt]; rw [Int64.le_iff_toInt_le] at c39; omega)⟩]
            have h7 := ih (i + 1) (by omega)
            rw [e9] at h7
            exact h7
set_option maxHeartbeats 4000000 in
set_option maxRecDepth 100000 in
theorem m_levelOf {c : cx} {d : Nat} {X : nX} {Y : nY} {w : Nat} (hw : w < 12) {n : Nat} (hn : n ≤ 10) (h6 : X 105 0 = nI n) {k : Nat} (hk : k < 2 ^ 31) : sc c mX8_levelOf (d + 1) [.ref (c_ad c 105), .int (nI w), .int (nI k)] (X) (Y) (some (.long (lvo (vr Y w) k (2 ^ n)).2)) (X) (Y) := by
  intro Q hQ
  show ss c mX8_levelOf (d + 1) Q 0 [(0, .ref (c_ad c 105)), (1, .int (nI w)), (2, .int (nI k))] [] (X) (Y)
  refine ss_iconst (v := nI 0) dX8_levelOf_0 (by decide) ?_
  refine ss_istore_n (lv' := [(3, _), (0, _), (1, _), (2, _)]) dX8_levelOf_1 (by decide) rfl ?_
  refine ss_lconst (v := 0) dX8_levelOf_2 (by decide) ?_
  refine ss_lstore (lv' := [(4, _), (3, _), (0, _), (1, _), (2, _)]) dX8_levelOf_3 (by decide) rfl ?_
  refine ss_iconst (v := nI 0) dX8_levelOf_5 (by decide) ?_
  refine ss_istore (lv' := [(6, _), (4, _), (3, _), (0, _), (1, _), (2, _)]) dX8_levelOf_6 (by decide) rfl ?_
  exact l_levelOf hw hn h6 rfl hk hQ (2 ^ n) 0 (by omega)
