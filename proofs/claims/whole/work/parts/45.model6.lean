theorem lany_s (P : Nat → Bool) (i : Nat) : lany P (i + 1) = (lany P i || P i) := by
  unfold lany
  rw [ffind]
  cases h : ffind P i with
  | some k => rfl
  | none => cases h2 : P i <;> simp
theorem upl_srw {Y : nY} {a b k : Nat} {R : Nat → Int64} {v : Int64} (h : a ≠ b) : upl (srw Y a R) b k v = srw (upl Y b k v) a R := by
  funext x
  unfold upl srw
  by_cases h1 : x = b
  · subst h1
    have : ¬ x = a := fun h9 => h h9.symm
    simp [this]
  · simp [h1]
def shf (F : Nat → Int64) (b : Nat) : Nat → Int64 := fun k => F (k - b)
theorem shf_at {F : Nat → Int64} {b i : Nat} : shf F b (b + i) = F i := by unfold shf; rw [Nat.add_sub_cancel_left]
def p_lg (F : Nat → Int64) : Nat → Bool := fun k => !(decide (szl (F k) ≤ 1000000000000))
theorem p_lg_t {F : Nat → Int64} {k : Nat} (h : 1000000000000 < szl (F k)) : p_lg F k = true := by
  unfold p_lg
  rw [Int64.lt_iff_toInt_lt] at h
  simp only [Bool.not_eq_true', decide_eq_false_iff_not, Int64.le_iff_toInt_le]
  omega
theorem p_lg_f {F : Nat → Int64} {k : Nat} (h : ¬ 1000000000000 < szl (F k)) : p_lg F k = false := by
  unfold p_lg
  rw [Int64.lt_iff_toInt_lt] at h
  simp only [Bool.not_eq_false', decide_eq_true_eq, Int64.le_iff_toInt_le]
  omega
/-- the values of w worked out up to i -/
def ywk (Y : nY) (w : Nat) (F : Nat → Int64) (T : Nat → Int64) (i : Nat) : nY := srw (mpl Y 108 (1024 * w) (1024 * w + i) (shf F (1024 * w))) 122 T
theorem ywk_vr {Y : nY} {w q i s : Nat} {F T : Nat → Int64} (h : q ≠ w) (hs : s < 1024) (hi : i ≤ 1024) : vr (ywk Y w F T i) q s = vr Y q s := by
  unfold vr ywk
  rw [srw_ne (by omega)]
  unfold mpl
  rw [if_neg (by omega)]
theorem ywk_own {Y : nY} {w i s : Nat} {F T : Nat → Int64} (hs : s < i) : vr (ywk Y w F T i) w s = F s := by
  unfold vr ywk
  rw [srw_ne (by omega), mpl_lt (by omega) (by omega), shf_at]
theorem lsq_c {W : Nat → Int32} {U U' : Nat → Int64} : ∀ {P : Nat}, (∀ k, k < P → U k = U' k) → lsq W U P = lsq W U' P := by
  intro P
  induction P with
  | zero => exact fun _ => rfl
  | succ P ih => intro h; show lsq W U P + _ * U P = lsq W U' P + _ * U' P; rw [ih (fun k hk => h k (by omega)), h P (by omega)]
set_option maxHeartbeats 1000000 in
set_option maxRecDepth 100000 in
theorem m_worked1 {c : cx} {d : Nat} {X : nX} {Y : nY} {w : Nat} (hw : w < 12) {P : Nat} (hP : P ≤ 24) (hmy : X 109 w = nI P) {a b : Nat → Nat} (ha : ∀ k, k < P → X 110 (24 * w + k) = nI (a k)) (hb0 : ∀ k, k < P → X 111 (24 * w + k) = nI (b k)) (ha2 : ∀ k, k < P → a k < 10) (hb2 : ∀ k, k < P → b k < 10) {s : Nat} (hs : s < 1024) (hkd : X 106 w = nI 1) : sc c mX8_worked (d + 4) [.ref (c_ad c 105), .int (nI w), .int (nI s)] (X) (Y) (some (.long (lct a b (fun k => X 112 (24 * w + k)) s P))) (X) (Y) := by
  intro Q hQ
  show ss c mX8_worked (d + 4) Q 0 [(0, .ref (c_ad c 105)), (1, .int (nI w)), (2, .int (nI s))] [] (X) (Y)
  refine ss_aload_n dX8_worked_0 0 rfl ?_
  refine ss_get (i := 105) dX8_worked_1 flX8_7 (by omega) (sh_r105 _ _) rfl ?_
  refine ss_iload_n dX8_worked_4 1 rfl ?_
  refine ss_iald (i := 106) dX8_worked_5 (by omega) (sh_r106) (by omega) (by decide) ?_
  rw [hkd]
  refine ss_tableIn (off := 38) 44 dX8_worked_6 (by decide) (by decide) (by decide) (by decide) ?_
  refine ss_aload_n dX8_worked_44 0 rfl ?_
  refine ss_iload_n dX8_worked_45 1 rfl ?_
  refine ss_iload_n dX8_worked_46 2 rfl ?_
  refine ss_callV (As := [_, _]) (i := 105) dX8_worked_47 vlX8_131 clX8_cut rfl rfl (by omega) (sh_r105 _ _) rfl (Nat.le_of_ble_eq_true rfl) (Nat.le_of_ble_eq_true rfl) (m_cut hw hP hmy hs ha hb0 ha2 hb2) ?_
  exact ss_lret dX8_worked_50 rfl (hQ)
set_option maxHeartbeats 1000000 in
set_option maxRecDepth 100000 in
theorem m_worked2 {c : cx} {d : Nat} {X : nX} {Y : nY} {w : Nat} (hw : w < 12) {P : Nat} (hP : P ≤ 24) (hmy : X 109 w = nI P) {b : Nat → Nat} (hb0 : ∀ k, k < P → X 111 (24 * w + k) = nI (b k)) (hb2 : ∀ k, k < P → b k < 1024) {s : Nat} (hs : s < 1024) (hkd : X 106 w = nI 2) : sc c mX8_worked (d + 4) [.ref (c_ad c 105), .int (nI w), .int (nI s)] (X) (Y) (some (.long (lcv (fun k => X 110 (24 * w + k)) b s P))) (X) (Y) := by
  intro Q hQ
  show ss c mX8_worked (d + 4) Q 0 [(0, .ref (c_ad c 105)), (1, .int (nI w)), (2, .int (nI s))] [] (X) (Y)
  refine ss_aload_n dX8_worked_0 0 rfl ?_
  refine ss_get (i := 105) dX8_worked_1 flX8_7 (by omega) (sh_r105 _ _) rfl ?_
  refine ss_iload_n dX8_worked_4 1 rfl ?_
  refine ss_iald (i := 106) dX8_worked_5 (by omega) (sh_r106) (by omega) (by decide) ?_
  rw [hkd]
  refine ss_tableIn (off := 45) 51 dX8_worked_6 (by decide) (by decide) (by decide) (by decide) ?_
  refine ss_aload_n dX8_worked_51 0 rfl ?_
  refine ss_iload_n dX8_worked_52 1 rfl ?_
  refine ss_iload_n dX8_worked_53 2 rfl ?_
  refine ss_callV (As := [_, _]) (i := 105) dX8_worked_54 vlX8_135 clX8_cover rfl rfl (by omega) (sh_r105 _ _) rfl (Nat.le_of_ble_eq_true rfl) (Nat.le_of_ble_eq_true rfl) (m_cover hw hP hmy hs hb0 hb2) ?_
  exact ss_lret dX8_worked_57 rfl (hQ)
set_option maxHeartbeats 1000000 in
set_option maxRecDepth 100000 in
theorem m_worked3 {c : cx} {d : Nat} {X : nX} {Y : nY} {w : Nat} (hw : w < 12) {n : Nat} (hn : n ≤ 10) (h6 : X 105 0 = nI n) {s : Nat} (hs : s < 1024) (hkd : X 106 w = nI 3) : sc c mX8_worked (d + 4) [.ref (c_ad c 105), .int (nI w), .int (nI s)] (X) (Y) (some (.long (lN (rnk (fun k => X 113 (40 * w + k)) s (Y 122) n).1))) (X) (srw Y 122 (rnk (fun k => X 113 (40 * w + k)) s (Y 122) n).2) := by
  intro Q hQ
  show ss c mX8_worked (d + 4) Q 0 [(0, .ref (c_ad c 105)), (1, .int (nI w)), (2, .int (nI s))] [] (X) (Y)
  refine ss_aload_n dX8_worked_0 0 rfl ?_
  refine ss_get (i := 105) dX8_worked_1 flX8_7 (by omega) (sh_r105 _ _) rfl ?_
  refine ss_iload_n dX8_worked_4 1 rfl ?_
  refine ss_iald (i := 106) dX8_worked_5 (by omega) (sh_r106) (by omega) (by decide) ?_
  rw [hkd]
  refine ss_tableIn (off := 52) 58 dX8_worked_6 (by decide) (by decide) (by decide) (by decide) ?_
  refine ss_aload_n dX8_worked_58 0 rfl ?_
  refine ss_iload_n dX8_worked_59 1 rfl ?_
  refine ss_iload_n dX8_worked_60 2 rfl ?_
  refine ss_callV (As := [_, _]) (i := 105) dX8_worked_61 vlX8_138 clX8_rank rfl rfl (by omega) (sh_r105 _ _) rfl (Nat.le_of_ble_eq_true rfl) (Nat.le_of_ble_eq_true rfl) (m_rank hw hn h6 hs) ?_
  exact ss_lret dX8_worked_64 rfl (hQ)
set_option maxHeartbeats 1000000 in
set_option maxRecDepth 100000 in
theorem m_worked4 {c : cx} {d : Nat} {X : nX} {Y : nY} {w : Nat} (hw : w < 12) {P : Nat} (hP : P ≤ 24) (hmy : X 109 w = nI P) (hP1 : 1 ≤ P) {W : Nat → Int32} (hW1 : ∀ k, k < P → W k = X 110 (24 * w + k)) (hW2 : ∀ k, P ≤ k → W k = X 110 (24 * w + (P - 1))) {s : Nat} (hs : s < 1024) (hkd : X 106 w = nI 4) : sc c mX8_worked (d + 4) [.ref (c_ad c 105), .int (nI w), .int (nI s)] (X) (Y) (some (.long (lsr W (cnt s 10)))) (X) (Y) := by
  intro Q hQ
  show ss c mX8_worked (d + 4) Q 0 [(0, .ref (c_ad c 105)), (1, .int (nI w)), (2, .int (nI s))] [] (X) (Y)
  refine ss_aload_n dX8_worked_0 0 rfl ?_
  refine ss_get (i := 105) dX8_worked_1 flX8_7 (by omega) (sh_r105 _ _) rfl ?_
  refine ss_iload_n dX8_worked_4 1 rfl ?_
  refine ss_iald (i := 106) dX8_worked_5 (by omega) (sh_r106) (by omega) (by decide) ?_
  rw [hkd]
  refine ss_tableIn (off := 59) 65 dX8_worked_6 (by decide) (by decide) (by decide) (by decide) ?_
  refine ss_aload_n dX8_worked_65 0 rfl ?_
  refine ss_iload_n dX8_worked_66 1 rfl ?_
  refine ss_iload_n dX8_worked_67 2 rfl ?_
  refine ss_callV (As := [_, _]) (i := 105) dX8_worked_68 vlX8_141 clX8_bent rfl rfl (by omega) (sh_r105 _ _) rfl (Nat.le_of_ble_eq_true rfl) (Nat.le_of_ble_eq_true rfl) (m_bent hw hP hmy hP1 hW1 hW2 hs) ?_
  exact ss_lret dX8_worked_71 rfl (hQ)
set_option maxHeartbeats 1000000 in
set_option maxRecDepth 100000 in
theorem m_worked5 {c : cx} {d : Nat} {X : nX} {Y : nY} {w : Nat} (hw : w < 12) {P : Nat} (hP : P ≤ 24) (hmy : X 109 w = nI P) {n : Nat} (hn : n ≤ 10) (h6 : X 105 0 = nI n) {o : Nat → Nat} (ho : ∀ k, k < P → X 110 (24 * w + k) = nI (o k)) (ho2 : ∀ k, k < P → o k < 12) {s : Nat} (hs : s < 1024) (hkd : X 106 w = nI 5) : sc c mX8_worked (d + 4) [.ref (c_ad c 105), .int (nI w), .int (nI s)] (X) (Y) (some (.long (lpr (fun t => X 114 (10 * w + t)) s (lsq (fun k => X 111 (24 * w + k)) (fun k => vr Y (o k) s) P) n))) (X) (Y) := by
  intro Q hQ
  show ss c mX8_worked (d + 4) Q 0 [(0, .ref (c_ad c 105)), (1, .int (nI w)), (2, .int (nI s))] [] (X) (Y)
  refine ss_aload_n dX8_worked_0 0 rfl ?_
  refine ss_get (i := 105) dX8_worked_1 flX8_7 (by omega) (sh_r105 _ _) rfl ?_
  refine ss_iload_n dX8_worked_4 1 rfl ?_
  refine ss_iald (i := 106) dX8_worked_5 (by omega) (sh_r106) (by omega) (by decide) ?_
  rw [hkd]
  refine ss_tableIn (off := 66) 72 dX8_worked_6 (by decide) (by decide) (by decide) (by decide) ?_
  refine ss_aload_n dX8_worked_72 0 rfl ?_
  refine ss_iload_n dX8_worked_73 1 rfl ?_
  refine ss_iload_n dX8_worked_74 2 rfl ?_
  refine ss_callV (As := [_, _]) (i := 105) dX8_worked_75 vlX8_144 clX8_sumOf rfl rfl (by omega) (sh_r105 _ _) rfl (Nat.le_of_ble_eq_true rfl) (Nat.le_of_ble_eq_true rfl) (m_sumOf hw hP hmy hs hn h6 ho ho2) ?_
  exact ss_lret dX8_worked_78 rfl (hQ)
set_option maxHeartbeats 1000000 in
set_option maxRecDepth 100000 in
theorem m_worked6 {c : cx} {d : Nat} {X : nX} {Y : nY} {w : Nat} (hw : w < 12) {q e : Nat} (hq : q < 12) (he : e < 1024) (hof : X 115 w = nI q) (hst : X 116 w = nI e) {s : Nat} (hs : s < 1024) (hkd : X 106 w = nI 6) : sc c mX8_worked (d + 4) [.ref (c_ad c 105), .int (nI w), .int (nI s)] (X) (Y) (some (.long (vr Y q (s &&& e)))) (X) (Y) := by
  intro Q hQ
  show ss c mX8_worked (d + 4) Q 0 [(0, .ref (c_ad c 105)), (1, .int (nI w)), (2, .int (nI s))] [] (X) (Y)
  refine ss_aload_n dX8_worked_0 0 rfl ?_
  refine ss_get (i := 105) dX8_worked_1 flX8_7 (by omega) (sh_r105 _ _) rfl ?_
  refine ss_iload_n dX8_worked_4 1 rfl ?_
  refine ss_iald (i := 106) dX8_worked_5 (by omega) (sh_r106) (by omega) (by decide) ?_
  rw [hkd]
  refine ss_tableIn (off := 73) 79 dX8_worked_6 (by decide) (by decide) (by decide) (by decide) ?_
  refine ss_aload_n dX8_worked_79 0 rfl ?_
  refine ss_get (i := 105) dX8_worked_80 flX8_17 (by omega) (sh_r105 _ _) rfl ?_
  refine ss_sipush (v := nI 1024) dX8_worked_83 (by decide) ?_
  refine ss_aload_n dX8_worked_86 0 rfl ?_
  refine ss_get (i := 105) dX8_worked_87 flX8_39 (by omega) (sh_r105 _ _) rfl ?_
  refine ss_iload_n dX8_worked_90 1 rfl ?_
  refine ss_iald (i := 115) dX8_worked_91 (by omega) (sh_r115) (by omega) (by decide) ?_
  rw [hof]
  refine sz_imul dX8_worked_92 ?_
  refine ss_iload_n dX8_worked_93 2 rfl ?_
  refine ss_aload_n dX8_worked_94 0 rfl ?_
  refine ss_get (i := 105) dX8_worked_95 flX8_42 (by omega) (sh_r105 _ _) rfl ?_
  refine ss_iload_n dX8_worked_98 1 rfl ?_
  refine ss_iald (i := 116) dX8_worked_99 (by omega) (sh_r116) (by omega) (by decide) ?_
  rw [hst]
  refine sz_iand dX8_worked_100 ?_
  refine sz_iadd dX8_worked_101 ?_
  refine ss_lald (i := 108) dX8_worked_102 (by omega) (sh_r108) (by have := xb_and10 (t := e) hs; have := xb_or10 hs he; omega) (by decide) ?_
  exact ss_lret dX8_worked_103 rfl (cvl rfl hQ)
set_option maxHeartbeats 1000000 in
set_option maxRecDepth 100000 in
theorem m_worked7 {c : cx} {d : Nat} {X : nX} {Y : nY} {w : Nat} (hw : w < 12) {q e : Nat} (hq : q < 12) (he : e < 1024) (hof : X 115 w = nI q) (hst : X 116 w = nI e) {s : Nat} (hs : s < 1024) (hkd : X 106 w = nI 7) : sc c mX8_worked (d + 4) [.ref (c_ad c 105), .int (nI w), .int (nI s)] (X) (Y) (some (.long (vr Y q (s ||| e) - vr Y q e))) (X) (Y) := by
  intro Q hQ
  show ss c mX8_worked (d + 4) Q 0 [(0, .ref (c_ad c 105)), (1, .int (nI w)), (2, .int (nI s))] [] (X) (Y)
  refine ss_aload_n dX8_worked_0 0 rfl ?_
  refine ss_get (i := 105) dX8_worked_1 flX8_7 (by omega) (sh_r105 _ _) rfl ?_
  refine ss_iload_n dX8_worked_4 1 rfl ?_
  refine ss_iald (i := 106) dX8_worked_5 (by omega) (sh_r106) (by omega) (by decide) ?_
  rw [hkd]
  refine ss_tableOut 104 dX8_worked_6 (by decide) (by decide) ?_
  refine ss_aload_n dX8_worked_104 0 rfl ?_
  refine ss_get (i := 105) dX8_worked_105 flX8_17 (by omega) (sh_r105 _ _) rfl ?_
  refine ss_sipush (v := nI 1024) dX8_worked_108 (by decide) ?_
  refine ss_aload_n dX8_worked_111 0 rfl ?_
  refine ss_get (i := 105) dX8_worked_112 flX8_39 (by omega) (sh_r105 _ _) rfl ?_
  refine ss_iload_n dX8_worked_115 1 rfl ?_
  refine ss_iald (i := 115) dX8_worked_116 (by omega) (sh_r115) (by omega) (by decide) ?_
  rw [hof]
  refine sz_imul dX8_worked_117 ?_
  refine ss_iload_n dX8_worked_118 2 rfl ?_
  refine ss_aload_n dX8_worked_119 0 rfl ?_
  refine ss_get (i := 105) dX8_worked_120 flX8_42 (by omega) (sh_r105 _ _) rfl ?_
  refine ss_iload_n dX8_worked_123 1 rfl ?_
  refine ss_iald (i := 116) dX8_worked_124 (by omega) (sh_r116) (by omega) (by decide) ?_
  rw [hst]
  refine sz_ior dX8_worked_125 ?_
  refine sz_iadd dX8_worked_126 ?_
  refine ss_lald (i := 108) dX8_worked_127 (by omega) (sh_r108) (by have := xb_and10 (t := e) hs; have := xb_or10 hs he; omega) (by decide) ?_
  refine ss_aload_n dX8_worked_128 0 rfl ?_
  refine ss_get (i := 105) dX8_worked_129 flX8_17 (by omega) (sh_r105 _ _) rfl ?_
  refine ss_sipush (v := nI 1024) dX8_worked_132 (by decide) ?_
  refine ss_aload_n dX8_worked_135 0 rfl ?_
  refine ss_get (i := 105) dX8_worked_136 flX8_39 (by omega) (sh_r105 _ _) rfl ?_
  refine ss_iload_n dX8_worked_139 1 rfl ?_
  refine ss_iald (i := 115) dX8_worked_140 (by omega) (sh_r115) (by omega) (by decide) ?_
  rw [hof]
  refine sz_imul dX8_worked_141 ?_
  refine ss_aload_n dX8_worked_142 0 rfl ?_
  refine ss_get (i := 105) dX8_worked_143 flX8_42 (by omega) (sh_r105 _ _) rfl ?_
  refine ss_iload_n dX8_worked_146 1 rfl ?_
  refine ss_iald (i := 116) dX8_worked_147 (by omega) (sh_r116) (by omega) (by decide) ?_
  rw [hst]
  refine sz_iadd dX8_worked_148 ?_
  refine ss_lald (i := 108) dX8_worked_149 (by omega) (sh_r108) (by have := xb_and10 (t := e) hs; have := xb_or10 hs he; omega) (by decide) ?_
  refine ss_lsub dX8_worked_150 ?_
  exact ss_lret dX8_worked_151 rfl (cvl rfl hQ)
set_option maxHeartbeats 1000000 in
set_option maxRecDepth 100000 in
theorem l_work {c : cx} {d : Nat} {X : nX} {Y : nY} {Q : Option Value → nX → nY → Prop} {w : Nat} (hw : w < 12) {n : Nat} (hn : n ≤ 10) (h6 : X 105 0 = nI n) {S : Nat} (hSn : S = 2 ^ n) {F : Nat → Int64} {T : Nat → Nat → Int64} {kd : Nat} (hkd : X 106 w = nI kd) (hk0 : kd ≠ 0) (hk8 : kd < 8) (hW : ∀ i, i < S → sc c mX8_worked (d + 4) [.ref (c_ad c 105), .int (nI w), .int (nI i)] X (ywk Y w F (T i) i) (some (.long (F i))) X (ywk Y w F (T (i + 1)) i)) (hQ : Q (some (.int (bI (!(lany (p_lg F) S))))) X (ywk Y w F (T S) S)) : ∀ (nn i : Nat), i + nn = S → ss c mX8_work (d + 5) Q 4 [(3, .int (nI i)), (2, .int (bI (!(lany (p_lg F) i)))), (0, .ref (c_ad c 105)), (1, .int (nI w))] [] (X) (ywk Y w F (T i) i) := by
  have h1n := p2_1 (n := n)
  have h2n := p2_le hn
  intro nn
  induction nn with
  | zero =>
      intro i hin
      simp only [Nat.add_zero] at hin
      subst hin
      refine ss_iload_n dX8_work_4 0 rfl ?_
      refine ss_aload_n dX8_work_5 2 rfl ?_
      refine ss_callV (As := []) (i := 105) dX8_work_6 vlX8_93 clX8_last rfl rfl (by omega) (sh_r105 _ _) rfl (Nat.le_of_ble_eq_true rfl) (Nat.le_of_ble_eq_true rfl) (m_last hn h6) ?_
      refine sz_icmp_gt 77 dX8_work_9 (by decide) (by omega) (by omega) (fun c9 => ?_) (fun c9 => by omega)
      refine ss_iload_n dX8_work_77 1 rfl ?_
      exact ss_iret dX8_work_78 rfl (bI_nar _) (hQ)
  | succ nn ih =>
      intro i hin
      refine ss_iload_n dX8_work_4 0 rfl ?_
      refine ss_aload_n dX8_work_5 2 rfl ?_
      refine ss_callV (As := []) (i := 105) dX8_work_6 vlX8_93 clX8_last rfl rfl (by omega) (sh_r105 _ _) rfl (Nat.le_of_ble_eq_true rfl) (Nat.le_of_ble_eq_true rfl) (m_last hn h6) ?_
      refine sz_icmp_gt 77 dX8_work_9 (by decide) (by omega) (by omega) (fun c9 => by omega) (fun c9 => ?_)
      refine ss_aload_n dX8_work_12 2 rfl ?_
      refine ss_get (i := 105) dX8_work_13 flX8_7 (by omega) (sh_r105 _ _) rfl ?_
      refine ss_iload_n dX8_work_16 3 rfl ?_
      refine ss_iald (i := 106) dX8_work_17 (by omega) (sh_r106) (by omega) (by decide) ?_
      rw [hkd]
      refine sz_if_eq 77 dX8_work_18 (by decide) (by omega) (fun c18 => by omega) (fun c18 => ?_)
      refine ss_aload_n dX8_work_21 2 rfl ?_
      refine ss_get (i := 105) dX8_work_22 flX8_17 (by omega) (sh_r105 _ _) rfl ?_
      refine ss_sipush (v := nI 1024) dX8_work_25 (by decide) ?_
      refine ss_iload_n dX8_work_28 3 rfl ?_
      refine sz_imul dX8_work_29 ?_
      refine ss_iload_n dX8_work_30 0 rfl ?_
      refine sz_iadd dX8_work_31 ?_
      refine ss_aload_n dX8_work_32 2 rfl ?_
      refine ss_iload_n dX8_work_33 3 rfl ?_
      refine ss_iload_n dX8_work_34 0 rfl ?_
      refine ss_callV (As := [_, _]) (i := 105) dX8_work_35 vlX8_147 clX8_worked rfl rfl (by omega) (sh_r105 _ _) rfl (Nat.le_of_ble_eq_true rfl) (Nat.le_of_ble_eq_true rfl) (hW i (by omega)) ?_
      refine ss_last (i := 108) dX8_work_38 (by omega) (sh_r108) (by omega) (by decide) ?_
      refine ss_eY (Y' := ywk Y w F (T (i + 1)) (i + 1)) (by unfold ywk; rw [upl_srw (by omega), mpl_s (by omega) shf_at.symm]; rfl) ?_
      refine ss_iload_n dX8_work_39 1 rfl ?_
      refine sy_if_eq 69 dX8_work_40 (by decide) (fun c40 => ?_) (fun c40 => ?_)
      · skip
        refine ss_iconst (v := nI 0) dX8_work_69 (by decide) ?_
        refine ss_istore_n (lv' := [(2, _), (3, _), (0, _), (1, _)]) dX8_work_70 (by decide) rfl ?_
        refine sz_inc (lv' := [(3, _), (2, _), (0, _), (1, _)]) dX8_work_71 1 rfl (by decide) rfl ?_
        refine ss_goto 4 dX8_work_74 (by decide) ?_
        have e9 : (!(lany (p_lg F) (i + 1))) = false := by rw [lany_s]; simp at c40; rw [c40]; rfl
        have h7 := ih (i + 1) (by omega)
        rw [e9] at h7
        exact h7
      · skip
        refine ss_aload_n dX8_work_43 2 rfl ?_
        refine ss_get (i := 105) dX8_work_44 flX8_17 (by omega) (sh_r105 _ _) rfl ?_
        refine ss_sipush (v := nI 1024) dX8_work_47 (by decide) ?_
        refine ss_iload_n dX8_work_50 3 rfl ?_
        refine sz_imul dX8_work_51 ?_
        refine ss_iload_n dX8_work_52 0 rfl ?_
        refine sz_iadd dX8_work_53 ?_
        refine ss_lald (i := 108) dX8_work_54 (by omega) (sh_r108) (by omega) (by decide) ?_
        rw [show ywk Y w F (T (i + 1)) (i + 1) 108 (1024 * w + i) = F i from by unfold ywk; rw [srw_ne (by omega), mpl_lt (by omega) (by omega), shf_at]]
        refine ss_callS (As := [_]) dX8_work_55 vlX8_124 clX8_size rfl rfl (Nat.le_of_ble_eq_true rfl) (Nat.le_of_ble_eq_true rfl) (m_size) ?_
        refine ss_ldc2 dX8_work_58 kcX8_150 ?_
        refine sv_gt 69 dX8_work_61 dX8_work_62 (by decide) (fun c61 => ?_) (fun c61 => ?_)
        · skip
          refine ss_iconst (v := nI 0) dX8_work_69 (by decide) ?_
          refine ss_istore_n (lv' := [(2, _), (3, _), (0, _), (1, _)]) dX8_work_70 (by decide) rfl ?_
          refine sz_inc (lv' := [(3, _), (2, _), (0, _), (1, _)]) dX8_work_71 1 rfl (by decide) rfl ?_
          refine ss_goto 4 dX8_work_74 (by decide) ?_
          have e9 : (!(lany (p_lg F) (i + 1))) = false := by rw [lany_s, show p_lg F i = true from p_lg_t c61]; simp
          have h7 := ih (i + 1) (by omega)
          rw [e9] at h7
          exact h7
        · skip
          refine ss_iconst (v := nI 1) dX8_work_65 (by decide) ?_
          refine ss_goto 70 dX8_work_66 (by decide) ?_
          refine ss_istore_n (lv' := [(2, _), (3, _), (0, _), (1, _)]) dX8_work_70 (by decide) rfl ?_
          refine sz_inc (lv' := [(3, _), (2, _), (0, _), (1, _)]) dX8_work_71 1 rfl (by decide) rfl ?_
          refine ss_goto 4 dX8_work_74 (by decide) ?_
          have e9 : (!(lany (p_lg F) (i + 1))) = true := by rw [lany_s, show p_lg F i = false from p_lg_f c61]; simpa using c40
          have h7 := ih (i + 1) (by omega)
          rw [e9] at h7
          exact h7
set_option maxHeartbeats 1000000 in
set_option maxRecDepth 100000 in
theorem m_work {c : cx} {d : Nat} {X : nX} {Y : nY} {w : Nat} (hw : w < 12) {n : Nat} (hn : n ≤ 10) (h6 : X 105 0 = nI n) {F : Nat → Int64} {T : Nat → Nat → Int64} {kd : Nat} (hkd : X 106 w = nI kd) (hk0 : kd ≠ 0) (hk8 : kd < 8) (hT : T 0 = Y 122) (hW : ∀ i, i < 2 ^ n → sc c mX8_worked (d + 4) [.ref (c_ad c 105), .int (nI w), .int (nI i)] X (ywk Y w F (T i) i) (some (.long (F i))) X (ywk Y w F (T (i + 1)) i)) : sc c mX8_work (d + 5) [.ref (c_ad c 105), .int (nI w)] (X) (Y) (some (.int (bI (!(lany (p_lg F) (2 ^ n)))))) (X) (ywk Y w F (T (2 ^ n)) (2 ^ n)) := by
  intro Q hQ
  show ss c mX8_work (d + 5) Q 0 [(0, .ref (c_ad c 105)), (1, .int (nI w))] [] (X) (Y)
  refine ss_iconst (v := nI 1) dX8_work_0 (by decide) ?_
  refine ss_istore_n (lv' := [(2, _), (0, _), (1, _)]) dX8_work_1 (by decide) rfl ?_
  refine ss_iconst (v := nI 0) dX8_work_2 (by decide) ?_
  refine ss_istore_n (lv' := [(3, _), (2, _), (0, _), (1, _)]) dX8_work_3 (by decide) rfl ?_
  refine ss_eY (Y' := ywk Y w F (T 0) 0) (by unfold ywk; rw [show 1024 * w + 0 = 1024 * w from rfl, mpl_0, hT, srw_self]) ?_
  exact l_work hw hn h6 rfl hkd hk0 hk8 hW hQ (2 ^ n) 0 (by omega)
set_option maxHeartbeats 1000000 in
set_option maxRecDepth 100000 in
theorem m_isOf {c : cx} {d : Nat} {X : nX} {Y : nY} {w : Nat} (hw : w < 12) {k : Int32} : sc c mX8_isOf d [.ref (c_ad c 105), .int (nI w), .int k] (X) (Y) (some (.int (bI (decide (X 106 w = k))))) (up2 X 105 19 (if X 106 w = k then nI 0 else nI 5)) (Y) := by
  intro Q hQ
  show ss c mX8_isOf d Q 0 [(0, .ref (c_ad c 105)), (1, .int (nI w)), (2, .int k)] [] (X) (Y)
  refine ss_aload_n dX8_isOf_0 0 rfl ?_
  refine ss_aload_n dX8_isOf_1 0 rfl ?_
  refine ss_get (i := 105) dX8_isOf_2 flX8_7 (by omega) (sh_r105 _ _) rfl ?_
  refine ss_iload_n dX8_isOf_5 1 rfl ?_
  refine ss_iald (i := 106) dX8_isOf_6 (by omega) (sh_r106) (by omega) (by decide) ?_
  refine ss_iload_n dX8_isOf_7 2 rfl ?_
  refine ss_icmp_ne 15 dX8_isOf_8 (by decide) (fun c8 => ?_) (fun c8 => ?_)
  · skip
    refine ss_iconst (v := 5) dX8_isOf_15 (by decide) ?_
    refine ss_put (i := 105) dX8_isOf_16 fwX8_105 (by omega) (sh_r105 _ _) rfl rfl (Nat.le_of_ble_eq_true rfl) (sh_r105 _ _) ?_
    refine ss_aload_n dX8_isOf_19 0 rfl ?_
    refine ss_get (i := 105) dX8_isOf_20 flX8_105 (by omega) (sh_r105 _ _) rfl ?_
    rw [up2_at, if_pos ⟨rfl, rfl⟩]
    refine ss_if_ne 30 dX8_isOf_23 (by decide) (fun c23 => ?_) (fun c23 => absurd c23 (by decide))
    refine ss_iconst (v := nI 0) dX8_isOf_30 (by decide) ?_
    exact ss_iret dX8_isOf_31 rfl rfl (cvx (by rw [decide_eq_false c8]; rfl) (by rw [if_neg c8] <;> rfl) rfl hQ)
  · skip
    refine ss_iconst (v := 0) dX8_isOf_11 (by decide) ?_
    refine ss_goto 16 dX8_isOf_12 (by decide) ?_
    refine ss_put (i := 105) dX8_isOf_16 fwX8_105 (by omega) (sh_r105 _ _) rfl rfl (Nat.le_of_ble_eq_true rfl) (sh_r105 _ _) ?_
    refine ss_aload_n dX8_isOf_19 0 rfl ?_
    refine ss_get (i := 105) dX8_isOf_20 flX8_105 (by omega) (sh_r105 _ _) rfl ?_
    rw [up2_at, if_pos ⟨rfl, rfl⟩]
    refine ss_if_ne 30 dX8_isOf_23 (by decide) (fun c23 => absurd rfl c23) (fun c23 => ?_)
    refine ss_iconst (v := nI 1) dX8_isOf_26 (by decide) ?_
    refine ss_goto 31 dX8_isOf_27 (by decide) ?_
    exact ss_iret dX8_isOf_31 rfl rfl (cvx (by rw [decide_eq_true c8]; rfl) (by rw [if_pos c8] <;> rfl) rfl hQ)
set_option maxHeartbeats 1000000 in
set_option maxRecDepth 100000 in
theorem m_refuse {c : cx} {d : Nat} {X : nX} {Y : nY} {h k : Int32} : sc c mX8_refuse d [.ref (c_ad c 105), .int h, .int k] (X) (Y) (some (.int h)) (up2 X 105 19 k) (Y) := by
  intro Q hQ
  show ss c mX8_refuse d Q 0 [(0, .ref (c_ad c 105)), (1, .int h), (2, .int k)] [] (X) (Y)
  refine ss_aload_n dX8_refuse_0 0 rfl ?_
  refine ss_iload_n dX8_refuse_1 2 rfl ?_
  refine ss_put (i := 105) dX8_refuse_2 fwX8_105 (by omega) (sh_r105 _ _) rfl rfl (Nat.le_of_ble_eq_true rfl) (sh_r105 _ _) ?_
  refine ss_iload_n dX8_refuse_5 1 rfl ?_
  exact ss_iret dX8_refuse_6 rfl rfl (hQ)
def x_mo (X : nX) (w P : Nat) (a b e : Int32) : nX := up2 (up2 (up2 (up2 X 110 (24 * w + P) a) 111 (24 * w + P) b) 112 (24 * w + P) e) 109 w (nI (P + 1))
set_option maxHeartbeats 1000000 in
set_option maxRecDepth 100000 in
theorem m_more {c : cx} {d : Nat} {X : nX} {Y : nY} {w : Nat} (hw : w < 12) {P : Nat} (hP : P < 24) (hmy : X 109 w = nI P) {a b e : Int32} {g : Bool} {Y1 : nY} (hW : sc c mX8_work (d + 5) [.ref (c_ad c 105), .int (nI w)] (x_mo X w P a b e) Y (some (.int (bI g))) (x_mo X w P a b e) Y1) : sc c mX8_more (d + 6) [.ref (c_ad c 105), .int (nI w), .int a, .int b, .int e] (X) (Y) (some (.int (nI (P + 1)))) (x_mo X w P a b e) (Y1) := by
  intro Q hQ
  show ss c mX8_more (d + 6) Q 0 [(0, .ref (c_ad c 105)), (1, .int (nI w)), (2, .int a), (3, .int b), (4, .int e)] [] (X) (Y)
  refine ss_aload_n dX8_more_0 0 rfl ?_
  refine ss_get (i := 105) dX8_more_1 flX8_24 (by omega) (sh_r105 _ _) rfl ?_
  refine ss_bipush (v := nI 24) dX8_more_4 (by decide) ?_
  refine ss_iload_n dX8_more_6 1 rfl ?_
  refine sz_imul dX8_more_7 ?_
  refine ss_aload_n dX8_more_8 0 rfl ?_
  refine ss_get (i := 105) dX8_more_9 flX8_21 (by omega) (sh_r105 _ _) rfl ?_
  refine ss_iload_n dX8_more_12 1 rfl ?_
  refine ss_iald (i := 109) dX8_more_13 (by omega) (sh_r109) (by omega) (by decide) ?_
  rw [hmy]
  refine sz_iadd dX8_more_14 ?_
  refine ss_iload_n dX8_more_15 2 rfl ?_
  refine ss_iast (i := 110) dX8_more_16 (by omega) (sh_r110) (by omega) (by decide) ?_
  refine ss_aload_n dX8_more_17 0 rfl ?_
  refine ss_get (i := 105) dX8_more_18 flX8_27 (by omega) (sh_r105 _ _) rfl ?_
  refine ss_bipush (v := nI 24) dX8_more_21 (by decide) ?_
  refine ss_iload_n dX8_more_23 1 rfl ?_
  refine sz_imul dX8_more_24 ?_
  refine ss_aload_n dX8_more_25 0 rfl ?_
  refine ss_get (i := 105) dX8_more_26 flX8_21 (by omega) (sh_r105 _ _) rfl ?_
  refine ss_iload_n dX8_more_29 1 rfl ?_
  refine ss_iald (i := 109) dX8_more_30 (by omega) (sh_r109) (by omega) (by decide) ?_
  rw [up2_at, if_neg (by omega), hmy]
  refine sz_iadd dX8_more_31 ?_
  refine ss_iload_n dX8_more_32 3 rfl ?_
  refine ss_iast (i := 111) dX8_more_33 (by omega) (sh_r111) (by omega) (by decide) ?_
  refine ss_aload_n dX8_more_34 0 rfl ?_
  refine ss_get (i := 105) dX8_more_35 flX8_30 (by omega) (sh_r105 _ _) rfl ?_
  refine ss_bipush (v := nI 24) dX8_more_38 (by decide) ?_
  refine ss_iload_n dX8_more_40 1 rfl ?_
  refine sz_imul dX8_more_41 ?_
  refine ss_aload_n dX8_more_42 0 rfl ?_
  refine ss_get (i := 105) dX8_more_43 flX8_21 (by omega) (sh_r105 _ _) rfl ?_
  refine ss_iload_n dX8_more_46 1 rfl ?_
  refine ss_iald (i := 109) dX8_more_47 (by omega) (sh_r109) (by omega) (by decide) ?_
  rw [up2_at, if_neg (by omega), up2_at, if_neg (by omega), hmy]
  refine sz_iadd dX8_more_48 ?_
  refine ss_iload dX8_more_49 4 rfl ?_
  refine ss_iast (i := 112) dX8_more_51 (by omega) (sh_r112) (by omega) (by decide) ?_
  refine ss_aload_n dX8_more_52 0 rfl ?_
  refine ss_get (i := 105) dX8_more_53 flX8_21 (by omega) (sh_r105 _ _) rfl ?_
  refine ss_iload_n dX8_more_56 1 rfl ?_
  refine ss_dup2 dX8_more_57 rfl rfl ?_
  refine ss_iald (i := 109) dX8_more_58 (by omega) (sh_r109) (by omega) (by decide) ?_
  rw [up2_at, if_neg (by omega), up2_at, if_neg (by omega), up2_at, if_neg (by omega), hmy]
  refine ss_iconst (v := nI 1) dX8_more_59 (by decide) ?_
  refine sz_iadd dX8_more_60 ?_
  refine ss_iast (i := 109) dX8_more_61 (by omega) (sh_r109) (by omega) (by decide) ?_
  refine ss_aload_n dX8_more_62 0 rfl ?_
  refine ss_iload_n dX8_more_63 1 rfl ?_
  refine ss_callV (As := [_]) (i := 105) dX8_more_64 vlX8_163 clX8_work rfl rfl (by omega) (sh_r105 _ _) rfl (Nat.le_of_ble_eq_true rfl) (Nat.le_of_ble_eq_true rfl) (hW) ?_
  refine ss_istore (lv' := [(5, _), (0, _), (1, _), (2, _), (3, _), (4, _)]) dX8_more_67 (by decide) rfl ?_
  refine ss_aload_n dX8_more_69 1 rfl ?_
  refine ss_get (i := 105) dX8_more_70 flX8_21 (by omega) (sh_r105 _ _) rfl ?_
  refine ss_iload_n dX8_more_73 2 rfl ?_
  refine ss_iald (i := 109) dX8_more_74 (by omega) (sh_r109) (by omega) (by decide) ?_
  rw [show x_mo X w P a b e 109 w = nI (P + 1) from by unfold x_mo; rw [up2_at, if_pos ⟨rfl, rfl⟩]]
  exact ss_iret dX8_more_75 rfl rfl (hQ)
