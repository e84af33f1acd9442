def cmx (C : Nat → Nat) (s i : Nat) : Nat → Nat := fun t => if t < i ∧ hb s t = true then C t &&& s else C t
theorem cmx_at {C : Nat → Nat} {s i : Nat} : cmx C s i i = C i := by unfold cmx; rw [if_neg (by omega)]
theorem cmx_0 {C : Nat → Nat} {s : Nat} : cmx C s 0 = C := by funext t; unfold cmx; rw [if_neg (by omega)]
theorem cmx_s {C : Nat → Nat} {s i : Nat} (h : hb s i = true) : (fun k => if k = i then C i &&& s else cmx C s i k) = cmx C s (i + 1) := by
  funext t
  unfold cmx
  by_cases h1 : t = i
  · subst h1; simp [h]
  · simp only [h1, if_false]
    by_cases h2 : t < i ∧ hb s t = true
    · rw [if_pos h2, if_pos ⟨by omega, h2.2⟩]
    · rw [if_neg h2, if_neg (fun h9 => h2 ⟨by omega, h9.2⟩)]
theorem cmx_k {C : Nat → Nat} {s i : Nat} (h : hb s i = false) : cmx C s i = cmx C s (i + 1) := by
  funext t
  unfold cmx
  by_cases h1 : t = i
  · subst h1; simp [h]
  · by_cases h2 : t < i ∧ hb s t = true
    · rw [if_pos h2, if_pos ⟨by omega, h2.2⟩]
    · rw [if_neg h2, if_neg (fun h9 => h2 ⟨by omega, h9.2⟩)]
def ccm (P : Nat → Bool) (l : Nat) : Nat → (Nat → Nat)
  | 0 => fun _ => l
  | i + 1 => if P i = true then cmx (ccm P l i) i 10 else ccm P l i
theorem xls_init {X : nX} {l : Nat} : mpx (up2 (up2 (up2 X 96 1 (nI 0)) 96 2 (nI l)) 96 3 (nI 0)) 97 0 10 (fun _ => nI l) = xls X 0 l 0 (fun _ => l) := by
  funext i k
  simp only [mpx_def, up2_at, xls]
  by_cases h1 : i = 96
  · subst h1
    by_cases h2 : k = 1
    · subst h2; simp
    · by_cases h3 : k = 2
      · subst h3; simp
      · by_cases h4 : k = 3
        · subst h4; simp
        · simp [h2, h3, h4]
  · by_cases h2 : i = 97
    · subst h2
      by_cases h3 : k < 10 <;> simp [h3]
    · simp [h1, h2]
set_option maxHeartbeats 4000000 in
set_option maxRecDepth 100000 in
theorem l_take {c : cx} {d : Nat} {X : nX} {Y : nY} {Q : Option Value → nX → nY → Prop} {h a b : Nat} {C : Nat → Nat} {s : Nat} (hs : s < 1024) (hQ : Q none (xls X h a b (cmx C s 10)) Y) : ∀ (nn i : Nat), i + nn = 10 → ss c mX1_take (d + 1) Q 32 [(2, .int (nI i)), (0, .ref (c_ad c 96)), (1, .int (nI s))] [] (xls X h a b (cmx C s i)) (Y) := by
  intro nn
  induction nn with
  | zero =>
      intro i hin
      simp only [Nat.add_zero] at hin
      subst hin
      refine ss_iload_n dX1_take_32 0 rfl ?_
      refine ss_bipush (v := nI 10) dX1_take_33 (by decide) ?_
      refine sz_icmp_ge 62 dX1_take_35 (by decide) (by omega) (by omega) (fun c35 => ?_) (fun c35 => by omega)
      exact ss_vret dX1_take_62 rfl (hQ)
  | succ nn ih =>
      intro i hin
      refine ss_iload_n dX1_take_32 0 rfl ?_
      refine ss_bipush (v := nI 10) dX1_take_33 (by decide) ?_
      refine sz_icmp_ge 62 dX1_take_35 (by decide) (by omega) (by omega) (fun c35 => by omega) (fun c35 => ?_)
      refine ss_iload_n dX1_take_38 2 rfl ?_
      refine ss_iload_n dX1_take_39 0 rfl ?_
      refine ss_callSN (As := [_, _]) dX1_take_40 vlX1_42 clX7_hasThing rfl rfl (Nat.le_of_ble_eq_true rfl) (Nat.le_of_ble_eq_true rfl) (q_hasThing (by omega) (by omega)) ?_
      refine sy_if_eq 56 dX1_take_43 (by decide) (fun c43 => ?_) (fun c43 => ?_)
      · skip
        refine sz_inc (lv' := [(2, _), (0, _), (1, _)]) dX1_take_56 0 rfl (by decide) rfl ?_
        refine ss_goto 32 dX1_take_59 (by decide) ?_
        rw [cmx_k c43]
        exact ih (i + 1) (by omega)
      · skip
        refine ss_aload_n dX1_take_46 1 rfl ?_
        refine ss_get (i := 96) dX1_take_47 flX1_9 (by omega) (sh_r96 _ _) rfl ?_
        refine ss_iload_n dX1_take_50 0 rfl ?_
        refine ss_dup2 dX1_take_51 rfl rfl ?_
        refine ss_iald (i := 97) dX1_take_52 (by omega) (sh_r97) (by omega) (by decide) ?_
        rw [xls_atc (by omega), cmx_at]
        refine ss_iload_n dX1_take_53 2 rfl ?_
        refine sz_iand dX1_take_54 ?_
        refine ss_iast (i := 97) dX1_take_55 (by omega) (sh_r97) (by omega) (by decide) ?_
        refine sz_inc (lv' := [(2, _), (0, _), (1, _)]) dX1_take_56 0 rfl (by decide) rfl ?_
        refine ss_goto 32 dX1_take_59 (by decide) ?_
        refine ss_eX ((xls_c (by omega)).trans (by rw [cmx_s c43])) ?_
        exact ih (i + 1) (by omega)
set_option maxHeartbeats 4000000 in
set_option maxRecDepth 100000 in
theorem q_take {c : cx} {d : Nat} {X : nX} {Y : nY} {h a b : Nat} {C : Nat → Nat} {s : Nat} (hs : s < 1024) : sc c mX1_take (d + 1) [.ref (c_ad c 96), .int (nI s)] (xls X h a b C) (Y) none (xls X (h + 1) (a &&& s) (b ||| s) (cmx C s 10)) (Y) := by
  intro Q hQ
  show ss c mX1_take (d + 1) Q 0 [(0, .ref (c_ad c 96)), (1, .int (nI s))] [] (xls X h a b C) (Y)
  refine ss_aload_n dX1_take_0 0 rfl ?_
  refine ss_dup dX1_take_1 rfl ?_
  refine ss_get (i := 96) dX1_take_2 flX1_25 (by omega) (sh_r96 _ _) rfl ?_
  rw [xls_at1]
  refine ss_iconst (v := nI 1) dX1_take_5 (by decide) ?_
  refine sz_iadd dX1_take_6 ?_
  refine ss_put (i := 96) dX1_take_7 fwX1_25 (by omega) (sh_r96 _ _) rfl rfl (Nat.le_of_ble_eq_true rfl) (sh_r96 _ _) ?_
  refine ss_eX xls_1 ?_
  refine ss_aload_n dX1_take_10 0 rfl ?_
  refine ss_dup dX1_take_11 rfl ?_
  refine ss_get (i := 96) dX1_take_12 flX1_28 (by omega) (sh_r96 _ _) rfl ?_
  rw [xls_at2]
  refine ss_iload_n dX1_take_15 1 rfl ?_
  refine sz_iand dX1_take_16 ?_
  refine ss_put (i := 96) dX1_take_17 fwX1_28 (by omega) (sh_r96 _ _) rfl rfl (Nat.le_of_ble_eq_true rfl) (sh_r96 _ _) ?_
  refine ss_eX xls_2 ?_
  refine ss_aload_n dX1_take_20 0 rfl ?_
  refine ss_dup dX1_take_21 rfl ?_
  refine ss_get (i := 96) dX1_take_22 flX1_31 (by omega) (sh_r96 _ _) rfl ?_
  rw [xls_at3]
  refine ss_iload_n dX1_take_25 1 rfl ?_
  refine sz_ior dX1_take_26 ?_
  refine ss_put (i := 96) dX1_take_27 fwX1_31 (by omega) (sh_r96 _ _) rfl rfl (Nat.le_of_ble_eq_true rfl) (sh_r96 _ _) ?_
  refine ss_eX xls_3 ?_
  refine ss_iconst (v := nI 0) dX1_take_30 (by decide) ?_
  refine ss_istore_n (lv' := [(2, _), (0, _), (1, _)]) dX1_take_31 (by decide) rfl ?_
  have h9 := l_take (X := X) (Y := Y) (c := c) (d := d) (h := h + 1) (a := a &&& s) (b := b ||| s) (C := C) hs hQ 10 0 (by omega)
  rw [cmx_0] at h9
  exact h9
set_option maxHeartbeats 4000000 in
set_option maxRecDepth 100000 in
theorem l_gatherL2 {c : cx} {d : Nat} {X : nX} {Y : nY} {Q : Option Value → nX → nY → Prop} {w : Nat} (hw : w < 12) {S : Nat} (hS : S ≤ 1024) (hS1 : 1 ≤ S) (hQ : Q none (xls X (lcn (p_low (Y (3 + 7 * w)) S) S) (lal (p_low (Y (3 + 7 * w)) S) (S - 1) S) (lso (p_low (Y (3 + 7 * w)) S) S) (ccm (p_low (Y (3 + 7 * w)) S) (S - 1) S)) Y) : ∀ (nn i : Nat), i + nn = S → ss c mX1_gather (d + 2) Q 57 [(5, .int (nI i)), (4, .int (nI (S - 1))), (2, .long (lmn (Y (3 + 7 * w)) S)), (0, .ref (c_ad c 96)), (1, .ref (c_ad c (2 + 7 * w)))] [] (xls X (lcn (p_low (Y (3 + 7 * w)) S) i) (lal (p_low (Y (3 + 7 * w)) S) (S - 1) i) (lso (p_low (Y (3 + 7 * w)) S) i) (ccm (p_low (Y (3 + 7 * w)) S) (S - 1) i)) (Y) := by
  intro nn
  induction nn with
  | zero =>
      intro i hin
      simp only [Nat.add_zero] at hin
      subst hin
      refine ss_iload dX1_gather_57 0 rfl ?_
      refine ss_iload dX1_gather_59 1 rfl ?_
      refine sz_icmp_gt 88 dX1_gather_61 (by decide) (by omega) (by omega) (fun c61 => ?_) (fun c61 => by omega)
      exact ss_vret dX1_gather_88 rfl (hQ)
  | succ nn ih =>
      intro i hin
      refine ss_iload dX1_gather_57 0 rfl ?_
      refine ss_iload dX1_gather_59 1 rfl ?_
      refine sz_icmp_gt 88 dX1_gather_61 (by decide) (by omega) (by omega) (fun c61 => by omega) (fun c61 => ?_)
      refine ss_aload_n dX1_gather_64 4 rfl ?_
      refine ss_get (i := 2 + 7 * w) dX1_gather_65 flX1_34 (by omega) (sh_w0 hw _ _) rfl ?_
      refine ss_iload dX1_gather_68 0 rfl ?_
      refine ss_lald (i := 3 + 7 * w) dX1_gather_70 (by omega) (sh_w1 hw) (by omega) (by decide) ?_
      refine ss_lload_n dX1_gather_71 2 rfl ?_
      refine sv_ne 82 dX1_gather_72 dX1_gather_73 (by decide) (fun c72 => ?_) (fun c72 => ?_)
      · skip
        refine sz_inc (lv' := [(5, _), (4, _), (2, _), (0, _), (1, _)]) dX1_gather_82 0 rfl (by decide) rfl ?_
        refine ss_goto 57 dX1_gather_85 (by decide) ?_
        have e9 : p_low (Y (3 + 7 * w)) S i = false := by simp [p_low, c72]
        refine ss_eX (X' := xls X (lcn (p_low (Y (3 + 7 * w)) S) (i + 1)) (lal (p_low (Y (3 + 7 * w)) S) (S - 1) (i + 1)) (lso (p_low (Y (3 + 7 * w)) S) (i + 1)) (ccm (p_low (Y (3 + 7 * w)) S) (S - 1) (i + 1))) (by simp [lcn, lal, lso, ccm, e9]) ?_
        exact ih (i + 1) (by omega)
      · skip
        refine ss_aload_n dX1_gather_76 3 rfl ?_
        refine ss_iload dX1_gather_77 0 rfl ?_
        refine ss_callV (As := [_]) (i := 96) dX1_gather_79 vlX1_38 clX1_take rfl rfl (by omega) (sh_r96 _ _) rfl (Nat.le_of_ble_eq_true rfl) (Nat.le_of_ble_eq_true rfl) (q_take (by omega)) ?_
        refine sz_inc (lv' := [(5, _), (4, _), (2, _), (0, _), (1, _)]) dX1_gather_82 0 rfl (by decide) rfl ?_
        refine ss_goto 57 dX1_gather_85 (by decide) ?_
        have e9 : p_low (Y (3 + 7 * w)) S i = true := by simp [p_low, c72]
        refine ss_eX (X' := xls X (lcn (p_low (Y (3 + 7 * w)) S) (i + 1)) (lal (p_low (Y (3 + 7 * w)) S) (S - 1) (i + 1)) (lso (p_low (Y (3 + 7 * w)) S) (i + 1)) (ccm (p_low (Y (3 + 7 * w)) S) (S - 1) (i + 1))) (by simp [lcn, lal, lso, ccm, e9]) ?_
        exact ih (i + 1) (by omega)
set_option maxHeartbeats 4000000 in
set_option maxRecDepth 100000 in
theorem l_gatherL1 {c : cx} {d : Nat} {X : nX} {Y : nY} {Q : Option Value → nX → nY → Prop} {w : Nat} (hw : w < 12) {S : Nat} (hS : S ≤ 1024) {lo : Int64} (hQ : ss c mX1_gather (d + 2) Q 54 [(5, .int (nI 10)), (4, .int (nI (S - 1))), (2, .long lo), (0, .ref (c_ad c 96)), (1, .ref (c_ad c (2 + 7 * w)))] [] (mpx X 97 0 10 (fun _ => nI (S - 1))) Y) : ∀ (nn i : Nat), i + nn = 10 → ss c mX1_gather (d + 2) Q 32 [(5, .int (nI i)), (4, .int (nI (S - 1))), (2, .long lo), (0, .ref (c_ad c 96)), (1, .ref (c_ad c (2 + 7 * w)))] [] (mpx X 97 0 i (fun _ => nI (S - 1))) (Y) := by
  intro nn
  induction nn with
  | zero =>
      intro i hin
      simp only [Nat.add_zero] at hin
      subst hin
      refine ss_iload dX1_gather_32 0 rfl ?_
      refine ss_bipush (v := nI 10) dX1_gather_34 (by decide) ?_
      refine sz_icmp_ge 54 dX1_gather_36 (by decide) (by omega) (by omega) (fun c36 => ?_) (fun c36 => by omega)
      exact hQ
  | succ nn ih =>
      intro i hin
      refine ss_iload dX1_gather_32 0 rfl ?_
      refine ss_bipush (v := nI 10) dX1_gather_34 (by decide) ?_
      refine sz_icmp_ge 54 dX1_gather_36 (by decide) (by omega) (by omega) (fun c36 => by omega) (fun c36 => ?_)
      refine ss_aload_n dX1_gather_39 3 rfl ?_
      refine ss_get (i := 96) dX1_gather_40 flX1_9 (by omega) (sh_r96 _ _) rfl ?_
      refine ss_iload dX1_gather_43 0 rfl ?_
      refine ss_iload dX1_gather_45 1 rfl ?_
      refine ss_iast (i := 97) dX1_gather_47 (by omega) (sh_r97) (by omega) (by decide) ?_
      refine sz_inc (lv' := [(5, _), (4, _), (2, _), (0, _), (1, _)]) dX1_gather_48 0 rfl (by decide) rfl ?_
      refine ss_goto 32 dX1_gather_51 (by decide) ?_
      refine ss_eX (mpx_s (Nat.zero_le _) rfl) ?_
      exact ih (i + 1) (by omega)
set_option maxHeartbeats 4000000 in
set_option maxRecDepth 100000 in
theorem q_gatherL {c : cx} {d : Nat} {X : nX} {Y : nY} {w : Nat} (hw : w < 12) {S : Nat} (hS : S ≤ 1024) (hse : X (2 + 7 * w) 7 = nI S) (hS1 : 1 ≤ S) : sc c mX1_gather (d + 2) [.ref (c_ad c 96), .ref (c_ad c (2 + 7 * w))] (X) (Y) none (xls X (lcn (p_low (Y (3 + 7 * w)) S) S) (lal (p_low (Y (3 + 7 * w)) S) (S - 1) S) (lso (p_low (Y (3 + 7 * w)) S) S) (ccm (p_low (Y (3 + 7 * w)) S) (S - 1) S)) (Y) := by
  intro Q hQ
  show ss c mX1_gather (d + 2) Q 0 [(0, .ref (c_ad c 96)), (1, .ref (c_ad c (2 + 7 * w)))] [] (X) (Y)
  refine ss_aload_n dX1_gather_0 1 rfl ?_
  refine ss_callV (As := []) (i := 2 + 7 * w) dX1_gather_1 vlX1_15 clX6_leastValue rfl rfl (by omega) (sh_w0 hw _ _) rfl (Nat.le_of_ble_eq_true rfl) (Nat.le_of_ble_eq_true rfl) (q_leastValue hw hS hse) ?_
  refine ss_lstore_n (lv' := [(2, _), (0, _), (1, _)]) dX1_gather_4 (by decide) rfl ?_
  refine ss_aload_n dX1_gather_5 2 rfl ?_
  refine ss_get (i := 2 + 7 * w) dX1_gather_6 flX1_21 (by omega) (sh_w0 hw _ _) rfl ?_
  rw [hse]
  refine ss_iconst (v := nI 1) dX1_gather_9 (by decide) ?_
  refine sz_isub dX1_gather_10 (by omega) ?_
  refine ss_istore (lv' := [(4, _), (2, _), (0, _), (1, _)]) dX1_gather_11 (by decide) rfl ?_
  refine ss_aload_n dX1_gather_13 2 rfl ?_
  refine ss_iconst (v := nI 0) dX1_gather_14 (by decide) ?_
  refine ss_put (i := 96) dX1_gather_15 fwX1_25 (by omega) (sh_r96 _ _) rfl rfl (Nat.le_of_ble_eq_true rfl) (sh_r96 _ _) ?_
  refine ss_aload_n dX1_gather_18 2 rfl ?_
  refine ss_iload dX1_gather_19 0 rfl ?_
  refine ss_put (i := 96) dX1_gather_21 fwX1_28 (by omega) (sh_r96 _ _) rfl rfl (Nat.le_of_ble_eq_true rfl) (sh_r96 _ _) ?_
  refine ss_aload_n dX1_gather_24 2 rfl ?_
  refine ss_iconst (v := nI 0) dX1_gather_25 (by decide) ?_
  refine ss_put (i := 96) dX1_gather_26 fwX1_31 (by omega) (sh_r96 _ _) rfl rfl (Nat.le_of_ble_eq_true rfl) (sh_r96 _ _) ?_
  refine ss_iconst (v := nI 0) dX1_gather_29 (by decide) ?_
  refine ss_istore (lv' := [(5, _), (4, _), (2, _), (0, _), (1, _)]) dX1_gather_30 (by decide) rfl ?_
  refine ss_eX (X' := mpx (up2 (up2 (up2 X 96 1 (nI 0)) 96 2 (nI (S - 1))) 96 3 (nI 0)) 97 0 0 (fun _ => nI (S - 1))) mpx_0.symm ?_
  refine l_gatherL1 hw hS ?_ 10 0 (by omega)
  refine ss_eX xls_init ?_
  refine ss_iconst (v := nI 0) dX1_gather_54 (by decide) ?_
  refine ss_istore (lv' := [(5, _), (4, _), (2, _), (0, _), (1, _)]) dX1_gather_55 (by decide) rfl ?_
  exact l_gatherL2 hw hS hS1 hQ S 0 (by omega)
set_option maxHeartbeats 4000000 in
set_option maxRecDepth 100000 in
theorem l_hasCompanions {c : cx} {d : Nat} {X : nX} {Y : nY} {Q : Option Value → nX → nY → Prop} {h a b : Nat} {C : Nat → Nat} {k : Nat} (hk : k < 1024) (hC : ∀ t, C t < 1024) (hQ : Q (some (.int (bI (!(lany (p_com C k) 10))))) (xls X h a b C) Y) : ∀ (nn i : Nat), i + nn = 10 → (ffind (p_com C k) i = none) → ss c mX1_hasCompanions (d + 1) Q 2 [(2, .int (nI i)), (0, .ref (c_ad c 96)), (1, .int (nI k))] [] (xls X h a b C) (Y) := by
  intro nn
  induction nn with
  | zero =>
      intro i hin hinv
      simp only [Nat.add_zero] at hin
      subst hin
      refine ss_iload_n dX1_hasCompanions_2 0 rfl ?_
      refine ss_bipush (v := nI 10) dX1_hasCompanions_3 (by decide) ?_
      refine sz_icmp_ge 37 dX1_hasCompanions_5 (by decide) (by omega) (by omega) (fun c5 => ?_) (fun c5 => by omega)
      refine ss_iconst (v := nI 1) dX1_hasCompanions_37 (by decide) ?_
      exact ss_iret dX1_hasCompanions_38 rfl rfl (cvi (by rw [lany_f hinv]; rfl) hQ)
  | succ nn ih =>
      intro i hin hinv
      refine ss_iload_n dX1_hasCompanions_2 0 rfl ?_
      refine ss_bipush (v := nI 10) dX1_hasCompanions_3 (by decide) ?_
      refine sz_icmp_ge 37 dX1_hasCompanions_5 (by decide) (by omega) (by omega) (fun c5 => by omega) (fun c5 => ?_)
      refine ss_iload_n dX1_hasCompanions_8 2 rfl ?_
      refine ss_iload_n dX1_hasCompanions_9 0 rfl ?_
      refine ss_callSN (As := [_, _]) dX1_hasCompanions_10 vlX1_42 clX7_hasThing rfl rfl (Nat.le_of_ble_eq_true rfl) (Nat.le_of_ble_eq_true rfl) (q_hasThing (by omega) (by omega)) ?_
      refine sy_if_eq 31 dX1_hasCompanions_13 (by decide) (fun c13 => ?_) (fun c13 => ?_)
      · skip
        refine sz_inc (lv' := [(2, _), (0, _), (1, _)]) dX1_hasCompanions_31 0 rfl (by decide) rfl ?_
        refine ss_goto 2 dX1_hasCompanions_34 (by decide) ?_
        exact ih (i + 1) (by omega) (ff_step hinv (by first | (simp [p_com, c13]; done) | (simp [p_com, (i_sbs (a := C i) (k := k) (by have := hC i; omega) (by omega)).mp c26]; done)))
      · skip
        refine ss_aload_n dX1_hasCompanions_16 1 rfl ?_
        refine ss_get (i := 96) dX1_hasCompanions_17 flX1_9 (by omega) (sh_r96 _ _) rfl ?_
        refine ss_iload_n dX1_hasCompanions_20 0 rfl ?_
        refine ss_iald (i := 97) dX1_hasCompanions_21 (by omega) (sh_r97) (by omega) (by decide) ?_
        rw [xls_atc (by omega)]
        refine ss_iload_n dX1_hasCompanions_22 2 rfl ?_
        refine ss_iconst (v := -1) dX1_hasCompanions_23 (by decide) ?_
        refine ss_ixor dX1_hasCompanions_24 ?_
        refine ss_iand dX1_hasCompanions_25 ?_
        refine ss_if_eq 31 dX1_hasCompanions_26 (by decide) (fun c26 => ?_) (fun c26 => ?_)
        · skip
          refine sz_inc (lv' := [(2, _), (0, _), (1, _)]) dX1_hasCompanions_31 0 rfl (by decide) rfl ?_
          refine ss_goto 2 dX1_hasCompanions_34 (by decide) ?_
          exact ih (i + 1) (by omega) (ff_step hinv (by first | (simp [p_com, c13]; done) | (simp [p_com, (i_sbs (a := C i) (k := k) (by have := hC i; omega) (by omega)).mp c26]; done)))
        · skip
          refine ss_iconst (v := nI 0) dX1_hasCompanions_29 (by decide) ?_
          exact ss_iret dX1_hasCompanions_30 rfl rfl (cvi (by
            have h8 : sbs (C i) k = false := by
              cases h7 : sbs (C i) k with
              | false => rfl
              | true => exact absurd ((i_sbs (by have := hC i; omega) (by omega)).mpr h7) c26
            rw [lany_t hinv (by simp [p_com, c13, h8]) (by omega)]; rfl) hQ)
set_option maxHeartbeats 4000000 in
set_option maxRecDepth 100000 in
theorem q_hasCompanions {c : cx} {d : Nat} {X : nX} {Y : nY} {h a b : Nat} {C : Nat → Nat} {k : Nat} (hk : k < 1024) (hC : ∀ t, C t < 1024) : sc c mX1_hasCompanions (d + 1) [.ref (c_ad c 96), .int (nI k)] (xls X h a b C) (Y) (some (.int (bI (!(lany (p_com C k) 10))))) (xls X h a b C) (Y) := by
  intro Q hQ
  show ss c mX1_hasCompanions (d + 1) Q 0 [(0, .ref (c_ad c 96)), (1, .int (nI k))] [] (xls X h a b C) (Y)
  refine ss_iconst (v := nI 0) dX1_hasCompanions_0 (by decide) ?_
  refine ss_istore_n (lv' := [(2, _), (0, _), (1, _)]) dX1_hasCompanions_1 (by decide) rfl ?_
  exact l_hasCompanions hk hC hQ 10 0 (by omega) rfl
set_option maxHeartbeats 4000000 in
set_option maxRecDepth 100000 in
theorem l_isClosed {c : cx} {d : Nat} {X : nX} {Y : nY} {Q : Option Value → nX → nY → Prop} {w : Nat} (hw : w < 12) {S : Nat} (hS : S ≤ 1024) (hse : X (2 + 7 * w) 7 = nI S) {h a b : Nat} {C : Nat → Nat} (hC : ∀ t, C t < 1024) (ha : a < 1024) (hb0 : b < 1024) (hh : h < 2 ^ 31) (hQ : Q (some (.int (bI (decide (lcn (p_fam a b C) S = h))))) (xls X h a b C) Y) : ∀ (nn i : Nat), i + nn = S → ss c mX1_isClosed (d + 2) Q 4 [(3, .int (nI i)), (2, .int (nI (lcn (p_fam a b C) i))), (0, .ref (c_ad c 96)), (1, .ref (c_ad c (2 + 7 * w)))] [] (xls X h a b C) (Y) := by
  intro nn
  induction nn with
  | zero =>
      intro i hin
      simp only [Nat.add_zero] at hin
      subst hin
      refine ss_iload_n dX1_isClosed_4 0 rfl ?_
      refine ss_aload_n dX1_isClosed_5 3 rfl ?_
      refine ss_get (i := 2 + 7 * w) dX1_isClosed_6 flX1_21 (by omega) (sh_w0 hw _ _) rfl ?_
      rw [xls_ne (by omega) (by omega), hse]
      refine sz_icmp_ge 51 dX1_isClosed_9 (by decide) (by omega) (by omega) (fun c9 => ?_) (fun c9 => by omega)
      refine ss_iload_n dX1_isClosed_51 1 rfl ?_
      refine ss_aload_n dX1_isClosed_52 2 rfl ?_
      refine ss_get (i := 96) dX1_isClosed_53 flX1_25 (by omega) (sh_r96 _ _) rfl ?_
      rw [xls_at1]
      refine sz_icmp_ne 63 dX1_isClosed_56 (by decide) (by have := lcn_le (p_fam a b C) i; omega) (by omega) (fun c56 => ?_) (fun c56 => ?_)
      · skip
        refine ss_iconst (v := nI 0) dX1_isClosed_63 (by decide) ?_
        exact ss_iret dX1_isClosed_64 rfl rfl (cvi (by simp [c56, bI]; rfl) hQ)
      · skip
        refine ss_iconst (v := nI 1) dX1_isClosed_59 (by decide) ?_
        refine ss_goto 64 dX1_isClosed_60 (by decide) ?_
        exact ss_iret dX1_isClosed_64 rfl rfl (cvi (by simp [c56, bI]; rfl) hQ)
  | succ nn ih =>
      intro i hin
      refine ss_iload_n dX1_isClosed_4 0 rfl ?_
      refine ss_aload_n dX1_isClosed_5 3 rfl ?_
      refine ss_get (i := 2 + 7 * w) dX1_isClosed_6 flX1_21 (by omega) (sh_w0 hw _ _) rfl ?_
      rw [xls_ne (by omega) (by omega), hse]
      refine sz_icmp_ge 51 dX1_isClosed_9 (by decide) (by omega) (by omega) (fun c9 => by omega) (fun c9 => ?_)
      refine ss_aload_n dX1_isClosed_12 2 rfl ?_
      refine ss_get (i := 96) dX1_isClosed_13 flX1_28 (by omega) (sh_r96 _ _) rfl ?_
      rw [xls_at2]
      refine ss_iload_n dX1_isClosed_16 0 rfl ?_
      refine ss_iconst (v := -1) dX1_isClosed_17 (by decide) ?_
      refine ss_ixor dX1_isClosed_18 ?_
      refine ss_iand dX1_isClosed_19 ?_
      refine ss_if_ne 45 dX1_isClosed_20 (by decide) (fun c20 => ?_) (fun c20 => ?_)
      · skip
        refine sz_inc (lv' := [(3, _), (2, _), (0, _), (1, _)]) dX1_isClosed_45 0 rfl (by decide) rfl ?_
        refine ss_goto 4 dX1_isClosed_48 (by decide) ?_
        have e9 : p_fam a b C i = false := by
          have h8 : sbs a i = false := by
            cases h7 : sbs a i with
            | false => rfl
            | true => exact absurd ((i_sbs (by omega) (by omega)).mpr h7) c20
          simp [p_fam, h8]
        refine ss_eL (lv' := [(3, .int (nI (i + 1))), (2, .int (nI (lcn (p_fam a b C) (i + 1)))), (0, .ref (c_ad c 96)), (1, .ref (c_ad c (2 + 7 * w)))]) (by simp [lcn, e9, lv_pick]) ?_
        exact ih (i + 1) (by omega)
      · skip
        refine ss_iload_n dX1_isClosed_23 0 rfl ?_
        refine ss_aload_n dX1_isClosed_24 2 rfl ?_
        refine ss_get (i := 96) dX1_isClosed_25 flX1_31 (by omega) (sh_r96 _ _) rfl ?_
        rw [xls_at3]
        refine ss_iconst (v := -1) dX1_isClosed_28 (by decide) ?_
        refine ss_ixor dX1_isClosed_29 ?_
        refine ss_iand dX1_isClosed_30 ?_
        refine ss_if_ne 45 dX1_isClosed_31 (by decide) (fun c31 => ?_) (fun c31 => ?_)
        · skip
          refine sz_inc (lv' := [(3, _), (2, _), (0, _), (1, _)]) dX1_isClosed_45 0 rfl (by decide) rfl ?_
          refine ss_goto 4 dX1_isClosed_48 (by decide) ?_
          have e9 : p_fam a b C i = false := by
            have h8 : sbs i b = false := by
              cases h7 : sbs i b with
              | false => rfl
              | true => exact absurd ((i_sbs (by omega) (by omega)).mpr h7) c31
            simp [p_fam, h8]
          refine ss_eL (lv' := [(3, .int (nI (i + 1))), (2, .int (nI (lcn (p_fam a b C) (i + 1)))), (0, .ref (c_ad c 96)), (1, .ref (c_ad c (2 + 7 * w)))]) (by simp [lcn, e9, lv_pick]) ?_
          exact ih (i + 1) (by omega)
        · skip
          refine ss_aload_n dX1_isClosed_34 2 rfl ?_
          refine ss_iload_n dX1_isClosed_35 0 rfl ?_
          refine ss_callV (As := [_]) (i := 96) dX1_isClosed_36 vlX1_46 clX1_hasCompanions rfl rfl (by omega) (sh_r96 _ _) rfl (Nat.le_of_ble_eq_true rfl) (Nat.le_of_ble_eq_true rfl) (q_hasCompanions (by omega) hC) ?_
          refine sy_if_eq 45 dX1_isClosed_39 (by decide) (fun c39 => ?_) (fun c39 => ?_)
          · skip
            refine sz_inc (lv' := [(3, _), (2, _), (0, _), (1, _)]) dX1_isClosed_45 0 rfl (by decide) rfl ?_
            refine ss_goto 4 dX1_isClosed_48 (by decide) ?_
            have e9 : p_fam a b C i = false := by simp [p_fam, c39]
            refine ss_eL (lv' := [(3, .int (nI (i + 1))), (2, .int (nI (lcn (p_fam a b C) (i + 1)))), (0, .ref (c_ad c 96)), (1, .ref (c_ad c (2 + 7 * w)))]) (by simp [lcn, e9, lv_pick]) ?_
            exact ih (i + 1) (by omega)
          · skip
            refine sz_inc (lv' := [(2, _), (3, _), (0, _), (1, _)]) dX1_isClosed_42 1 rfl (by decide) rfl ?_
            refine sz_inc (lv' := [(3, _), (2, _), (0, _), (1, _)]) dX1_isClosed_45 1 rfl (by decide) rfl ?_
            refine ss_goto 4 dX1_isClosed_48 (by decide) ?_
            have e9 : p_fam a b C i = true := by simp [p_fam, c39, (i_sbs (a := a) (k := i) (by omega) (by omega)).mp c20, (i_sbs (a := i) (k := b) (by omega) (by omega)).mp c31]
            refine ss_eL (lv' := [(3, .int (nI (i + 1))), (2, .int (nI (lcn (p_fam a b C) (i + 1)))), (0, .ref (c_ad c 96)), (1, .ref (c_ad c (2 + 7 * w)))]) (by simp [lcn, e9, lv_pick]) ?_
            exact ih (i + 1) (by omega)
set_option maxHeartbeats 4000000 in
set_option maxRecDepth 100000 in
theorem q_isClosed {c : cx} {d : Nat} {X : nX} {Y : nY} {w : Nat} (hw : w < 12) {S : Nat} (hS : S ≤ 1024) (hse : X (2 + 7 * w) 7 = nI S) {h a b : Nat} {C : Nat → Nat} (hC : ∀ t, C t < 1024) (ha : a < 1024) (hb0 : b < 1024) (hh : h < 2 ^ 31) : sc c mX1_isClosed (d + 2) [.ref (c_ad c 96), .ref (c_ad c (2 + 7 * w))] (xls X h a b C) (Y) (some (.int (bI (decide (lcn (p_fam a b C) S = h))))) (xls X h a b C) (Y) := by
  intro Q hQ
  show ss c mX1_isClosed (d + 2) Q 0 [(0, .ref (c_ad c 96)), (1, .ref (c_ad c (2 + 7 * w)))] [] (xls X h a b C) (Y)
  refine ss_iconst (v := nI 0) dX1_isClosed_0 (by decide) ?_
  refine ss_istore_n (lv' := [(2, _), (0, _), (1, _)]) dX1_isClosed_1 (by decide) rfl ?_
  refine ss_iconst (v := nI 0) dX1_isClosed_2 (by decide) ?_
  refine ss_istore_n (lv' := [(3, _), (2, _), (0, _), (1, _)]) dX1_isClosed_3 (by decide) rfl ?_
  exact l_isClosed hw hS hse hC ha hb0 hh hQ S 0 (by omega)
