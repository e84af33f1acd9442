theorem rml_toInt (x y : Int64) (h : ¬ y = 0) : (x - x / y * y).toInt = x.toInt.tmod y.toInt := by
  have e : x.toInt - x.toInt.tdiv y.toInt * y.toInt = x.toInt.tmod y.toInt := by
    have := Int.tmod_add_mul_tdiv x.toInt y.toInt
    rw [Int.mul_comm] at this
    omega
  have hy : y.toInt ≠ 0 := fun h9 => h (Int64.toInt_inj.mp h9)
  have h1 : (x.toInt.tmod y.toInt).natAbs < y.toInt.natAbs := by
    rw [Int.natAbs_tmod]
    exact Nat.mod_lt _ (by omega)
  have h2 := y.toInt_lt
  have h3 := y.le_toInt
  rw [Int64.toInt_sub, Int64.toInt_mul, Int64.toInt_div]
  rw [Int.sub_bmod_bmod, ← Int.sub_bmod_bmod, Int.bmod_mul_bmod, Int.sub_bmod_bmod, e]
  apply Int.bmod_eq_of_le <;> omega
theorem rml_lt (x y : Int64) (h : ¬ y = 0) : (x - x / y * y).toInt.natAbs < y.toInt.natAbs := by
  rw [rml_toInt x y h, Int.natAbs_tmod]
  have hy : y.toInt ≠ 0 := fun h9 => h (Int64.toInt_inj.mp h9)
  exact Nat.mod_lt _ (by omega)
/-- the common divisor as the reference finds it -/
def cmf : Nat → Int64 → Int64 → Int64
  | 0, x, _ => x
  | f + 1, x, y => if y = 0 then x else cmf f y (x - x / y * y)
theorem cmf_s (f : Nat) (x y : Int64) : cmf (f + 1) x y = if y = 0 then x else cmf f y (x - x / y * y) := rfl
def szl (v : Int64) : Int64 := if 0 ≤ v then v else -v
def cmn (a b : Int64) : Int64 := cmf (szl b).toInt.natAbs (szl a) (szl b)
def p_nz (R : Nat → Int64) (r : Nat) : Nat → Bool := fun k => !(decide (R (4 * r + k) = 0))
def fs4 (R : Nat → Int64) (r : Nat) : Nat := (ffind (p_nz R r) 4).getD 4
theorem fs4_le (R : Nat → Int64) (r : Nat) : fs4 R r ≤ 4 := by
  unfold fs4
  cases h : ffind (p_nz R r) 4 with
  | none => exact Nat.le_refl _
  | some k => have := (ff_spec h).1; show k ≤ 4; omega
theorem vpu_ne {R : Nat → Int64} {j k : Nat} {v : Int64} (h : k ≠ j) : vp_updL R j v k = R k := by
  unfold vp_updL
  rw [if_neg h]
theorem vpu_at {R : Nat → Int64} {j : Nat} {v : Int64} : vp_updL R j v j = v := by
  unfold vp_updL
  rw [if_pos rfl]
/-- the rows but one stay -/
def sam (u : Nat) (R T : Nat → Int64) : Prop := ∀ k, (k < 4 * u ∨ 4 * u + 4 ≤ k) → T k = R k
theorem sam_r (u : Nat) (R : Nat → Int64) : sam u R R := fun _ _ => rfl
theorem sam_t {u : Nat} {R S T : Nat → Int64} (h : sam u R S) (h2 : sam u S T) : sam u R T := fun k hk => (h2 k hk).trans (h k hk)
theorem sam_u {u j : Nat} {R T : Nat → Int64} {v : Int64} (h : sam u R T) (hj : j < 4) : sam u R (vp_updL T (4 * u + j) v) := fun k hk => by rw [vpu_ne (by omega)]; exact h k hk
theorem fs4_sam {u r : Nat} {R T : Nat → Int64} (h : sam u R T) (hr : r ≠ u) : fs4 T r = fs4 R r := by
  unfold fs4
  rw [ff_congr (P := p_nz T r) (R := p_nz R r) (fun k hk => by unfold p_nz; rw [h (4 * r + k) (by omega)])]
def frl (R : Nat → Int64) (u r : Nat) (a b : Int64) : Nat → (Nat → Int64) × Int64
  | 0 => (R, 0)
  | j + 1 => (vp_updL (frl R u r a b j).1 (4 * u + j) ((frl R u r a b j).1 (4 * u + j) * a - (frl R u r a b j).1 (4 * r + j) * b), cmn (frl R u r a b j).2 ((frl R u r a b j).1 (4 * u + j) * a - (frl R u r a b j).1 (4 * r + j) * b))
theorem frl_s (R : Nat → Int64) (u r : Nat) (a b : Int64) (j : Nat) : frl R u r a b (j + 1) = (vp_updL (frl R u r a b j).1 (4 * u + j) ((frl R u r a b j).1 (4 * u + j) * a - (frl R u r a b j).1 (4 * r + j) * b), cmn (frl R u r a b j).2 ((frl R u r a b j).1 (4 * u + j) * a - (frl R u r a b j).1 (4 * r + j) * b)) := rfl
def frd (R : Nat → Int64) (u : Nat) (by0 : Int64) : Nat → (Nat → Int64)
  | 0 => R
  | j + 1 => vp_updL (frd R u by0 j) (4 * u + j) (frd R u by0 j (4 * u + j) / by0)
theorem frd_s (R : Nat → Int64) (u : Nat) (by0 : Int64) (j : Nat) : frd R u by0 (j + 1) = vp_updL (frd R u by0 j) (4 * u + j) (frd R u by0 j (4 * u + j) / by0) := rfl
theorem frl_sam (R : Nat → Int64) (u r : Nat) (a b : Int64) : ∀ j, j ≤ 4 → sam u R (frl R u r a b j).1 := by
  intro j
  induction j with
  | zero => exact fun _ => sam_r u R
  | succ j ih => intro h; rw [frl_s]; exact sam_u (ih (by omega)) (by omega)
theorem frd_sam (R : Nat → Int64) (u : Nat) (by0 : Int64) : ∀ j, j ≤ 4 → sam u R (frd R u by0 j) := by
  intro j
  induction j with
  | zero => exact fun _ => sam_r u R
  | succ j ih => intro h; rw [frd_s]; exact sam_u (ih (by omega)) (by omega)
def fre (R : Nat → Int64) (u r : Nat) : Nat → Int64 := if R (4 * u + fs4 R r) = 0 then R else if 1 < (frl R u r (R (4 * r + fs4 R r)) (R (4 * u + fs4 R r)) 4).2 then frd (frl R u r (R (4 * r + fs4 R r)) (R (4 * u + fs4 R r)) 4).1 u (frl R u r (R (4 * r + fs4 R r)) (R (4 * u + fs4 R r)) 4).2 4 else (frl R u r (R (4 * r + fs4 R r)) (R (4 * u + fs4 R r)) 4).1
theorem fre_sam (R : Nat → Int64) (u r : Nat) : sam u R (fre R u r) := by
  unfold fre
  split
  · exact sam_r u R
  · split
    · exact sam_t (frl_sam R u r _ _ 4 (by omega)) (frd_sam _ u _ 4 (by omega))
    · exact frl_sam R u r _ _ 4 (by omega)
def frs (R : Nat → Int64) (u : Nat) : Nat → (Nat → Int64)
  | 0 => R
  | i + 1 => fre (frs R u i) u i
theorem frs_s (R : Nat → Int64) (u i : Nat) : frs R u (i + 1) = fre (frs R u i) u i := rfl
theorem frs_sam (R : Nat → Int64) (u : Nat) : ∀ i, sam u R (frs R u i) := by
  intro i
  induction i with
  | zero => exact sam_r u R
  | succ i ih => rw [frs_s]; exact sam_t ih (fre_sam _ u i)
def cpw (R : Nat → Int64) (u : Nat) (W : Nat → Int32) : Nat → (Nat → Int64)
  | 0 => R
  | j + 1 => vp_updL (cpw R u W j) (4 * u + j) (W j).toInt64
theorem cpw_s (R : Nat → Int64) (u : Nat) (W : Nat → Int32) (j : Nat) : cpw R u W (j + 1) = vp_updL (cpw R u W j) (4 * u + j) (W j).toInt64 := rfl
theorem cpw_sam (R : Nat → Int64) (u : Nat) (W : Nat → Int32) : ∀ j, j ≤ 4 → sam u R (cpw R u W j) := by
  intro j
  induction j with
  | zero => exact fun _ => sam_r u R
  | succ j ih => intro h; rw [cpw_s]; exact sam_u (ih (by omega)) (by omega)
/-- a row taken in -/
def tki (R : Nat → Int64) (u : Nat) (W : Nat → Int32) : Nat → Int64 := frs (cpw R u W 4) u u
def rnk (N : Nat → Int32) (s : Nat) (R : Nat → Int64) : Nat → Nat × (Nat → Int64)
  | 0 => (0, R)
  | t + 1 => if hb s t = true then (if fs4 (tki (rnk N s R t).2 (rnk N s R t).1 (fun j => N (4 * t + j))) (rnk N s R t).1 < 4 then (rnk N s R t).1 + 1 else (rnk N s R t).1, tki (rnk N s R t).2 (rnk N s R t).1 (fun j => N (4 * t + j))) else rnk N s R t
theorem rnk_s (N : Nat → Int32) (s : Nat) (R : Nat → Int64) (t : Nat) : rnk N s R (t + 1) = if hb s t = true then (if fs4 (tki (rnk N s R t).2 (rnk N s R t).1 (fun j => N (4 * t + j))) (rnk N s R t).1 < 4 then (rnk N s R t).1 + 1 else (rnk N s R t).1, tki (rnk N s R t).2 (rnk N s R t).1 (fun j => N (4 * t + j))) else rnk N s R t := rfl
theorem rnk_le (N : Nat → Int32) (s : Nat) (R : Nat → Int64) (t : Nat) : (rnk N s R t).1 ≤ t := by
  induction t with
  | zero => exact Nat.le_refl _
  | succ t ih =>
    rw [rnk_s]
    split
    · split <;> (simp only []; omega)
    · omega
theorem rnk_fs (N : Nat → Int32) (s : Nat) (R : Nat → Int64) (t : Nat) : ∀ i, i < (rnk N s R t).1 → fs4 (rnk N s R t).2 i < 4 := by
  induction t with
  | zero => intro i hi; exact absurd hi (Nat.not_lt_zero _)
  | succ t ih =>
    intro i
    rw [rnk_s]
    have hs : sam (rnk N s R t).1 (rnk N s R t).2 (tki (rnk N s R t).2 (rnk N s R t).1 (fun j => N (4 * t + j))) := sam_t (cpw_sam _ _ _ 4 (by omega)) (frs_sam _ _ _)
    split
    · split
      · rename_i h1 h2
        simp only []
        intro hi
        by_cases h3 : i = (rnk N s R t).1
        · rw [h3]; exact h2
        · rw [fs4_sam hs h3]; exact ih i (by omega)
      · simp only []
        intro hi
        rw [fs4_sam hs (by omega)]; exact ih i hi
    · exact ih i
set_option maxHeartbeats 1000000 in
set_option maxRecDepth 100000 in
theorem l_common {c : cx} {d : Nat} {X : nX} {Y : nY} {Q : Option Value → nX → nY → Prop} {a b : Int64} : ∀ (f : Nat) (x y : Int64), y.toInt.natAbs ≤ f → Q (some (.long (cmf f x y))) X Y → ss c mX8_common (d + 1) Q 12 [(6, .long y), (4, .long x), (0, .long a), (2, .long b)] [] X Y := by
  intro f
  induction f with
  | zero =>
      intro x y hf hQ
      refine ss_lload dX8_common_12 0 rfl ?_
      refine ss_lconst (v := 0) dX8_common_14 (by decide) ?_
      refine sv_eq 37 dX8_common_15 dX8_common_16 (by decide) (fun c15 => ?_) (fun c15 => absurd (Int64.toInt_inj.mp (by rw [show (0 : Int64).toInt = 0 from rfl]; omega)) c15)
      refine ss_lload dX8_common_37 1 rfl ?_
      exact ss_lret dX8_common_39 rfl (hQ)
  | succ f ih =>
      intro x y hf hQ
      refine ss_lload dX8_common_12 0 rfl ?_
      refine ss_lconst (v := 0) dX8_common_14 (by decide) ?_
      refine sv_eq 37 dX8_common_15 dX8_common_16 (by decide) (fun c15 => ?_) (fun c15 => ?_)
      · skip
        refine ss_lload dX8_common_37 1 rfl ?_
        exact ss_lret dX8_common_39 rfl (by rw [cmf_s, if_pos c15] at hQ; exact hQ)
      · skip
        refine ss_lload dX8_common_19 1 rfl ?_
        refine ss_lload dX8_common_21 0 rfl ?_
        refine ss_lrem dX8_common_23 c15 ?_
        refine ss_lstore (lv' := [(8, _), (6, _), (4, _), (0, _), (2, _)]) dX8_common_24 (by decide) rfl ?_
        refine ss_lload dX8_common_26 1 rfl ?_
        refine ss_lstore (lv' := [(4, _), (8, _), (6, _), (0, _), (2, _)]) dX8_common_28 (by decide) rfl ?_
        refine ss_lload dX8_common_30 1 rfl ?_
        refine ss_lstore (lv' := [(6, _), (4, _), (8, _), (0, _), (2, _)]) dX8_common_32 (by decide) rfl ?_
        refine ss_goto 12 dX8_common_34 (by decide) ?_
        refine ss_sub [0, 1, 3, 4] rfl ?_
        refine ih y (x - x / y * y) (by have := rml_lt x y c15; omega) ?_
        rw [cmf_s, if_neg c15] at hQ
        exact hQ
set_option maxHeartbeats 1000000 in
set_option maxRecDepth 100000 in
theorem m_common {c : cx} {d : Nat} {X : nX} {Y : nY} {a b : Int64} : sc c mX8_common (d + 1) [.long a, .long b] (X) (Y) (some (.long (cmn a b))) (X) (Y) := by
  intro Q hQ
  show ss c mX8_common (d + 1) Q 0 [(0, .long a), (2, .long b)] [] (X) (Y)
  refine ss_lload_n dX8_common_0 0 rfl ?_
  refine ss_callS (As := [_]) dX8_common_1 vlX8_124 clX8_size rfl rfl (Nat.le_of_ble_eq_true rfl) (Nat.le_of_ble_eq_true rfl) (m_size) ?_
  refine ss_lstore (lv' := [(4, _), (0, _), (2, _)]) dX8_common_4 (by decide) rfl ?_
  refine ss_lload_n dX8_common_6 2 rfl ?_
  refine ss_callS (As := [_]) dX8_common_7 vlX8_124 clX8_size rfl rfl (Nat.le_of_ble_eq_true rfl) (Nat.le_of_ble_eq_true rfl) (m_size) ?_
  refine ss_lstore (lv' := [(6, _), (4, _), (0, _), (2, _)]) dX8_common_10 (by decide) rfl ?_
  exact l_common _ _ _ (Nat.le_refl _) hQ
set_option maxHeartbeats 1000000 in
set_option maxRecDepth 100000 in
theorem l_firstOf {c : cx} {d : Nat} {X : nX} {Y : nY} {Q : Option Value → nX → nY → Prop} {r : Nat} (hr : r < 10) (hQ : Q (some (.int (nI (fs4 (Y 122) r)))) X Y) : ∀ (nn i : Nat), i + nn = 4 → (ffind (p_nz (Y 122) r) i = none) → ss c mX8_firstOf d Q 2 [(2, .int (nI i)), (0, .ref (c_ad c 105)), (1, .int (nI r))] [] (X) (Y) := by
  intro nn
  induction nn with
  | zero =>
      intro i hin hinv
      simp only [Nat.add_zero] at hin
      subst hin
      refine ss_iload_n dX8_firstOf_2 0 rfl ?_
      refine ss_iconst (v := nI 4) dX8_firstOf_3 (by decide) ?_
      refine sz_icmp_ge 28 dX8_firstOf_4 (by decide) (by omega) (by omega) (fun c4 => ?_) (fun c4 => by omega)
      refine ss_iload_n dX8_firstOf_28 0 rfl ?_
      exact ss_iret dX8_firstOf_29 rfl rfl (cvi (by unfold fs4; rw [hinv]; rfl) hQ)
  | succ nn ih =>
      intro i hin hinv
      refine ss_iload_n dX8_firstOf_2 0 rfl ?_
      refine ss_iconst (v := nI 4) dX8_firstOf_3 (by decide) ?_
      refine sz_icmp_ge 28 dX8_firstOf_4 (by decide) (by omega) (by omega) (fun c4 => by omega) (fun c4 => ?_)
      refine ss_aload_n dX8_firstOf_7 1 rfl ?_
      refine ss_get (i := 105) dX8_firstOf_8 flX8_64 (by omega) (sh_r105 _ _) rfl ?_
      refine ss_iconst (v := nI 4) dX8_firstOf_11 (by decide) ?_
      refine ss_iload_n dX8_firstOf_12 2 rfl ?_
      refine sz_imul dX8_firstOf_13 ?_
      refine ss_iload_n dX8_firstOf_14 0 rfl ?_
      refine sz_iadd dX8_firstOf_15 ?_
      refine ss_lald (i := 122) dX8_firstOf_16 (by omega) (sh_r122) (by omega) (by decide) ?_
      refine ss_lconst (v := 0) dX8_firstOf_17 (by decide) ?_
      refine sv_ne 28 dX8_firstOf_18 dX8_firstOf_19 (by decide) (fun c18 => ?_) (fun c18 => ?_)
      · skip
        refine ss_iload_n dX8_firstOf_28 0 rfl ?_
        exact ss_iret dX8_firstOf_29 rfl rfl (cvi (by unfold fs4; rw [ff_some hinv (by simp [p_nz, c18]) (by omega)]; rfl) hQ)
      · skip
        refine sz_inc (lv' := [(2, _), (0, _), (1, _)]) dX8_firstOf_22 0 rfl (by decide) rfl ?_
        refine ss_goto 2 dX8_firstOf_25 (by decide) ?_
        exact ih (i + 1) (by omega) (ff_step hinv (by simp [p_nz, c18]))
set_option maxHeartbeats 1000000 in
set_option maxRecDepth 100000 in
theorem m_firstOf {c : cx} {d : Nat} {X : nX} {Y : nY} {r : Nat} (hr : r < 10) : sc c mX8_firstOf d [.ref (c_ad c 105), .int (nI r)] (X) (Y) (some (.int (nI (fs4 (Y 122) r)))) (X) (Y) := by
  intro Q hQ
  show ss c mX8_firstOf d Q 0 [(0, .ref (c_ad c 105)), (1, .int (nI r))] [] (X) (Y)
  refine ss_iconst (v := nI 0) dX8_firstOf_0 (by decide) ?_
  refine ss_istore_n (lv' := [(2, _), (0, _), (1, _)]) dX8_firstOf_1 (by decide) rfl ?_
  exact l_firstOf hr hQ 4 0 (by omega) rfl
set_option maxHeartbeats 1000000 in
set_option maxRecDepth 100000 in
theorem l_free1 {c : cx} {d : Nat} {X : nX} {Y : nY} {Q : Option Value → nX → nY → Prop} {u r : Nat} (hu : u < 10) (hr : r < 10) {a b : Int64} {k : Nat} (hQ : ∀ k9, k9 = 4 → ss c mX8_free (d + 2) Q 114 [(10, .int (nI k9)), (8, .long (frl (Y 122) u r a b 4).2), (6, .long b), (4, .long a), (3, .int (nI k)), (0, .ref (c_ad c 105)), (1, .int (nI u)), (2, .int (nI r))] [] X (srw Y 122 (frl (Y 122) u r a b 4).1)) : ∀ (nn i : Nat), i + nn = 4 → ss c mX8_free (d + 2) Q 44 [(10, .int (nI i)), (8, .long (frl (Y 122) u r a b i).2), (6, .long b), (4, .long a), (3, .int (nI k)), (0, .ref (c_ad c 105)), (1, .int (nI u)), (2, .int (nI r))] [] (X) (srw Y 122 (frl (Y 122) u r a b i).1) := by
  intro nn
  induction nn with
  | zero =>
      intro i hin
      simp only [Nat.add_zero] at hin
      subst hin
      refine ss_iload dX8_free_44 0 rfl ?_
      refine ss_iconst (v := nI 4) dX8_free_46 (by decide) ?_
      refine sz_icmp_ge 114 dX8_free_47 (by decide) (by omega) (by omega) (fun c47 => ?_) (fun c47 => by omega)
      exact hQ _ rfl
  | succ nn ih =>
      intro i hin
      refine ss_iload dX8_free_44 0 rfl ?_
      refine ss_iconst (v := nI 4) dX8_free_46 (by decide) ?_
      refine sz_icmp_ge 114 dX8_free_47 (by decide) (by omega) (by omega) (fun c47 => by omega) (fun c47 => ?_)
      refine ss_aload_n dX8_free_50 5 rfl ?_
      refine ss_get (i := 105) dX8_free_51 flX8_64 (by omega) (sh_r105 _ _) rfl ?_
      refine ss_iconst (v := nI 4) dX8_free_54 (by decide) ?_
      refine ss_iload_n dX8_free_55 6 rfl ?_
      refine sz_imul dX8_free_56 ?_
      refine ss_iload dX8_free_57 0 rfl ?_
      refine sz_iadd dX8_free_59 ?_
      refine ss_aload_n dX8_free_60 5 rfl ?_
      refine ss_get (i := 105) dX8_free_61 flX8_64 (by omega) (sh_r105 _ _) rfl ?_
      refine ss_iconst (v := nI 4) dX8_free_64 (by decide) ?_
      refine ss_iload_n dX8_free_65 6 rfl ?_
      refine sz_imul dX8_free_66 ?_
      refine ss_iload dX8_free_67 0 rfl ?_
      refine sz_iadd dX8_free_69 ?_
      refine ss_lald (i := 122) dX8_free_70 (by omega) (sh_r122) (by omega) (by decide) ?_
      rw [srw_at]
      refine ss_lload dX8_free_71 3 rfl ?_
      refine ss_lmul dX8_free_73 ?_
      refine ss_aload_n dX8_free_74 5 rfl ?_
      refine ss_get (i := 105) dX8_free_75 flX8_64 (by omega) (sh_r105 _ _) rfl ?_
      refine ss_iconst (v := nI 4) dX8_free_78 (by decide) ?_
      refine ss_iload_n dX8_free_79 7 rfl ?_
      refine sz_imul dX8_free_80 ?_
      refine ss_iload dX8_free_81 0 rfl ?_
      refine sz_iadd dX8_free_83 ?_
      refine ss_lald (i := 122) dX8_free_84 (by omega) (sh_r122) (by omega) (by decide) ?_
      rw [srw_at]
      refine ss_lload dX8_free_85 2 rfl ?_
      refine ss_lmul dX8_free_87 ?_
      refine ss_lsub dX8_free_88 ?_
      refine ss_last (i := 122) dX8_free_89 (by omega) (sh_r122) (by omega) (by decide) ?_
      refine ss_lload dX8_free_90 1 rfl ?_
      refine ss_aload_n dX8_free_92 5 rfl ?_
      refine ss_get (i := 105) dX8_free_93 flX8_64 (by omega) (sh_r105 _ _) rfl ?_
      refine ss_iconst (v := nI 4) dX8_free_96 (by decide) ?_
      refine ss_iload_n dX8_free_97 6 rfl ?_
      refine sz_imul dX8_free_98 ?_
      refine ss_iload dX8_free_99 0 rfl ?_
      refine sz_iadd dX8_free_101 ?_
      refine ss_lald (i := 122) dX8_free_102 (by omega) (sh_r122) (by omega) (by decide) ?_
      rw [upl_at, if_pos ⟨rfl, rfl⟩]
      refine ss_callS (As := [_, _]) dX8_free_103 vlX8_120 clX8_common rfl rfl (Nat.le_of_ble_eq_true rfl) (Nat.le_of_ble_eq_true rfl) (m_common) ?_
      refine ss_lstore (lv' := [(8, _), (10, _), (6, _), (4, _), (3, _), (0, _), (1, _), (2, _)]) dX8_free_106 (by decide) rfl ?_
      refine sz_inc (lv' := [(10, _), (8, _), (6, _), (4, _), (3, _), (0, _), (1, _), (2, _)]) dX8_free_108 1 rfl (by decide) rfl ?_
      refine ss_goto 44 dX8_free_111 (by decide) ?_
      refine ss_eY srw_up ?_
      have h7 := ih (i + 1) (by omega)
      rw [frl_s] at h7
      exact h7
set_option maxHeartbeats 1000000 in
set_option maxRecDepth 100000 in
theorem l_free2 {c : cx} {d : Nat} {X : nX} {Y : nY} {Q : Option Value → nX → nY → Prop} {u r : Nat} (hu : u < 10) (hr : r < 10) {a b e : Int64} {k : Nat} (he : 1 < e) (hQ : Q none X (srw Y 122 (frd (Y 122) u e 4))) : ∀ (nn i : Nat), i + nn = 4 → ss c mX8_free (d + 2) Q 117 [(10, .int (nI i)), (8, .long e), (6, .long b), (4, .long a), (3, .int (nI k)), (0, .ref (c_ad c 105)), (1, .int (nI u)), (2, .int (nI r))] [] (X) (srw Y 122 (frd (Y 122) u e i)) := by
  intro nn
  induction nn with
  | zero =>
      intro i hin
      simp only [Nat.add_zero] at hin
      subst hin
      refine ss_iload dX8_free_117 0 rfl ?_
      refine ss_iconst (v := nI 4) dX8_free_119 (by decide) ?_
      refine sz_icmp_ge 152 dX8_free_120 (by decide) (by omega) (by omega) (fun c120 => ?_) (fun c120 => by omega)
      exact ss_vret dX8_free_152 rfl (hQ)
  | succ nn ih =>
      intro i hin
      refine ss_iload dX8_free_117 0 rfl ?_
      refine ss_iconst (v := nI 4) dX8_free_119 (by decide) ?_
      refine sz_icmp_ge 152 dX8_free_120 (by decide) (by omega) (by omega) (fun c120 => by omega) (fun c120 => ?_)
      refine ss_lload dX8_free_123 1 rfl ?_
      refine ss_lconst (v := 1) dX8_free_125 (by decide) ?_
      refine sv_le 152 dX8_free_126 dX8_free_127 (by decide) (fun c126 => by rw [Int64.lt_iff_toInt_lt] at he; rw [Int64.le_iff_toInt_le] at c126; omega) (fun c126 => ?_)
      refine ss_aload_n dX8_free_130 5 rfl ?_
      refine ss_get (i := 105) dX8_free_131 flX8_64 (by omega) (sh_r105 _ _) rfl ?_
      refine ss_iconst (v := nI 4) dX8_free_134 (by decide) ?_
      refine ss_iload_n dX8_free_135 6 rfl ?_
      refine sz_imul dX8_free_136 ?_
      refine ss_iload dX8_free_137 0 rfl ?_
      refine sz_iadd dX8_free_139 ?_
      refine ss_dup2 dX8_free_140 rfl rfl ?_
      refine ss_lald (i := 122) dX8_free_141 (by omega) (sh_r122) (by omega) (by decide) ?_
      rw [srw_at]
      refine ss_lload dX8_free_142 1 rfl ?_
      refine ss_ldiv dX8_free_144 (by intro h9; rw [h9] at he; exact absurd he (by decide)) ?_
      refine ss_last (i := 122) dX8_free_145 (by omega) (sh_r122) (by omega) (by decide) ?_
      refine sz_inc (lv' := [(10, _), (8, _), (6, _), (4, _), (3, _), (0, _), (1, _), (2, _)]) dX8_free_146 0 rfl (by decide) rfl ?_
      refine ss_goto 117 dX8_free_149 (by decide) ?_
      refine ss_eY srw_up ?_
      exact ih (i + 1) (by omega)
set_option maxHeartbeats 1000000 in
set_option maxRecDepth 100000 in
theorem m_free0 {c : cx} {d : Nat} {X : nX} {Y : nY} {u r : Nat} (hu : u < 10) (hr : r < 10) (hk : fs4 (Y 122) r < 4) (h0 : (Y 122 (4 * u + fs4 (Y 122) r)) = 0) : sc c mX8_free (d + 2) [.ref (c_ad c 105), .int (nI u), .int (nI r)] (X) (Y) none (X) (Y) := by
  intro Q hQ
  show ss c mX8_free (d + 2) Q 0 [(0, .ref (c_ad c 105)), (1, .int (nI u)), (2, .int (nI r))] [] (X) (Y)
  refine ss_aload_n dX8_free_0 0 rfl ?_
  refine ss_iload_n dX8_free_1 2 rfl ?_
  refine ss_callV (As := [_]) (i := 105) dX8_free_2 vlX8_116 clX8_firstOf rfl rfl (by omega) (sh_r105 _ _) rfl (Nat.le_of_ble_eq_true rfl) (Nat.le_of_ble_eq_true rfl) (m_firstOf hr) ?_
  refine ss_istore_n (lv' := [(3, _), (0, _), (1, _), (2, _)]) dX8_free_5 (by decide) rfl ?_
  refine ss_aload_n dX8_free_6 1 rfl ?_
  refine ss_get (i := 105) dX8_free_7 flX8_64 (by omega) (sh_r105 _ _) rfl ?_
  refine ss_iconst (v := nI 4) dX8_free_10 (by decide) ?_
  refine ss_iload_n dX8_free_11 3 rfl ?_
  refine sz_imul dX8_free_12 ?_
  refine ss_iload_n dX8_free_13 0 rfl ?_
  refine sz_iadd dX8_free_14 ?_
  refine ss_lald (i := 122) dX8_free_15 (by omega) (sh_r122) (by omega) (by decide) ?_
  refine ss_lstore (lv' := [(4, _), (3, _), (0, _), (1, _), (2, _)]) dX8_free_16 (by decide) rfl ?_
  refine ss_aload_n dX8_free_18 2 rfl ?_
  refine ss_get (i := 105) dX8_free_19 flX8_64 (by omega) (sh_r105 _ _) rfl ?_
  refine ss_iconst (v := nI 4) dX8_free_22 (by decide) ?_
  refine ss_iload_n dX8_free_23 3 rfl ?_
  refine sz_imul dX8_free_24 ?_
  refine ss_iload_n dX8_free_25 1 rfl ?_
  refine sz_iadd dX8_free_26 ?_
  refine ss_lald (i := 122) dX8_free_27 (by omega) (sh_r122) (by omega) (by decide) ?_
  refine ss_lstore (lv' := [(6, _), (4, _), (3, _), (0, _), (1, _), (2, _)]) dX8_free_28 (by decide) rfl ?_
  refine ss_lload dX8_free_30 0 rfl ?_
  refine ss_lconst (v := 0) dX8_free_32 (by decide) ?_
  refine sv_ne 38 dX8_free_33 dX8_free_34 (by decide) (fun c33 => by first | exact kd_tf (h0) c33 | exact kd_ft (h0) c33 | exact absurd (h0) c33 | exact absurd c33 (h0)) (fun c33 => ?_)
  exact ss_vret dX8_free_37 rfl (hQ)
set_option maxHeartbeats 1000000 in
set_option maxRecDepth 100000 in
theorem m_free1 {c : cx} {d : Nat} {X : nX} {Y : nY} {u r : Nat} (hu : u < 10) (hr : r < 10) (hk : fs4 (Y 122) r < 4) (h0 : ¬ (Y 122 (4 * u + fs4 (Y 122) r)) = 0) (h1 : 1 < (frl (Y 122) u r (Y 122 (4 * r + fs4 (Y 122) r)) (Y 122 (4 * u + fs4 (Y 122) r)) 4).2) : sc c mX8_free (d + 2) [.ref (c_ad c 105), .int (nI u), .int (nI r)] (X) (Y) none (X) (srw Y 122 (frd (frl (Y 122) u r (Y 122 (4 * r + fs4 (Y 122) r)) (Y 122 (4 * u + fs4 (Y 122) r)) 4).1 u (frl (Y 122) u r (Y 122 (4 * r + fs4 (Y 122) r)) (Y 122 (4 * u + fs4 (Y 122) r)) 4).2 4)) := by
  intro Q hQ
  show ss c mX8_free (d + 2) Q 0 [(0, .ref (c_ad c 105)), (1, .int (nI u)), (2, .int (nI r))] [] (X) (Y)
  refine ss_aload_n dX8_free_0 0 rfl ?_
  refine ss_iload_n dX8_free_1 2 rfl ?_
  refine ss_callV (As := [_]) (i := 105) dX8_free_2 vlX8_116 clX8_firstOf rfl rfl (by omega) (sh_r105 _ _) rfl (Nat.le_of_ble_eq_true rfl) (Nat.le_of_ble_eq_true rfl) (m_firstOf hr) ?_
  refine ss_istore_n (lv' := [(3, _), (0, _), (1, _), (2, _)]) dX8_free_5 (by decide) rfl ?_
  refine ss_aload_n dX8_free_6 1 rfl ?_
  refine ss_get (i := 105) dX8_free_7 flX8_64 (by omega) (sh_r105 _ _) rfl ?_
  refine ss_iconst (v := nI 4) dX8_free_10 (by decide) ?_
  refine ss_iload_n dX8_free_11 3 rfl ?_
  refine sz_imul dX8_free_12 ?_
  refine ss_iload_n dX8_free_13 0 rfl ?_
  refine sz_iadd dX8_free_14 ?_
  refine ss_lald (i := 122) dX8_free_15 (by omega) (sh_r122) (by omega) (by decide) ?_
  refine ss_lstore (lv' := [(4, _), (3, _), (0, _), (1, _), (2, _)]) dX8_free_16 (by decide) rfl ?_
  refine ss_aload_n dX8_free_18 2 rfl ?_
  refine ss_get (i := 105) dX8_free_19 flX8_64 (by omega) (sh_r105 _ _) rfl ?_
  refine ss_iconst (v := nI 4) dX8_free_22 (by decide) ?_
  refine ss_iload_n dX8_free_23 3 rfl ?_
  refine sz_imul dX8_free_24 ?_
  refine ss_iload_n dX8_free_25 1 rfl ?_
  refine sz_iadd dX8_free_26 ?_
  refine ss_lald (i := 122) dX8_free_27 (by omega) (sh_r122) (by omega) (by decide) ?_
  refine ss_lstore (lv' := [(6, _), (4, _), (3, _), (0, _), (1, _), (2, _)]) dX8_free_28 (by decide) rfl ?_
  refine ss_lload dX8_free_30 0 rfl ?_
  refine ss_lconst (v := 0) dX8_free_32 (by decide) ?_
  refine sv_ne 38 dX8_free_33 dX8_free_34 (by decide) (fun c33 => ?_) (fun c33 => by first | exact kd_tf (h0) c33 | exact kd_ft (h0) c33 | exact absurd (h0) c33 | exact absurd c33 (h0))
  refine ss_lconst (v := 0) dX8_free_38 (by decide) ?_
  refine ss_lstore (lv' := [(8, _), (6, _), (4, _), (3, _), (0, _), (1, _), (2, _)]) dX8_free_39 (by decide) rfl ?_
  refine ss_iconst (v := nI 0) dX8_free_41 (by decide) ?_
  refine ss_istore (lv' := [(10, _), (8, _), (6, _), (4, _), (3, _), (0, _), (1, _), (2, _)]) dX8_free_42 (by decide) rfl ?_
  refine ss_eY (Y' := srw Y 122 (frl (Y 122) u r (Y 122 (4 * r + fs4 (Y 122) r)) (Y 122 (4 * u + fs4 (Y 122) r)) 0).1) srw_self.symm ?_
  refine l_free1 hu hr (fun k9 hk9 => ?_) 4 0 (by omega)
  refine ss_iconst (v := nI 0) dX8_free_114 (by decide) ?_
  refine ss_istore (lv' := [(10, _), (8, _), (6, _), (4, _), (3, _), (0, _), (1, _), (2, _)]) dX8_free_115 (by decide) rfl ?_
  have h9 := l_free2 (X := X) (Y := srw Y 122 (frl (Y 122) u r (Y 122 (4 * r + fs4 (Y 122) r)) (Y 122 (4 * u + fs4 (Y 122) r)) 4).1) (c := c) (d := d) (Q := Q) (k := fs4 (Y 122) r) (a := (Y 122 (4 * r + fs4 (Y 122) r))) (b := (Y 122 (4 * u + fs4 (Y 122) r))) hu hr h1 (by rw [srw_at, srw_srw]; exact hQ) 4 0 (by omega)
  rw [srw_at, srw_srw] at h9
  exact h9
set_option maxHeartbeats 1000000 in
set_option maxRecDepth 100000 in
theorem m_free2 {c : cx} {d : Nat} {X : nX} {Y : nY} {u r : Nat} (hu : u < 10) (hr : r < 10) (hk : fs4 (Y 122) r < 4) (h0 : ¬ (Y 122 (4 * u + fs4 (Y 122) r)) = 0) (h1 : ¬ 1 < (frl (Y 122) u r (Y 122 (4 * r + fs4 (Y 122) r)) (Y 122 (4 * u + fs4 (Y 122) r)) 4).2) : sc c mX8_free (d + 2) [.ref (c_ad c 105), .int (nI u), .int (nI r)] (X) (Y) none (X) (srw Y 122 (frl (Y 122) u r (Y 122 (4 * r + fs4 (Y 122) r)) (Y 122 (4 * u + fs4 (Y 122) r)) 4).1) := by
  intro Q hQ
  show ss c mX8_free (d + 2) Q 0 [(0, .ref (c_ad c 105)), (1, .int (nI u)), (2, .int (nI r))] [] (X) (Y)
  refine ss_aload_n dX8_free_0 0 rfl ?_
  refine ss_iload_n dX8_free_1 2 rfl ?_
  refine ss_callV (As := [_]) (i := 105) dX8_free_2 vlX8_116 clX8_firstOf rfl rfl (by omega) (sh_r105 _ _) rfl (Nat.le_of_ble_eq_true rfl) (Nat.le_of_ble_eq_true rfl) (m_firstOf hr) ?_
  refine ss_istore_n (lv' := [(3, _), (0, _), (1, _), (2, _)]) dX8_free_5 (by decide) rfl ?_
  refine ss_aload_n dX8_free_6 1 rfl ?_
  refine ss_get (i := 105) dX8_free_7 flX8_64 (by omega) (sh_r105 _ _) rfl ?_
  refine ss_iconst (v := nI 4) dX8_free_10 (by decide) ?_
  refine ss_iload_n dX8_free_11 3 rfl ?_
  refine sz_imul dX8_free_12 ?_
  refine ss_iload_n dX8_free_13 0 rfl ?_
  refine sz_iadd dX8_free_14 ?_
  refine ss_lald (i := 122) dX8_free_15 (by omega) (sh_r122) (by omega) (by decide) ?_
  refine ss_lstore (lv' := [(4, _), (3, _), (0, _), (1, _), (2, _)]) dX8_free_16 (by decide) rfl ?_
  refine ss_aload_n dX8_free_18 2 rfl ?_
  refine ss_get (i := 105) dX8_free_19 flX8_64 (by omega) (sh_r105 _ _) rfl ?_
  refine ss_iconst (v := nI 4) dX8_free_22 (by decide) ?_
  refine ss_iload_n dX8_free_23 3 rfl ?_
  refine sz_imul dX8_free_24 ?_
  refine ss_iload_n dX8_free_25 1 rfl ?_
  refine sz_iadd dX8_free_26 ?_
  refine ss_lald (i := 122) dX8_free_27 (by omega) (sh_r122) (by omega) (by decide) ?_
  refine ss_lstore (lv' := [(6, _), (4, _), (3, _), (0, _), (1, _), (2, _)]) dX8_free_28 (by decide) rfl ?_
  refine ss_lload dX8_free_30 0 rfl ?_
  refine ss_lconst (v := 0) dX8_free_32 (by decide) ?_
  refine sv_ne 38 dX8_free_33 dX8_free_34 (by decide) (fun c33 => ?_) (fun c33 => by first | exact kd_tf (h0) c33 | exact kd_ft (h0) c33 | exact absurd (h0) c33 | exact absurd c33 (h0))
  refine ss_lconst (v := 0) dX8_free_38 (by decide) ?_
  refine ss_lstore (lv' := [(8, _), (6, _), (4, _), (3, _), (0, _), (1, _), (2, _)]) dX8_free_39 (by decide) rfl ?_
  refine ss_iconst (v := nI 0) dX8_free_41 (by decide) ?_
  refine ss_istore (lv' := [(10, _), (8, _), (6, _), (4, _), (3, _), (0, _), (1, _), (2, _)]) dX8_free_42 (by decide) rfl ?_
  refine ss_eY (Y' := srw Y 122 (frl (Y 122) u r (Y 122 (4 * r + fs4 (Y 122) r)) (Y 122 (4 * u + fs4 (Y 122) r)) 0).1) srw_self.symm ?_
  refine l_free1 hu hr (fun k9 hk9 => ?_) 4 0 (by omega)
  refine ss_iconst (v := nI 0) dX8_free_114 (by decide) ?_
  refine ss_istore (lv' := [(10, _), (8, _), (6, _), (4, _), (3, _), (0, _), (1, _), (2, _)]) dX8_free_115 (by decide) rfl ?_
  refine ss_iload dX8_free_117 0 rfl ?_
  refine ss_iconst (v := nI 4) dX8_free_119 (by decide) ?_
  refine sz_icmp_ge 152 dX8_free_120 (by decide) (by omega) (by omega) (fun c120 => by omega) (fun c120 => ?_)
  refine ss_lload dX8_free_123 1 rfl ?_
  refine ss_lconst (v := 1) dX8_free_125 (by decide) ?_
  refine sv_le 152 dX8_free_126 dX8_free_127 (by decide) (fun c126 => ?_) (fun c126 => by rw [Int64.lt_iff_toInt_lt] at h1; rw [Int64.le_iff_toInt_le] at c126; omega)
  exact ss_vret dX8_free_152 rfl (hQ)
theorem m_free {c : cx} {d : Nat} {X : nX} {Y : nY} {u r : Nat} (hu : u < 10) (hr : r < 10) (hk : fs4 (Y 122) r < 4) : sc c mX8_free (d + 2) [.ref (c_ad c 105), .int (nI u), .int (nI r)] X Y none X (srw Y 122 (fre (Y 122) u r)) := by
  unfold fre
  by_cases h0 : (Y 122 (4 * u + fs4 (Y 122) r)) = 0
  · rw [if_pos h0, srw_self]
    exact m_free0 hu hr hk h0
  · rw [if_neg h0]
    by_cases h1 : 1 < (frl (Y 122) u r (Y 122 (4 * r + fs4 (Y 122) r)) (Y 122 (4 * u + fs4 (Y 122) r)) 4).2
    · rw [if_pos h1]
      exact m_free1 hu hr hk h0 h1
    · rw [if_neg h1]
      exact m_free2 hu hr hk h0 h1
set_option maxHeartbeats 1000000 in
set_option maxRecDepth 100000 in
theorem l_rank1 {c : cx} {d : Nat} {X : nX} {Y : nY} {Q : Option Value → nX → nY → Prop} {w : Nat} (hw : w < 12) {u t s : Nat} (hu : u < 10) (ht : t < 10) {R : Nat → Int64} (hQ : ∀ k9, ss c mX8_rank (d + 3) Q 68 [(5, .int (nI k9)), (4, .int (nI t)), (3, .int (nI u)), (0, .ref (c_ad c 105)), (1, .int (nI w)), (2, .int (nI s))] [] X (srw Y 122 (cpw R u (fun j => X 113 (40 * w + 4 * t + j)) 4))) : ∀ (nn i : Nat), i + nn = 4 → ss c mX8_rank (d + 3) Q 27 [(5, .int (nI i)), (4, .int (nI t)), (3, .int (nI u)), (0, .ref (c_ad c 105)), (1, .int (nI w)), (2, .int (nI s))] [] (X) (srw Y 122 (cpw R u (fun j => X 113 (40 * w + 4 * t + j)) i)) := by
  intro nn
  induction nn with
  | zero =>
      intro i hin
      simp only [Nat.add_zero] at hin
      subst hin
      refine ss_iload dX8_rank_27 0 rfl ?_
      refine ss_iconst (v := nI 4) dX8_rank_29 (by decide) ?_
      refine sz_icmp_ge 68 dX8_rank_30 (by decide) (by omega) (by omega) (fun c30 => ?_) (fun c30 => by omega)
      exact hQ _
  | succ nn ih =>
      intro i hin
      refine ss_iload dX8_rank_27 0 rfl ?_
      refine ss_iconst (v := nI 4) dX8_rank_29 (by decide) ?_
      refine sz_icmp_ge 68 dX8_rank_30 (by decide) (by omega) (by omega) (fun c30 => by omega) (fun c30 => ?_)
      refine ss_aload_n dX8_rank_33 3 rfl ?_
      refine ss_get (i := 105) dX8_rank_34 flX8_64 (by omega) (sh_r105 _ _) rfl ?_
      refine ss_iconst (v := nI 4) dX8_rank_37 (by decide) ?_
      refine ss_iload_n dX8_rank_38 2 rfl ?_
      refine sz_imul dX8_rank_39 ?_
      refine ss_iload dX8_rank_40 0 rfl ?_
      refine sz_iadd dX8_rank_42 ?_
      refine ss_aload_n dX8_rank_43 3 rfl ?_
      refine ss_get (i := 105) dX8_rank_44 flX8_33 (by omega) (sh_r105 _ _) rfl ?_
      refine ss_bipush (v := nI 40) dX8_rank_47 (by decide) ?_
      refine ss_iload_n dX8_rank_49 4 rfl ?_
      refine sz_imul dX8_rank_50 ?_
      refine ss_iconst (v := nI 4) dX8_rank_51 (by decide) ?_
      refine ss_iload dX8_rank_52 1 rfl ?_
      refine sz_imul dX8_rank_54 ?_
      refine sz_iadd dX8_rank_55 ?_
      refine ss_iload dX8_rank_56 0 rfl ?_
      refine sz_iadd dX8_rank_58 ?_
      refine ss_iald (i := 113) dX8_rank_59 (by omega) (sh_r113) (by omega) (by decide) ?_
      refine ss_i2l dX8_rank_60 ?_
      refine ss_last (i := 122) dX8_rank_61 (by omega) (sh_r122) (by omega) (by decide) ?_
      refine sz_inc (lv' := [(5, _), (4, _), (3, _), (0, _), (1, _), (2, _)]) dX8_rank_62 0 rfl (by decide) rfl ?_
      refine ss_goto 27 dX8_rank_65 (by decide) ?_
      refine ss_eY srw_up ?_
      exact ih (i + 1) (by omega)
set_option maxHeartbeats 1000000 in
set_option maxRecDepth 100000 in
theorem l_rank2 {c : cx} {d : Nat} {X : nX} {Y : nY} {Q : Option Value → nX → nY → Prop} {w : Nat} (hw : w < 12) {u t s : Nat} (hu : u < 10) (ht : t < 10) {R : Nat → Int64} (hfs : ∀ i, i < u → fs4 R i < 4) (hQ : ∀ k9, ss c mX8_rank (d + 3) Q 90 [(5, .int (nI k9)), (4, .int (nI t)), (3, .int (nI u)), (0, .ref (c_ad c 105)), (1, .int (nI w)), (2, .int (nI s))] [] X (srw Y 122 (frs R u u))) : ∀ (nn i : Nat), i + nn = u → ss c mX8_rank (d + 3) Q 71 [(5, .int (nI i)), (4, .int (nI t)), (3, .int (nI u)), (0, .ref (c_ad c 105)), (1, .int (nI w)), (2, .int (nI s))] [] (X) (srw Y 122 (frs R u i)) := by
  intro nn
  induction nn with
  | zero =>
      intro i hin
      simp only [Nat.add_zero] at hin
      subst hin
      refine ss_iload dX8_rank_71 0 rfl ?_
      refine ss_iload_n dX8_rank_73 2 rfl ?_
      refine sz_icmp_ge 90 dX8_rank_74 (by decide) (by omega) (by omega) (fun c74 => ?_) (fun c74 => by omega)
      exact hQ _
  | succ nn ih =>
      intro i hin
      refine ss_iload dX8_rank_71 0 rfl ?_
      refine ss_iload_n dX8_rank_73 2 rfl ?_
      refine sz_icmp_ge 90 dX8_rank_74 (by decide) (by omega) (by omega) (fun c74 => by omega) (fun c74 => ?_)
      refine ss_aload_n dX8_rank_77 3 rfl ?_
      refine ss_iload_n dX8_rank_78 2 rfl ?_
      refine ss_iload dX8_rank_79 0 rfl ?_
      refine ss_callV (As := [_, _]) (i := 105) dX8_rank_81 vlX8_112 clX8_free rfl rfl (by omega) (sh_r105 _ _) rfl (Nat.le_of_ble_eq_true rfl) (Nat.le_of_ble_eq_true rfl) (m_free hu (by omega) (by rw [srw_at, fs4_sam (frs_sam R u i) (by omega)]; exact hfs i (by omega))) ?_
      refine sz_inc (lv' := [(5, _), (4, _), (3, _), (0, _), (1, _), (2, _)]) dX8_rank_84 0 rfl (by decide) rfl ?_
      refine ss_goto 71 dX8_rank_87 (by decide) ?_
      rw [srw_at, srw_srw]
      exact ih (i + 1) (by omega)
set_option maxHeartbeats 1000000 in
set_option maxRecDepth 100000 in
theorem l_rank {c : cx} {d : Nat} {X : nX} {Y : nY} {Q : Option Value → nX → nY → Prop} {w : Nat} (hw : w < 12) {n : Nat} (hn : n ≤ 10) (h6 : X 105 0 = nI n) {s : Nat} (hs : s < 1024) {R : Nat → Int64} (hQ : Q (some (.long (lN (rnk (fun k => X 113 (40 * w + k)) s R n).1))) X (srw Y 122 (rnk (fun k => X 113 (40 * w + k)) s R n).2)) : ∀ (nn i : Nat), i + nn = n → ss c mX8_rank (d + 3) Q 5 [(4, .int (nI i)), (3, .int (nI (rnk (fun k => X 113 (40 * w + k)) s R i).1)), (0, .ref (c_ad c 105)), (1, .int (nI w)), (2, .int (nI s))] [] (X) (srw Y 122 (rnk (fun k => X 113 (40 * w + k)) s R i).2) := by
  intro nn
  induction nn with
  | zero =>
      intro i hin
      simp only [Nat.add_zero] at hin
      subst hin
      refine ss_iload dX8_rank_5 0 rfl ?_
      refine ss_aload_n dX8_rank_7 2 rfl ?_
      refine ss_get (i := 105) dX8_rank_8 flX8_80 (by omega) (sh_r105 _ _) rfl ?_
      rw [h6]
      refine sz_icmp_ge 113 dX8_rank_11 (by decide) (by omega) (by omega) (fun c11 => ?_) (fun c11 => by omega)
      refine ss_iload_n dX8_rank_113 1 rfl ?_
      refine sz_i2l dX8_rank_114 (by have := rnk_le (fun k => X 113 (40 * w + k)) s R i; omega) ?_
      exact ss_lret dX8_rank_115 rfl (hQ)
  | succ nn ih =>
      intro i hin
      have hle := rnk_le (fun k => X 113 (40 * w + k)) s R i
      refine ss_iload dX8_rank_5 0 rfl ?_
      refine ss_aload_n dX8_rank_7 2 rfl ?_
      refine ss_get (i := 105) dX8_rank_8 flX8_80 (by omega) (sh_r105 _ _) rfl ?_
      rw [h6]
      refine sz_icmp_ge 113 dX8_rank_11 (by decide) (by omega) (by omega) (fun c11 => by omega) (fun c11 => ?_)
      refine ss_iload_n dX8_rank_14 4 rfl ?_
      refine ss_iload dX8_rank_15 0 rfl ?_
      refine sz_ishr dX8_rank_17 (by omega) (by omega) ?_
      refine ss_iconst (v := nI 1) dX8_rank_18 (by decide) ?_
      refine sz_iand dX8_rank_19 ?_
      refine ss_iconst (v := nI 1) dX8_rank_20 (by decide) ?_
      refine sz_icmp_ne 107 dX8_rank_21 (by decide) (by have := xb_bit s i; have := Bool.toNat_le (hb s i); omega) (by decide) (fun c21 => ?_) (fun c21 => ?_)
      · skip
        refine sz_inc (lv' := [(4, _), (3, _), (0, _), (1, _), (2, _)]) dX8_rank_107 0 rfl (by decide) rfl ?_
        refine ss_goto 5 dX8_rank_110 (by decide) ?_
        have h7 := ih (i + 1) (by omega)
        rw [rnk_s, if_neg (fun h9 => c21 ((xb_bit1 s i).mpr h9))] at h7
        exact h7
      · skip
        refine ss_iconst (v := nI 0) dX8_rank_24 (by decide) ?_
        refine ss_istore (lv' := [(5, _), (4, _), (3, _), (0, _), (1, _), (2, _)]) dX8_rank_25 (by decide) rfl ?_
        refine ss_eY (Y' := srw Y 122 (cpw (rnk (fun k => X 113 (40 * w + k)) s R i).2 (rnk (fun k => X 113 (40 * w + k)) s R i).1 (fun j => X 113 (40 * w + 4 * i + j)) 0)) rfl ?_
        refine l_rank1 (t := i) hw (by omega) (by omega) (fun k9 => ?_) 4 0 (by omega)
        refine ss_iconst (v := nI 0) dX8_rank_68 (by decide) ?_
        refine ss_istore (lv' := [(5, _), (4, _), (3, _), (0, _), (1, _), (2, _)]) dX8_rank_69 (by decide) rfl ?_
        refine ss_eY (Y' := srw Y 122 (frs (cpw (rnk (fun k => X 113 (40 * w + k)) s R i).2 (rnk (fun k => X 113 (40 * w + k)) s R i).1 (fun j => X 113 (40 * w + 4 * i + j)) 4) (rnk (fun k => X 113 (40 * w + k)) s R i).1 0)) rfl ?_
        refine l_rank2 (t := i) hw (by omega) (by omega) (fun j hj => by rw [fs4_sam (cpw_sam _ _ _ 4 (Nat.le_refl 4)) (Nat.ne_of_lt hj)]; exact rnk_fs _ _ _ _ j hj) (fun k9 => ?_) (rnk (fun k => X 113 (40 * w + k)) s R i).1 0 (by omega)
        rw [show frs (cpw (rnk (fun k => X 113 (40 * w + k)) s R i).2 (rnk (fun k => X 113 (40 * w + k)) s R i).1 (fun j => X 113 (40 * w + 4 * i + j)) 4) (rnk (fun k => X 113 (40 * w + k)) s R i).1 (rnk (fun k => X 113 (40 * w + k)) s R i).1 = (tki (rnk (fun k => X 113 (40 * w + k)) s R i).2 (rnk (fun k => X 113 (40 * w + k)) s R i).1 (fun j => X 113 (40 * w + (4 * i + j)))) from by unfold tki; simp only [Nat.add_assoc]]
        refine ss_iload_n dX8_rank_90 2 rfl ?_
        refine ss_aload_n dX8_rank_91 3 rfl ?_
        refine ss_iload_n dX8_rank_92 2 rfl ?_
        refine ss_callV (As := [_]) (i := 105) dX8_rank_93 vlX8_116 clX8_firstOf rfl rfl (by omega) (sh_r105 _ _) rfl (Nat.le_of_ble_eq_true rfl) (Nat.le_of_ble_eq_true rfl) (m_firstOf (by omega)) ?_
        rw [srw_at]
        refine ss_iconst (v := nI 4) dX8_rank_96 (by decide) ?_
        refine sz_icmp_ge 104 dX8_rank_97 (by decide) (by have := fs4_le (tki (rnk (fun k => X 113 (40 * w + k)) s R i).2 (rnk (fun k => X 113 (40 * w + k)) s R i).1 (fun j => X 113 (40 * w + (4 * i + j)))) (rnk (fun k => X 113 (40 * w + k)) s R i).1; omega) (by decide) (fun c97 => ?_) (fun c97 => ?_)
        · skip
          refine ss_iconst (v := nI 0) dX8_rank_104 (by decide) ?_
          refine sz_iadd dX8_rank_105 ?_
          refine ss_istore_n (lv' := [(3, _), (5, _), (4, _), (0, _), (1, _), (2, _)]) dX8_rank_106 (by decide) rfl ?_
          refine sz_inc (lv' := [(4, _), (3, _), (5, _), (0, _), (1, _), (2, _)]) dX8_rank_107 2 rfl (by decide) rfl ?_
          refine ss_goto 5 dX8_rank_110 (by decide) ?_
          refine ss_sub [0, 1, 3, 4, 5] rfl ?_
          have h7 := ih (i + 1) (by omega)
          rw [rnk_s, if_pos ((xb_bit1 s i).mp c21), if_neg (Nat.not_lt.mpr c97)] at h7
          exact h7
        · skip
          refine ss_iconst (v := nI 1) dX8_rank_100 (by decide) ?_
          refine ss_goto 105 dX8_rank_101 (by decide) ?_
          refine sz_iadd dX8_rank_105 ?_
          refine ss_istore_n (lv' := [(3, _), (5, _), (4, _), (0, _), (1, _), (2, _)]) dX8_rank_106 (by decide) rfl ?_
          refine sz_inc (lv' := [(4, _), (3, _), (5, _), (0, _), (1, _), (2, _)]) dX8_rank_107 2 rfl (by decide) rfl ?_
          refine ss_goto 5 dX8_rank_110 (by decide) ?_
          refine ss_sub [0, 1, 3, 4, 5] rfl ?_
          have h7 := ih (i + 1) (by omega)
          rw [rnk_s, if_pos ((xb_bit1 s i).mp c21), if_pos (Nat.not_le.mp c97)] at h7
          exact h7
set_option maxHeartbeats 1000000 in
set_option maxRecDepth 100000 in
theorem m_rank {c : cx} {d : Nat} {X : nX} {Y : nY} {w : Nat} (hw : w < 12) {n : Nat} (hn : n ≤ 10) (h6 : X 105 0 = nI n) {s : Nat} (hs : s < 1024) : sc c mX8_rank (d + 3) [.ref (c_ad c 105), .int (nI w), .int (nI s)] (X) (Y) (some (.long (lN (rnk (fun k => X 113 (40 * w + k)) s (Y 122) n).1))) (X) (srw Y 122 (rnk (fun k => X 113 (40 * w + k)) s (Y 122) n).2) := by
  intro Q hQ
  show ss c mX8_rank (d + 3) Q 0 [(0, .ref (c_ad c 105)), (1, .int (nI w)), (2, .int (nI s))] [] (X) (Y)
  refine ss_iconst (v := nI 0) dX8_rank_0 (by decide) ?_
  refine ss_istore_n (lv' := [(3, _), (0, _), (1, _), (2, _)]) dX8_rank_1 (by decide) rfl ?_
  refine ss_iconst (v := nI 0) dX8_rank_2 (by decide) ?_
  refine ss_istore (lv' := [(4, _), (3, _), (0, _), (1, _), (2, _)]) dX8_rank_3 (by decide) rfl ?_
  refine ss_eY (Y' := srw Y 122 (rnk (fun k => X 113 (40 * w + k)) s (Y 122) 0).2) srw_self.symm ?_
  exact l_rank hw hn h6 hs hQ n 0 (by omega)
