/-! the class's rank of few rows -/
theorem cp4_ne (R : Nat → Int64) (h : Nat) (N : Nat → Int32) (t : Nat) : ∀ j, j ≤ 4 → ∀ i, (i < 4 * h ∨ 4 * h + 4 ≤ i) → cp4 R h N t j i = R i := by
  intro j
  induction j with
  | zero => intro _ i _; rfl
  | succ j ih =>
    intro hj i hi
    show vp_updL _ _ _ _ = _
    rw [vpu_ne (by omega)]
    exact ih (by omega) i hi
theorem cp4_at (R : Nat → Int64) (h : Nat) (N : Nat → Int32) (t : Nat) : ∀ j, j ≤ 4 → ∀ k, k < j → cp4 R h N t j (4 * h + k) = (N (4 * t + k)).toInt64 := by
  intro j
  induction j with
  | zero => intro _ k hk; omega
  | succ j ih =>
    intro hj k hk
    show vp_updL _ _ _ _ = _
    by_cases h1 : k = j
    · subst h1
      rw [show 4 * h + k = h * 4 + k by omega, vpu_at, show t * 4 + k = 4 * t + k by omega]
    · rw [vpu_ne (by omega)]
      exact ih (by omega) k (by omega)
theorem cnt_s (s n : Nat) : cnt s (n + 1) = cnt s n + (hb s n).toNat := rfl
theorem cnt_mono (s : Nat) {a b : Nat} (h : a ≤ b) : cnt s a ≤ cnt s b := by
  induction b with
  | zero => rw [Nat.le_zero.mp h]; exact Nat.le_refl _
  | succ b ih =>
    rcases Nat.lt_or_ge a (b + 1) with h1 | h1
    · have := ih (by omega)
      rw [cnt_s]
      omega
    · rw [show a = b + 1 by omega]; exact Nat.le_refl _
theorem cpr_inv {N : Nat → Int32} (hN : ∀ k, k < 40 → (N k).toInt.natAbs ≤ 99) (s : Nat) (R : Nat → Int64) : ∀ t, t ≤ 10 → cnt s t ≤ 4 → (cpr N s R t).1 = cnt s t ∧ (∀ h, h < cnt s t → ∀ c, c < 4 → ((cpr N s R t).2 (4 * h + c)).toInt.natAbs ≤ 99) ∧ ∀ x, (∀ h, h < cnt s t → dt (rwz (cpr N s R t).2 h) x = 0) ↔ nul (vN N) s t x := by
  intro t
  induction t with
  | zero => intro _ _; exact ⟨rfl, fun h hh => absurd hh (Nat.not_lt_zero _), fun x => ⟨fun _ t ht => absurd ht (Nat.not_lt_zero _), fun _ i hi => absurd hi (Nat.not_lt_zero _)⟩⟩
  | succ t ih =>
    intro ht hc
    have hm := cnt_mono s (a := t) (b := t + 1) (by omega)
    obtain ⟨h1, h2, h3⟩ := ih (by omega) (by omega)
    have e : cpr N s R (t + 1) = if (cpr N s R t).1 < 4 ∧ hb s t = true then ((cpr N s R t).1 + 1, cp4 (cpr N s R t).2 (cpr N s R t).1 N t 4) else cpr N s R t := rfl
    rw [e]
    cases hh : hb s t with
    | true =>
      rw [cnt_s, hh] at hc ⊢
      simp only [Bool.toNat_true] at hc ⊢
      rw [if_pos (by first | exact ⟨by omega, rfl⟩ | exact ⟨by omega, trivial⟩)]
      show (cpr N s R t).1 + 1 = _ ∧ _
      rw [h1]
      generalize (cpr N s R t).2 = T at h2 h3 ⊢
      have a1 : ∀ r, r < cnt s t → ∀ k, k < 4 → cp4 T (cnt s t) N t 4 (4 * r + k) = T (4 * r + k) := fun r hr k hk => cp4_ne T _ N t 4 (by omega) _ (by omega)
      have a2 : ∀ k, k < 4 → cp4 T (cnt s t) N t 4 (4 * cnt s t + k) = (N (4 * t + k)).toInt64 := fun k hk => cp4_at T _ N t 4 (by omega) k hk
      have a4 : ∀ x r, r < cnt s t → dt (rwz (cp4 T (cnt s t) N t 4) r) x = dt (rwz T r) x := fun x r hr => dt_c (fun c hc => by show (cp4 T (cnt s t) N t 4 (4 * r + c)).toInt = _; rw [a1 r hr c hc]; rfl)
      have a5 : ∀ x, dt (rwz (cp4 T (cnt s t) N t 4) (cnt s t)) x = dt (vN N t) x := fun x => dt_c (fun c hc => by show (cp4 T (cnt s t) N t 4 (4 * cnt s t + c)).toInt = _; rw [a2 c hc, Int32.toInt_toInt64]; rfl)
      refine ⟨rfl, fun h hh' c hc => ?_, fun x => ?_⟩
      · rcases Nat.lt_or_ge h (cnt s t) with h9 | h9
        · show (cp4 T (cnt s t) N t 4 (4 * h + c)).toInt.natAbs ≤ 99
          rw [a1 h h9 c hc]; exact h2 h h9 c hc
        · have : h = cnt s t := by omega
          subst this
          show (cp4 T (cnt s t) N t 4 (4 * cnt s t + c)).toInt.natAbs ≤ 99
          rw [a2 c hc, Int32.toInt_toInt64]
          exact hN _ (by omega)
      · rw [nul_s hh, ← h3 x]
        refine ⟨fun h => ⟨fun i hi => ?_, ?_⟩, fun h i hi => ?_⟩
        · rw [← a4 x i hi]; exact h i (by omega)
        · rw [← a5 x]; exact h _ (by omega)
        · rcases Nat.lt_or_ge i (cnt s t) with h9 | h9
          · rw [a4 x i h9]; exact h.1 i h9
          · have : i = cnt s t := by omega
            subst this
            rw [a5 x]; exact h.2
    | false =>
      rw [cnt_s, hh]
      simp only [Bool.toNat_false, Nat.add_zero]
      rw [if_neg (by simp)]
      refine ⟨h1, h2, fun x => ?_⟩
      rw [nul_f hh]
      exact h3 x
theorem swr_at (R : Nat → Int64) (u l : Nat) : ∀ j, j ≤ 4 → ∀ i c, c < 4 → swr R u l j (4 * i + c) = if c < j then (if i = u then R (4 * l + c) else if i = l then R (4 * u + c) else R (4 * i + c)) else R (4 * i + c) := by
  intro j
  induction j with
  | zero => intro _ i c _; rfl
  | succ j ih =>
    intro hj i c hc
    show vp_updL (vp_updL (swr R u l j) (u * 4 + j) (swr R u l j (l * 4 + j))) (l * 4 + j) (swr R u l j (u * 4 + j)) (4 * i + c) = _
    have el : swr R u l j (l * 4 + j) = R (4 * l + j) := by rw [show l * 4 + j = 4 * l + j by omega, ih (by omega) l j (by omega), if_neg (by omega)]
    have eu : swr R u l j (u * 4 + j) = R (4 * u + j) := by rw [show u * 4 + j = 4 * u + j by omega, ih (by omega) u j (by omega), if_neg (by omega)]
    rw [el, eu]
    by_cases h1 : c = j
    · subst h1
      rw [if_pos (by omega)]
      by_cases h2 : i = l
      · subst h2
        rw [show 4 * i + c = i * 4 + c by omega, vpu_at]
        by_cases h3 : i = u
        · rw [if_pos h3, h3]
          congr 1
          omega
        · rw [if_neg h3, if_pos rfl]
      · rw [vpu_ne (by omega)]
        by_cases h3 : i = u
        · subst h3
          rw [if_pos rfl, show 4 * i + c = i * 4 + c by omega, vpu_at]
        · rw [vpu_ne (by omega), if_neg h3, if_neg h2, ih (by omega) i c hc, if_neg (by omega)]
    · rw [vpu_ne (by omega), vpu_ne (by omega), ih (by omega) i c hc]
      by_cases h2 : c < j
      · rw [if_pos h2, if_pos (show c < j + 1 by omega)]
      · rw [if_neg h2, if_neg (show ¬ c < j + 1 by omega)]
theorem clc_at (R : Nat → Int64) (pv r col : Nat) (hd fc : Int64) (hne : r ≠ pv) : ∀ k, col + k ≤ 4 → ∀ i c, c < 4 → clc R pv r col hd fc k (4 * i + c) = if i = r ∧ col ≤ c ∧ c < col + k then R (4 * r + c) * hd - R (4 * pv + c) * fc else R (4 * i + c) := by
  intro k
  induction k with
  | zero => intro _ i c _; rw [if_neg (by omega)]; rfl
  | succ k ih =>
    intro hk i c hc
    show vp_updL (clc R pv r col hd fc k) (r * 4 + (col + k)) (clc R pv r col hd fc k (r * 4 + (col + k)) * hd - clc R pv r col hd fc k (pv * 4 + (col + k)) * fc) (4 * i + c) = _
    have er : clc R pv r col hd fc k (r * 4 + (col + k)) = R (4 * r + (col + k)) := by rw [show r * 4 + (col + k) = 4 * r + (col + k) by omega, ih (by omega) r (col + k) (by omega), if_neg (by omega)]
    have ep : clc R pv r col hd fc k (pv * 4 + (col + k)) = R (4 * pv + (col + k)) := by rw [show pv * 4 + (col + k) = 4 * pv + (col + k) by omega, ih (by omega) pv (col + k) (by omega), if_neg (by omega)]
    rw [er, ep]
    by_cases h1 : i = r ∧ c = col + k
    · obtain ⟨h2, h3⟩ := h1
      subst h2
      subst h3
      rw [show 4 * i + (col + k) = i * 4 + (col + k) by omega, vpu_at, if_pos (by omega)]
    · rw [vpu_ne (by omega), ih (by omega) i c hc]
      by_cases h2 : i = r ∧ col ≤ c ∧ c < col + k
      · rw [if_pos h2, if_pos (by omega)]
      · rw [if_neg h2, if_neg (by omega)]
theorem clr_at (R : Nat → Int64) (pv col : Nat) (hd : Int64) (hcol : col < 4) : ∀ k i c, c < 4 → clr R pv col hd k (4 * i + c) = if pv < i ∧ i < pv + 1 + k ∧ col ≤ c then R (4 * i + c) * hd - R (4 * pv + c) * R (4 * i + col) else R (4 * i + c) := by
  intro k
  induction k with
  | zero => intro i c _; rw [if_neg (by omega)]; rfl
  | succ k ih =>
    intro i c hc
    show clc (clr R pv col hd k) pv (pv + 1 + k) col hd (clr R pv col hd k ((pv + 1 + k) * 4 + col)) (4 - col) (4 * i + c) = _
    rw [show (pv + 1 + k) * 4 + col = 4 * (pv + 1 + k) + col by omega, clc_at _ _ _ _ _ _ (by omega) (4 - col) (by omega) i c hc]
    by_cases h1 : i = pv + 1 + k ∧ col ≤ c
    · obtain ⟨h2, h3⟩ := h1
      subst h2
      rw [if_pos (by omega), if_pos (by omega), ih (pv + 1 + k) c hc, if_neg (by omega), ih pv c hc, if_neg (by omega), ih (pv + 1 + k) col hcol, if_neg (by omega)]
    · rw [if_neg (by omega), ih i c hc]
      by_cases h2 : pv < i ∧ i < pv + 1 + k ∧ col ≤ c
      · rw [if_pos h2, if_pos (by omega)]
      · rw [if_neg h2, if_neg (by omega)]
def ginv (Nl : (Nat → Int) → Prop) (H col k : Nat) (T : Nat → Int64) : Prop := k ≤ col ∧ k ≤ H ∧ ∃ p : Nat → Nat, (∀ i, i < k → p i < col) ∧ ech (rwz T) p k ∧ (∀ i, k ≤ i → i < H → ∀ c, c < col → T (4 * i + c) = 0) ∧ (∀ i, k ≤ i → i < H → ∀ c, c < 4 → (T (4 * i + c)).toInt.natAbs ≤ bbd k) ∧ ∀ x, (∀ i, i < H → dt (rwz T i) x = 0) ↔ Nl x
theorem gel_inv {Nl : (Nat → Int) → Prop} {H : Nat} {R : Nat → Int64} (hH : H ≤ 4) (hb : ∀ i, i < H → ∀ c, c < 4 → (R (4 * i + c)).toInt.natAbs ≤ 99) (hx : ∀ x, (∀ i, i < H → dt (rwz R i) x = 0) ↔ Nl x) : ∀ col, col ≤ 4 → ginv Nl H col (gel H R col).1 (gel H R col).2 := by
  intro col
  induction col with
  | zero =>
    intro _
    exact ⟨Nat.le_refl _, Nat.zero_le _, fun _ => 0, fun i hi => absurd hi (Nat.not_lt_zero _), ⟨fun i hi => absurd hi (Nat.not_lt_zero _), fun i j hi => absurd hi (Nat.not_lt_zero _)⟩, fun i _ _ c hc => absurd hc (Nat.not_lt_zero _), fun i _ hi => hb i hi, hx⟩
  | succ col ih =>
    intro hcol
    obtain ⟨h1, h2, p, h3, h4, h5, h6, h7⟩ := ih (by omega)
    have e : gel H R (col + 1) = match ffind (p_piv (gel H R col).2 (gel H R col).1 col) H with
      | none => gel H R col
      | some r => ((gel H R col).1 + 1, clr (swr (gel H R col).2 (gel H R col).1 r 4) (gel H R col).1 col (swr (gel H R col).2 (gel H R col).1 r 4 ((gel H R col).1 * 4 + col)) (H - ((gel H R col).1 + 1))) := rfl
    rw [e]
    cases hf : ffind (p_piv (gel H R col).2 (gel H R col).1 col) H with
    | none =>
      show ginv Nl H (col + 1) (gel H R col).1 (gel H R col).2
      generalize (gel H R col).1 = k at h1 h2 h3 h4 h5 h6 h7 hf ⊢
      generalize (gel H R col).2 = T at h4 h5 h6 h7 hf ⊢
      refine ⟨by omega, h2, p, fun i hi => Nat.lt_succ_of_lt (h3 i hi), h4, fun i hi hiH c hc => ?_, h6, h7⟩
      rcases Nat.lt_or_ge c col with h9 | h9
      · exact h5 i hi hiH c h9
      · have : c = col := by omega
        subst this
        have h8 := ff_none.mp hf i hiH
        unfold p_piv at h8
        rw [decide_eq_true hi, show i * 4 + c = 4 * i + c by omega] at h8
        simpa using h8
    | some r =>
      show ginv Nl H (col + 1) ((gel H R col).1 + 1) (clr (swr (gel H R col).2 (gel H R col).1 r 4) (gel H R col).1 col (swr (gel H R col).2 (gel H R col).1 r 4 ((gel H R col).1 * 4 + col)) (H - ((gel H R col).1 + 1)))
      generalize (gel H R col).1 = k at h1 h2 h3 h4 h5 h6 h7 hf ⊢
      generalize (gel H R col).2 = T at h4 h5 h6 h7 hf ⊢
      obtain ⟨f1, f2, -⟩ := ff_spec hf
      unfold p_piv at f2
      have f3 : k ≤ r := by
        have := (Bool.and_eq_true_iff.mp f2).1
        simpa using this
      have f4 : T (4 * r + col) ≠ 0 := by
        have := (Bool.and_eq_true_iff.mp f2).2
        rw [show r * 4 + col = 4 * r + col by omega] at this
        simpa using this
      -- the rows swapped
      have s1 : ∀ i c, c < 4 → swr T k r 4 (4 * i + c) = if i = k then T (4 * r + c) else if i = r then T (4 * k + c) else T (4 * i + c) := fun i c hc => by rw [swr_at T k r 4 (by omega) i c hc, if_pos hc]
      generalize swr T k r 4 = T1 at s1 ⊢
      have s0 : ∀ c, c < 4 → T1 (4 * k + c) = T (4 * r + c) := fun c hc => by rw [s1 k c hc, if_pos rfl]
      have s2 : ∀ i, i < k → ∀ c, c < 4 → T1 (4 * i + c) = T (4 * i + c) := fun i hi c hc => by rw [s1 i c hc, if_neg (by omega), if_neg (by omega)]
      have s3 : ∀ i, k ≤ i → i < H → ∀ c, c < col → T1 (4 * i + c) = 0 := fun i hi hiH c hc => by
        rw [s1 i c (by omega)]
        split
        · exact h5 r f3 f1 c hc
        · split
          · exact h5 k (Nat.le_refl _) (by omega) c hc
          · exact h5 i hi hiH c hc
      have s4 : ∀ i, k ≤ i → i < H → ∀ c, c < 4 → (T1 (4 * i + c)).toInt.natAbs ≤ bbd k := fun i hi hiH c hc => by
        rw [s1 i c hc]
        split
        · exact h6 r f3 f1 c hc
        · split
          · exact h6 k (Nat.le_refl _) (by omega) c hc
          · exact h6 i hi hiH c hc
      have sd : ∀ i x, dt (rwz T1 i) x = if i = k then dt (rwz T r) x else if i = r then dt (rwz T k) x else dt (rwz T i) x := fun i x => by
        by_cases g1 : i = k
        · rw [if_pos g1]
          exact dt_c (fun c hc => by show (T1 (4 * i + c)).toInt = _; rw [s1 i c hc, if_pos g1]; rfl)
        · rw [if_neg g1]
          by_cases g2 : i = r
          · rw [if_pos g2]
            exact dt_c (fun c hc => by show (T1 (4 * i + c)).toInt = _; rw [s1 i c hc, if_neg g1, if_pos g2]; rfl)
          · rw [if_neg g2]
            exact dt_c (fun c hc => by show (T1 (4 * i + c)).toInt = _; rw [s1 i c hc, if_neg g1, if_neg g2]; rfl)
      have s7 : ∀ x, (∀ i, i < H → dt (rwz T1 i) x = 0) ↔ Nl x := fun x => by
        rw [← h7 x]
        refine ⟨fun h i hi => ?_, fun h i hi => ?_⟩
        · by_cases g1 : i = k
          · have := h r f1
            rw [sd r x] at this
            by_cases g2 : r = k
            · rw [if_pos g2] at this; rw [g1, ← g2]; exact this
            · rw [if_neg g2, if_pos rfl] at this; rw [g1]; exact this
          · by_cases g2 : i = r
            · have := h k (by omega)
              rw [sd k x, if_pos rfl] at this
              rw [g2]; exact this
            · have := h i hi
              rw [sd i x, if_neg g1, if_neg g2] at this
              exact this
        · rw [sd i x]
          split
          · exact h r f1
          · split
            · exact h k (by omega)
            · exact h i hi
      have f5 : T1 (4 * k + col) ≠ 0 := by rw [s0 col (by omega)]; exact f4
      -- the rows below cleared
      rw [show k * 4 + col = 4 * k + col by omega]
      have t1 : ∀ i c, c < 4 → clr T1 k col (T1 (4 * k + col)) (H - (k + 1)) (4 * i + c) = if k < i ∧ i < k + 1 + (H - (k + 1)) ∧ col ≤ c then T1 (4 * i + c) * T1 (4 * k + col) - T1 (4 * k + c) * T1 (4 * i + col) else T1 (4 * i + c) := fun i c hc => clr_at T1 k col _ (by omega) _ i c hc
      generalize clr T1 k col (T1 (4 * k + col)) (H - (k + 1)) = T2 at t1 ⊢
      have t2 : ∀ i, i ≤ k → ∀ c, c < 4 → T2 (4 * i + c) = T1 (4 * i + c) := fun i hi c hc => by rw [t1 i c hc, if_neg (by omega)]
      have t3 : ∀ i, k < i → i < H → ∀ c, c < 4 → T2 (4 * i + c) = T1 (4 * i + c) * T1 (4 * k + col) - T1 (4 * k + c) * T1 (4 * i + col) := fun i hi hiH c hc => by
        rw [t1 i c hc]
        by_cases g1 : col ≤ c
        · rw [if_pos (by omega)]
        · rw [if_neg (by omega), s3 i (by omega) hiH c (by omega), s3 k (Nat.le_refl _) (by omega) c (by omega), Int64.zero_mul, Int64.zero_mul, Int64.sub_self]
      have t4 : ∀ i, k < i → i < H → ∀ c, c < 4 → (T2 (4 * i + c)).toInt = (T1 (4 * i + c)).toInt * (T1 (4 * k + col)).toInt - (T1 (4 * k + c)).toInt * (T1 (4 * i + col)).toInt ∧ (T2 (4 * i + c)).toInt.natAbs ≤ bbd (k + 1) := fun i hi hiH c hc => by
        rw [t3 i hi hiH c hc, bbd_s]
        have hbl := bbd_lt (i := k + 1) (by omega)
        rw [bbd_s] at hbl
        exact ms_toInt (s4 i (by omega) hiH c hc) (s4 k (Nat.le_refl _) (by omega) col (by omega)) (s4 k (Nat.le_refl _) (by omega) c hc) (s4 i (by omega) hiH col (by omega)) hbl
      have t5 : ∀ x, dt (rwz T1 k) x = 0 → ∀ i, k < i → i < H → (dt (rwz T2 i) x = 0 ↔ dt (rwz T1 i) x = 0) := fun x hx i hi hiH => by
        have g1 : dt (rwz T2 i) x = (T1 (4 * k + col)).toInt * dt (rwz T1 i) x - (T1 (4 * i + col)).toInt * dt (rwz T1 k) x := by
          rw [← dt_lin]
          exact dt_c (fun c hc => (t4 i hi hiH c hc).1)
        rw [g1, hx, Int.mul_zero, Int.sub_zero]
        exact ⟨fun h => (Int.mul_eq_zero.mp h).resolve_left (fun h9 => f5 (Int64.toInt_inj.mp h9)), fun h => by rw [h, Int.mul_zero]⟩
      have t6 : ∀ x i, i ≤ k → dt (rwz T2 i) x = dt (rwz T1 i) x := fun x i hi => dt_c (fun c hc => by show (T2 (4 * i + c)).toInt = _; rw [t2 i hi c hc]; rfl)
      refine ⟨by omega, by omega, fun i => if i = k then col else p i, fun i hi => ?_, ⟨fun i hi => ?_, fun i j hi hj => ?_⟩, fun i hi hiH c hc => ?_, fun i hi hiH c hc => (t4 i (by omega) hiH c hc).2, fun x => ?_⟩
      · show (if i = k then col else p i) < col + 1
        split
        · omega
        · exact Nat.lt_succ_of_lt (h3 i (by omega))
      · show (if i = k then col else p i) < 4 ∧ rwz T2 i (if i = k then col else p i) ≠ 0
        by_cases g1 : i = k
        · rw [if_pos g1, g1]
          refine ⟨by omega, fun h9 => f5 (Int64.toInt_inj.mp ?_)⟩
          rw [← t2 k (Nat.le_refl _) col (by omega)]
          exact h9
        · rw [if_neg g1]
          have := h4.1 i (by omega)
          refine ⟨this.1, ?_⟩
          show (T2 (4 * i + p i)).toInt ≠ 0
          rw [t2 i (by omega) _ this.1, s2 i (by omega) _ this.1]
          exact this.2
      · show rwz T2 i (if j = k then col else p j) = 0
        rw [if_neg (by omega)]
        have hpj := h3 j (by omega)
        show (T2 (4 * i + p j)).toInt = 0
        by_cases g1 : i = k
        · rw [g1, t2 k (Nat.le_refl _) _ (by omega), s3 k (Nat.le_refl _) (by omega) _ hpj]; rfl
        · rw [t2 i (by omega) _ (by omega), s2 i (by omega) _ (by omega)]
          exact h4.2 i j (by omega) hj
      · rcases Nat.lt_or_ge c col with h9 | h9
        · rw [t3 i (by omega) hiH c (by omega), s3 i (by omega) hiH c h9, s3 k (Nat.le_refl _) (by omega) c h9, Int64.zero_mul, Int64.zero_mul, Int64.sub_self]
        · have : c = col := by omega
          subst this
          rw [t3 i (by omega) hiH c (by omega), Int64.mul_comm, Int64.sub_self]
      · rw [← s7 x]
        refine ⟨fun h i hi => ?_, fun h i hi => ?_⟩
        · rcases Nat.lt_or_ge k i with g1 | g1
          · have hk0 : dt (rwz T1 k) x = 0 := by rw [← t6 x k (Nat.le_refl _)]; exact h k (by omega)
            exact (t5 x hk0 i g1 hi).mp (h i hi)
          · rw [← t6 x i g1]; exact h i hi
        · rcases Nat.lt_or_ge k i with g1 | g1
          · exact (t5 x (h k (by omega)) i g1 hi).mpr (h i hi)
          · rw [t6 x i g1]; exact h i hi
theorem rkf_rk {N : Nat → Int32} (hN : ∀ k, k < 40 → (N k).toInt.natAbs ≤ 99) (s : Nat) (R : Nat → Int64) (hc : cnt s 10 ≤ 4) : rkOf (vN N) s 10 (rkf N s R).1 := by
  obtain ⟨h1, h2, h3⟩ := cpr_inv hN s R 10 (Nat.le_refl _) hc
  unfold rkf
  rw [h1]
  obtain ⟨g1, g2, p, g3, g4, g5, g6, g7⟩ := gel_inv (Nl := nul (vN N) s 10) hc h2 h3 4 (Nat.le_refl _)
  generalize (gel (cnt s 10) (cpr N s R 10).2 4).1 = k at g1 g2 g3 g4 g5 g6 g7 ⊢
  generalize (gel (cnt s 10) (cpr N s R 10).2 4).2 = T at g4 g5 g6 g7
  refine ⟨rwz T, p, g4, fun x => ?_⟩
  rw [← g7 x]
  refine ⟨fun h i hi => ?_, fun h i hi => h i (by omega)⟩
  rcases Nat.lt_or_ge i k with h9 | h9
  · exact h i h9
  · exact dt_0 (fun c hc => by show (T (4 * i + c)).toInt = 0; rw [g5 i h9 hi c hc]; rfl)
