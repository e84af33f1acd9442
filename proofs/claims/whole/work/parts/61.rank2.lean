/-! the reference's rank -/
theorem frl_at (R : Nat → Int64) (u r : Nat) (a b : Int64) (hur : r ≠ u) : ∀ j, j ≤ 4 → ∀ k, k < 4 → (frl R u r a b j).1 (4 * u + k) = if k < j then R (4 * u + k) * a - R (4 * r + k) * b else R (4 * u + k) := by
  intro j
  induction j with
  | zero => intro _ k _; rfl
  | succ j ih =>
    intro hj k hk
    rw [frl_s]
    show vp_updL _ _ _ _ = _
    by_cases h : k = j
    · subst h
      rw [vpu_at, ih (by omega) k hk, if_neg (by omega), if_pos (by omega), frl_sam R u r a b k (by omega) (4 * r + k) (by omega)]
    · rw [vpu_ne (by omega), ih (by omega) k hk]
      by_cases h2 : k < j
      · rw [if_pos h2, if_pos (by omega)]
      · rw [if_neg h2, if_neg (by omega)]
theorem frl_dv (R : Nat → Int64) (u r : Nat) (a b : Int64) (hur : r ≠ u) : ∀ j, j ≤ 4 → ∀ k, k < j → (frl R u r a b j).2.toInt ∣ (R (4 * u + k) * a - R (4 * r + k) * b).toInt := by
  intro j
  induction j with
  | zero => intro _ k hk; omega
  | succ j ih =>
    intro hj k hk
    rw [frl_s]
    show (cmn _ _).toInt ∣ _
    have h := cmn_dvd (frl R u r a b j).2 ((frl R u r a b j).1 (4 * u + j) * a - (frl R u r a b j).1 (4 * r + j) * b)
    rcases Nat.lt_or_ge k j with h1 | h1
    · exact Int.dvd_trans h.1 (ih (by omega) k h1)
    · have h2 : k = j := by omega
      subst h2
      have h3 := h.2
      rw [frl_at R u r a b hur k (by omega) k (by omega), if_neg (by omega), frl_sam R u r a b k (by omega) (4 * r + k) (by omega)] at h3
      rw [frl_at R u r a b hur k (by omega) k (by omega), if_neg (by omega), frl_sam R u r a b k (by omega) (4 * r + k) (by omega)]
      exact h3
theorem frd_at (R : Nat → Int64) (u : Nat) (e : Int64) : ∀ j, j ≤ 4 → ∀ k, k < 4 → frd R u e j (4 * u + k) = if k < j then R (4 * u + k) / e else R (4 * u + k) := by
  intro j
  induction j with
  | zero => intro _ k _; rfl
  | succ j ih =>
    intro hj k hk
    rw [frd_s]
    by_cases h : k = j
    · subst h
      rw [vpu_at, ih (by omega) k hk, if_neg (by omega), if_pos (by omega)]
    · rw [vpu_ne (by omega), ih (by omega) k hk]
      by_cases h2 : k < j
      · rw [if_pos h2, if_pos (by omega)]
      · rw [if_neg h2, if_neg (by omega)]
theorem fs4_nz {R : Nat → Int64} {r : Nat} (h : fs4 R r < 4) : R (4 * r + fs4 R r) ≠ 0 := by
  unfold fs4 at h ⊢
  cases h1 : ffind (p_nz R r) 4 with
  | none => rw [h1] at h; exact absurd h (by decide)
  | some k =>
    have h2 := (ff_spec h1).2.1
    unfold p_nz at h2
    simpa using h2
theorem fs4_z {R : Nat → Int64} {r : Nat} (h : ¬ fs4 R r < 4) : ∀ c, c < 4 → R (4 * r + c) = 0 := by
  unfold fs4 at h
  cases h1 : ffind (p_nz R r) 4 with
  | none =>
    intro c hc
    have h2 := ff_none.mp h1 c hc
    unfold p_nz at h2
    simpa using h2
  | some k =>
    rw [h1] at h
    exact absurd (ff_spec h1).1 h
def rwz (T : Nat → Int64) : Nat → Nat → Int := fun i c => (T (4 * i + c)).toInt
/-- a step of freeing row u by row i, where nothing is too large -/
theorem fre_st {T : Nat → Int64} {u i : Nat} {A : Nat} (hiu : i < u) (hk : fs4 T i < 4) (hb1 : ∀ c, c < 4 → (T (4 * u + c)).toInt.natAbs ≤ A) (hb2 : ∀ c, c < 4 → (T (4 * i + c)).toInt.natAbs ≤ A) (hA : 2 * (A * A) < 2 ^ 63) (hA1 : A ≤ 2 * (A * A)) :
    (∀ c, c < 4 → (fre T u i (4 * u + c)).toInt.natAbs ≤ 2 * (A * A)) ∧ fre T u i (4 * u + fs4 T i) = 0 ∧ (∀ c, c < 4 → T (4 * u + c) = 0 → T (4 * i + c) = 0 → fre T u i (4 * u + c) = 0) ∧ (∀ x, dt (rwz T i) x = 0 → (dt (rwz (fre T u i) u) x = 0 ↔ dt (rwz T u) x = 0)) := by
  have hnz := fs4_nz hk
  generalize hkk : fs4 T i = k at hk hnz ⊢
  by_cases h0 : T (4 * u + k) = 0
  · have e : fre T u i = T := by unfold fre; rw [hkk, if_pos h0]
    rw [e]
    exact ⟨fun c hc => Nat.le_trans (hb1 c hc) hA1, h0, fun c _ h1 _ => h1, fun x _ => Iff.rfl⟩
  · have hz : T (4 * i + k) ≠ 0 := hnz
    have hzi : (T (4 * i + k)).toInt ≠ 0 := fun h9 => hz (Int64.toInt_inj.mp h9)
    -- the numbers before the division
    have e1 : ∀ c, c < 4 → (frl T u i (T (4 * i + k)) (T (4 * u + k)) 4).1 (4 * u + c) = T (4 * u + c) * T (4 * i + k) - T (4 * i + c) * T (4 * u + k) := fun c hc => by
      rw [frl_at T u i _ _ (by omega) 4 (by omega) c hc, if_pos hc]
    have e2 : ∀ c, c < 4 → (T (4 * u + c) * T (4 * i + k) - T (4 * i + c) * T (4 * u + k)).toInt = (T (4 * u + c)).toInt * (T (4 * i + k)).toInt - (T (4 * i + c)).toInt * (T (4 * u + k)).toInt ∧ (T (4 * u + c) * T (4 * i + k) - T (4 * i + c) * T (4 * u + k)).toInt.natAbs ≤ 2 * (A * A) := fun c hc => ms_toInt (hb1 c hc) (hb2 k hk) (hb2 c hc) (hb1 k hk) hA
    have e3 : T (4 * u + k) * T (4 * i + k) - T (4 * i + k) * T (4 * u + k) = 0 := by rw [Int64.mul_comm, Int64.sub_self]
    have e4 : ∀ c, T (4 * u + c) = 0 → T (4 * i + c) = 0 → T (4 * u + c) * T (4 * i + k) - T (4 * i + c) * T (4 * u + k) = 0 := fun c h1 h2 => by rw [h1, h2, Int64.zero_mul, Int64.zero_mul, Int64.sub_self]
    have e5 : ∀ x, dt (rwz T i) x = 0 → (dt (fun c => (T (4 * u + c) * T (4 * i + k) - T (4 * i + c) * T (4 * u + k)).toInt) x = 0 ↔ dt (rwz T u) x = 0) := fun x hx => by
      have h1 : dt (fun c => (T (4 * u + c) * T (4 * i + k) - T (4 * i + c) * T (4 * u + k)).toInt) x = (T (4 * i + k)).toInt * dt (rwz T u) x - (T (4 * u + k)).toInt * dt (rwz T i) x := by
        rw [← dt_lin]
        exact dt_c (fun c hc => (e2 c hc).1)
      rw [h1, hx, Int.mul_zero, Int.sub_zero]
      exact ⟨fun h => (Int.mul_eq_zero.mp h).resolve_left hzi, fun h => by rw [h, Int.mul_zero]⟩
    have hdv := frl_dv T u i (T (4 * i + k)) (T (4 * u + k)) (by omega) 4 (by omega)
    by_cases h1 : 1 < (frl T u i (T (4 * i + k)) (T (4 * u + k)) 4).2
    · have e : fre T u i = frd (frl T u i (T (4 * i + k)) (T (4 * u + k)) 4).1 u (frl T u i (T (4 * i + k)) (T (4 * u + k)) 4).2 4 := by
        unfold fre
        rw [hkk, if_neg h0, if_pos h1]
      rw [e]
      generalize (frl T u i (T (4 * i + k)) (T (4 * u + k)) 4).2 = g at h1 hdv ⊢
      have hg : 1 < g.toInt := by
        rw [Int64.lt_iff_toInt_lt] at h1
        exact h1
      have d1 : ∀ c, c < 4 → frd (frl T u i (T (4 * i + k)) (T (4 * u + k)) 4).1 u g 4 (4 * u + c) = (T (4 * u + c) * T (4 * i + k) - T (4 * i + c) * T (4 * u + k)) / g := fun c hc => by
        rw [frd_at _ u g 4 (by omega) c hc, if_pos hc, e1 c hc]
      have d2 : ∀ y : Int64, (y / g).toInt = y.toInt.tdiv g.toInt := fun y => Int64.toInt_div_of_ne_right y g (by
        intro h9
        rw [h9] at hg
        exact absurd hg (by decide))
      have d3 : ∀ c, c < 4 → g.toInt * ((T (4 * u + c) * T (4 * i + k) - T (4 * i + c) * T (4 * u + k)) / g).toInt = (T (4 * u + c) * T (4 * i + k) - T (4 * i + c) * T (4 * u + k)).toInt := fun c hc => by
        rw [d2]
        exact Int.mul_tdiv_cancel' (hdv c hc)
      refine ⟨fun c hc => ?_, ?_, fun c hc h2 h3 => ?_, fun x hx => ?_⟩
      · rw [d1 c hc, d2]
        have h4 := (e2 c hc).2
        rw [Int.natAbs_tdiv]
        exact Nat.le_trans (Nat.div_le_self _ _) h4
      · rw [d1 k hk, e3]
        exact Int64.toInt_inj.mp (by rw [d2]; exact Int.zero_tdiv _)
      · rw [d1 c hc, e4 c h2 h3]
        exact Int64.toInt_inj.mp (by rw [d2]; exact Int.zero_tdiv _)
      · rw [← e5 x hx]
        have h4 : dt (fun c => (T (4 * u + c) * T (4 * i + k) - T (4 * i + c) * T (4 * u + k)).toInt) x = g.toInt * dt (rwz (frd (frl T u i (T (4 * i + k)) (T (4 * u + k)) 4).1 u g 4) u) x := by
          rw [← dt_mul]
          refine dt_c (fun c hc => ?_)
          show _ = g.toInt * (frd (frl T u i (T (4 * i + k)) (T (4 * u + k)) 4).1 u g 4 (4 * u + c)).toInt
          rw [d1 c hc, d3 c hc]
        rw [h4]
        exact ⟨fun h => by rw [h, Int.mul_zero], fun h => (Int.mul_eq_zero.mp h).resolve_left (by omega)⟩
    · have e : fre T u i = (frl T u i (T (4 * i + k)) (T (4 * u + k)) 4).1 := by
        unfold fre
        rw [hkk, if_neg h0, if_neg h1]
      rw [e]
      refine ⟨fun c hc => by rw [e1 c hc]; exact (e2 c hc).2, by rw [e1 k hk, e3], fun c hc h2 h3 => by rw [e1 c hc, e4 c h2 h3], fun x hx => ?_⟩
      rw [← e5 x hx]
      have h4 : dt (rwz (frl T u i (T (4 * i + k)) (T (4 * u + k)) 4).1 u) x = dt (fun c => (T (4 * u + c) * T (4 * i + k) - T (4 * i + c) * T (4 * u + k)).toInt) x := dt_c (fun c hc => by
        show ((frl T u i (T (4 * i + k)) (T (4 * u + k)) 4).1 (4 * u + c)).toInt = _
        rw [e1 c hc])
      rw [h4]
/-- the last step of a fifth row: it is 0 -/
theorem fre_z {T : Nat → Int64} {u i : Nat} (hiu : i < u) (hk : fs4 T i < 4) (h : ∀ c, c < 4 → c ≠ fs4 T i → T (4 * u + c) = 0 ∧ T (4 * i + c) = 0) : ∀ c, c < 4 → fre T u i (4 * u + c) = 0 := by
  intro c hc
  generalize hkk : fs4 T i = k at hk h
  have e1 : ∀ c, c < 4 → (frl T u i (T (4 * i + k)) (T (4 * u + k)) 4).1 (4 * u + c) = 0 := fun c hc => by
    rw [frl_at T u i _ _ (by omega) 4 (by omega) c hc, if_pos hc]
    by_cases h1 : c = k
    · rw [h1, Int64.mul_comm, Int64.sub_self]
    · rw [(h c hc h1).1, (h c hc h1).2, Int64.zero_mul, Int64.zero_mul, Int64.sub_self]
  unfold fre
  rw [hkk]
  by_cases h0 : T (4 * u + k) = 0
  · rw [if_pos h0]
    by_cases h1 : c = k
    · rw [h1]; exact h0
    · exact (h c hc h1).1
  · rw [if_neg h0]
    split
    · rw [frd_at _ u _ 4 (by omega) c hc, if_pos hc, e1 c hc, Int64.zero_div]
    · exact e1 c hc
