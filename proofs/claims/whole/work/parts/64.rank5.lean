/-! one rank for both -/
def RK (N : Nat → Int32) (s n : Nat) : Nat := (rnk N s (fun _ => 0) n).1
theorem rnk_any {N : Nat → Int32} (hN : ∀ k, k < 40 → (N k).toInt.natAbs ≤ 99) (s : Nat) (R : Nat → Int64) {n : Nat} (hn : n ≤ 10) : (rnk N s R n).1 = RK N s n :=
  rk_uniq (rnk_rk hN s R hn) (rnk_rk hN s (fun _ => 0) hn) (fun _ => Iff.rfl)
theorem hb_ge {s n t : Nat} (hs : s < 2 ^ n) (ht : n ≤ t) : hb s t = false := Nat.testBit_lt_two_pow (Nat.lt_of_lt_of_le hs (Nat.pow_le_pow_right (by decide) ht))
theorem nul_10 {v : Nat → Nat → Int} {s n : Nat} (hn : n ≤ 10) (hs : s < 2 ^ n) (x : Nat → Int) : nul v s 10 x ↔ nul v s n x := by
  refine ⟨fun h t ht => h t (by omega), fun h t ht hh => ?_⟩
  rcases Nat.lt_or_ge t n with h9 | h9
  · exact h t h9 hh
  · rw [hb_ge hs h9] at hh; cases hh
theorem rkf_RK {N : Nat → Int32} (hN : ∀ k, k < 40 → (N k).toInt.natAbs ≤ 99) {s n : Nat} (R : Nat → Int64) (hn : n ≤ 10) (hs : s < 2 ^ n) (hc : cnt s 10 ≤ 4) : (rkf N s R).1 = RK N s n :=
  rk_uniq (rkf_rk hN s R hc) (rnk_rk hN s (fun _ => 0) hn) (fun x => nul_10 hn hs x)
theorem RK_le {N : Nat → Int32} (hN : ∀ k, k < 40 → (N k).toInt.natAbs ≤ 99) (s : Nat) {n : Nat} (hn : n ≤ 10) : RK N s n ≤ 4 := rk_le (rnk_rk hN s _ hn)
theorem RK_0 {N : Nat → Int32} {n : Nat} : RK N 0 n = 0 := by
  unfold RK
  induction n with
  | zero => rfl
  | succ n ih => rw [rnk_s, if_neg (by unfold hb; simp)]; exact ih
theorem RK_z {N : Nat → Int32} (hz : ∀ k, k < 40 → N k = 0) (s : Nat) {n : Nat} (hn : n ≤ 10) : RK N s n = 0 := by
  have h : rkOf (vN N) s n 0 := ⟨fun _ _ => 0, fun _ => 0, ⟨fun i hi => absurd hi (Nat.not_lt_zero _), fun i j hi => absurd hi (Nat.not_lt_zero _)⟩, fun x => ⟨fun _ t ht _ => dt_0 (fun c hc => by show (N (4 * t + c)).toInt = 0; rw [hz _ (by omega)]; rfl), fun _ i hi => absurd hi (Nat.not_lt_zero _)⟩⟩
  exact rk_uniq (rnk_rk (fun k hk => by rw [hz k hk]; decide) s _ hn) h (fun _ => Iff.rfl)
theorem hb_x {s t u : Nat} : hb (s ^^^ 2 ^ t) u = (hb s u ^^ decide (t = u)) := by
  unfold hb
  rw [Nat.testBit_xor, Nat.testBit_two_pow]
theorem nul_x {v : Nat → Nat → Int} {s n t : Nat} (ht : t < n) (hh : hb s t = true) (x : Nat → Int) : nul v s n x ↔ nul v (s ^^^ 2 ^ t) n x ∧ dt (v t) x = 0 := by
  refine ⟨fun h => ⟨fun u hu hx => h u hu ?_, h t ht hh⟩, fun h u hu hx => ?_⟩
  · rw [hb_x] at hx
    by_cases h9 : t = u
    · subst h9; exact hh
    · simpa [h9] using hx
  · by_cases h9 : t = u
    · subst h9; exact h.2
    · exact h.1 u hu (by rw [hb_x]; simpa [h9] using hx)
theorem RK_x {N : Nat → Int32} (hN : ∀ k, k < 40 → (N k).toInt.natAbs ≤ 99) {s n t : Nat} (hn : n ≤ 10) (ht : t < n) (hh : hb s t = true) : RK N (s ^^^ 2 ^ t) n ≤ RK N s n :=
  rk_mono (rnk_rk hN s _ hn) (rnk_rk hN (s ^^^ 2 ^ t) _ hn) (fun x h => ((nul_x ht hh x).mp h).1)
theorem rnk_keep (N : Nat → Int32) (s : Nat) (R : Nat → Int64) (t : Nat) : ∀ k, k < 4 * (rnk N s R t).1 → (rnk N s R (t + 1)).2 k = (rnk N s R t).2 k := by
  intro k hk
  rw [rnk_s]
  by_cases hh : hb s t = true
  · rw [if_pos hh]
    show tki _ _ _ k = _
    unfold tki
    rw [frs_sam _ _ _ k (by omega), cpw_sam _ _ _ 4 (by omega) k (by omega)]
  · rw [if_neg hh]
theorem rnk_dep {N : Nat → Int32} (hN : ∀ k, k < 40 → (N k).toInt.natAbs ≤ 99) (s : Nat) : ∀ t, t ≤ 10 → (rnk N s (fun _ => 0) t).1 < cnt s t → ∃ t0, t0 < t ∧ hb s t0 = true ∧ ∀ x, (∀ u, u < t → u ≠ t0 → hb s u = true → dt (vN N u) x = 0) → dt (vN N t0) x = 0 := by
  intro t
  induction t with
  | zero => intro _ h; exact absurd h (Nat.not_lt_zero _)
  | succ t ih =>
    intro ht hlt
    have hk := rnk_keep N s (fun _ => 0) t
    have hi0 := rnk_inv hN s (fun _ => 0) t (by omega)
    have hi1 := rnk_inv hN s (fun _ => 0) (t + 1) ht
    have hs := rnk_s N s (fun _ => 0) t
    have hmore : (rnk N s (fun _ => 0) t).1 < cnt s t → ∃ t0, t0 < t + 1 ∧ hb s t0 = true ∧ ∀ x, (∀ u, u < t + 1 → u ≠ t0 → hb s u = true → dt (vN N u) x = 0) → dt (vN N t0) x = 0 := fun h => by
      obtain ⟨t0, h1, h2, h3⟩ := ih (by omega) h
      exact ⟨t0, by omega, h2, fun x hx => h3 x (fun u hu => hx u (by omega))⟩
    cases hh : hb s t with
    | true =>
      rw [cnt_s, hh] at hlt
      simp only [Bool.toNat_true] at hlt
      rw [if_pos hh] at hs
      have hfst := congrArg Prod.fst hs
      simp only [] at hfst
      by_cases hn : fs4 (tki (rnk N s (fun _ => 0) t).2 (rnk N s (fun _ => 0) t).1 (fun j => N (4 * t + j))) (rnk N s (fun _ => 0) t).1 < 4
      · rw [if_pos hn] at hfst
        exact hmore (by omega)
      · rw [if_neg hn] at hfst
        refine ⟨t, by omega, hh, fun x hx => ?_⟩
        have a1 : nul (vN N) s t x := fun u hu hhu => hx u (by omega) (by omega) hhu
        have a2 := (hi0.2.2.2.2 x).mpr a1
        have a3 := (hi1.2.2.2.2 x).mp (fun i hi => by
          rw [hfst] at hi
          rw [← a2 i hi]
          exact dt_c (fun c hc => by show ((rnk N s (fun _ => 0) (t + 1)).2 (4 * i + c)).toInt = _; rw [hk _ (by omega)]; rfl))
        exact a3 t (by omega) hh
    | false =>
      rw [cnt_s, hh] at hlt
      rw [if_neg (by rw [hh]; decide)] at hs
      rw [hs] at hlt
      exact hmore hlt
theorem RK_dep {N : Nat → Int32} (hN : ∀ k, k < 40 → (N k).toInt.natAbs ≤ 99) {s n : Nat} (hn : n ≤ 10) (hc : 4 < cnt s n) : ∃ t, t < n ∧ hb s t = true ∧ RK N (s ^^^ 2 ^ t) n = RK N s n := by
  obtain ⟨t, h1, h2, h3⟩ := rnk_dep hN s n hn (Nat.lt_of_le_of_lt (RK_le hN s hn) hc)
  refine ⟨t, h1, h2, rk_uniq (rnk_rk hN (s ^^^ 2 ^ t) _ hn) (rnk_rk hN s _ hn) (fun x => ?_)⟩
  rw [nul_x h1 h2 x]
  refine ⟨fun h => ⟨h, h3 x (fun u hu hne hhu => h u hu ?_)⟩, fun h => h.1⟩
  rw [hb_x]
  simp [hhu, Ne.symm hne]
theorem cnt_10 {s n : Nat} (hn : n ≤ 10) (hs : s < 2 ^ n) : cnt s 10 = cnt s n := by
  have : ∀ k, n + k ≤ 10 → cnt s (n + k) = cnt s n := by
    intro k
    induction k with
    | zero => intro _; rfl
    | succ k ih =>
      intro hk
      rw [show n + (k + 1) = n + k + 1 by omega, cnt_s, hb_ge hs (by omega), ih (by omega)]
      rfl
  have h := this (10 - n) (by omega)
  rw [show n + (10 - n) = 10 by omega] at h
  exact h
theorem rmx_RK {N : Nat → Int32} (hN : ∀ k, k < 40 → (N k).toInt.natAbs ≤ 99) {s n : Nat} {V : Nat → Int64} (hn : n ≤ 10) (hs : s < 2 ^ n) (hc : ¬ cnt s 10 ≤ 4) (hV : ∀ t, t < n → hb s t = true → V (s ^^^ 2 ^ t) = lN (RK N (s ^^^ 2 ^ t) n)) : rmx V s n = lN (RK N s n) := by
  obtain ⟨t0, a1, a2, a3⟩ := RK_dep hN hn (s := s) (by rw [cnt_10 hn hs] at hc; omega)
  have hr := RK_le hN s hn
  have key : ∀ t, t ≤ n → (rmx V s t).toInt ≤ (RK N s n : Int) ∧ (t0 < t → (rmx V s t).toInt = (RK N s n : Int)) := by
    intro t
    induction t with
    | zero => intro _; exact ⟨by show (0 : Int) ≤ _; omega, fun h => absurd h (Nat.not_lt_zero _)⟩
    | succ t ih =>
      intro ht
      obtain ⟨b1, b2⟩ := ih (by omega)
      have e : rmx V s (t + 1) = if hb s t = true then (if V (s ^^^ 2 ^ t) < rmx V s t then rmx V s t else V (s ^^^ 2 ^ t)) else rmx V s t := rfl
      rw [e]
      by_cases hh : hb s t = true
      · rw [if_pos hh]
        have c1 := hV t (by omega) hh
        have c2 := RK_x hN hn (show t < n by omega) hh
        have c3 : (V (s ^^^ 2 ^ t)).toInt = (RK N (s ^^^ 2 ^ t) n : Int) := by rw [c1, lN_toInt (by omega)]
        by_cases h9 : V (s ^^^ 2 ^ t) < rmx V s t
        · rw [if_pos h9]
          rw [Int64.lt_iff_toInt_lt] at h9
          refine ⟨b1, fun h => ?_⟩
          rcases Nat.lt_or_ge t0 t with h8 | h8
          · exact b2 h8
          · have : t0 = t := by omega
            subst this
            omega
        · rw [if_neg h9]
          rw [Int64.lt_iff_toInt_lt] at h9
          refine ⟨by omega, fun h => ?_⟩
          rcases Nat.lt_or_ge t0 t with h8 | h8
          · have := b2 h8
            omega
          · have : t0 = t := by omega
            subst this
            omega
      · rw [if_neg hh]
        refine ⟨b1, fun h => ?_⟩
        rcases Nat.lt_or_ge t0 t with h8 | h8
        · exact b2 h8
        · have : t0 = t := by omega
          subst this
          exact absurd a2 hh
  apply Int64.toInt_inj.mp
  rw [(key n (Nat.le_refl _)).2 a1, lN_toInt (by omega)]
theorem xor_lt {s t : Nat} (hh : hb s t = true) : s ^^^ 2 ^ t < s := by
  refine Nat.lt_of_le_of_ne (Nat.le_of_testBit (fun i hi => ?_)) (fun h9 => ?_)
  · have h1 : hb (s ^^^ 2 ^ t) i = true := hi
    rw [hb_x] at h1
    show hb s i = true
    by_cases h2 : t = i
    · subst h2; exact hh
    · simpa [h2] using h1
  · have h1 : hb (s ^^^ 2 ^ t) t = hb s t := by rw [h9]
    rw [hb_x, hh] at h1
    simp at h1
theorem ran_RK {N : Nat → Int32} (hN : ∀ k, k < 40 → (N k).toInt.natAbs ≤ 99) {n ch : Nat} {V R : Nat → Int64} (hn : n ≤ 10) (hV : ∀ s, s < 2 ^ n → hb s ch = false → V s = lN (RK N s n)) : ∀ i, i ≤ 2 ^ n → (∀ s, s < i → (ran N n ch V R i).1 s = lN (RK N s n)) ∧ ∀ s, i ≤ s → (ran N n ch V R i).1 s = V s := by
  intro i
  induction i with
  | zero => intro _; exact ⟨fun s hs => absurd hs (Nat.not_lt_zero _), fun s _ => rfl⟩
  | succ i ih =>
    intro hi
    obtain ⟨h1, h2⟩ := ih (by omega)
    rw [ran_s]
    by_cases hh : hb i ch = true
    · rw [if_pos hh]
      refine ⟨fun s hs => ?_, fun s hs => ?_⟩
      · show vp_updL _ _ _ _ = _
        by_cases h9 : s = i
        · subst h9
          rw [vpu_at]
          unfold rko
          by_cases hc : cnt s 10 ≤ 4
          · rw [if_pos hc, rkf_RK hN _ hn (by omega) hc]
          · rw [if_neg hc]
            exact rmx_RK hN hn (by omega) hc (fun t _ hht => h1 _ (xor_lt hht))
        · rw [vpu_ne h9]
          exact h1 s (by omega)
      · show vp_updL _ _ _ _ = _
        rw [vpu_ne (by omega)]
        exact h2 s (by omega)
    · rw [if_neg hh]
      refine ⟨fun s hs => ?_, fun s hs => h2 s (by omega)⟩
      rcases Nat.lt_or_ge s i with h9 | h9
      · exact h1 s h9
      · have : s = i := by omega
        subst this
        rw [h2 s (Nat.le_refl _)]
        exact hV s (by omega) (by cases h8 : hb s ch with
          | false => rfl
          | true => exact absurd h8 hh)
theorem RK_cg {N N' : Nat → Int32} (hN : ∀ k, k < 40 → (N k).toInt.natAbs ≤ 99) (hN' : ∀ k, k < 40 → (N' k).toInt.natAbs ≤ 99) {s n : Nat} (hn : n ≤ 10) (h : ∀ t, t < n → hb s t = true → ∀ c, c < 4 → N (4 * t + c) = N' (4 * t + c)) : RK N s n = RK N' s n :=
  rk_uniq (rnk_rk hN s _ hn) (rnk_rk hN' s _ hn) (fun x => by
    have e : ∀ t, t < n → hb s t = true → dt (vN N t) x = dt (vN N' t) x := fun t ht hh => dt_c (fun c hc => by show (N _).toInt = (N' _).toInt; rw [h t ht hh c hc])
    exact ⟨fun g t ht hh => by rw [← e t ht hh]; exact g t ht hh, fun g t ht hh => by rw [e t ht hh]; exact g t ht hh⟩)
