/-! the calls that only read -/
theorem ix_nk {k n : Nat} (h : n < 2 ^ 31) (hk : k < n) : ix (nI k) n = true := ix_of hk h
theorem rl_w_b {X : nX} {Y : nY} {n w : Nat} (h : rl_w X Y n w) : X (2 + 7 * w) 7 = nI (2 ^ n) ∧ X (2 + 7 * w) 6 = nI n := by
  obtain ⟨kd, P, hd, ⟨b1, b2, b3, b4, b5, b6, b7, -⟩, -⟩ := h
  exact ⟨b6, b7⟩
theorem rl_w_v {X : nX} {Y : nY} {n w : Nat} (h : rl_w X Y n w) : rl_v Y n w := by
  obtain ⟨kd, P, hd, -, h, -⟩ := h
  exact h
section RD
variable {c : cx} {X : nX} {Y : nY}
theorem st_code (h : Rel X Y) : stI c mX7_code mX8_code [] X Y := by
  obtain ⟨n, m, b, r, ⟨hn, hm, a6, a7, b6, b7, hcd⟩, ho, hs, hw⟩ := id h
  exact mkI c_code r_code hcd h
theorem st_kind (h : Rel X Y) (w : Int32) : stI c mX7_kind mX8_kind [.int w] X Y := by
  obtain ⟨n, m, b, r, ⟨hn, hm, a6, a7, b6, b7, hcd⟩, ho, hs, hw⟩ := id h
  cases hi : ix w m with
  | false => exact mkI (c_kind_u hm a7 hi) (r_kind_u hm b7 hi) rfl h
  | true =>
    obtain ⟨j, hj, rfl⟩ := ix_t hi (by omega)
    obtain ⟨kd, P, hd, ⟨q1, q2, -⟩, -⟩ := hw j hj
    exact mkI (c_kind_k hm a7 hj) (r_kind_k hm b7 hj) (q1.trans q2.symm) h
theorem st_value (h : Rel X Y) (w s : Int32) : stL c mX7_value mX8_value [.int w, .int s] X Y := by
  obtain ⟨n, m, b, r, ⟨hn, hm, a6, a7, b6, b7, hcd⟩, ho, hs, hw⟩ := id h
  have h2n := p2_le hn
  cases hi : ix w m with
  | false => exact mkL (c_value_u hn a6 hm a7 (Or.inl hi)) (r_value_u hn b6 hm b7 (Or.inl hi)) rfl h
  | true =>
    cases hi2 : ix s (2 ^ n) with
    | false => exact mkL (c_value_u hn a6 hm a7 (Or.inr hi2)) (r_value_u hn b6 hm b7 (Or.inr hi2)) rfl h
    | true =>
      obtain ⟨j, hj, rfl⟩ := ix_t hi (by omega)
      obtain ⟨q, hq, rfl⟩ := ix_t hi2 (by omega)
      exact mkL (c_value_k hn a6 hm a7 hj hq) (r_value_k hn b6 hm b7 hj hq) ((rl_w_v (hw j hj)).1 q hq) h
theorem st_adds (h : Rel X Y) (w s t : Int32) : stL c mX7_adds mX8_adds [.int w, .int s, .int t] X Y := by
  obtain ⟨n, m, b, r, ⟨hn, hm, a6, a7, b6, b7, hcd⟩, ho, hs, hw⟩ := id h
  have h2n := p2_le hn
  cases hi : ix w m with
  | false => exact mkL (c_adds_u hn a6 hm a7 (Or.inl hi)) (r_adds_u hn b6 hm b7 (Or.inl hi)) rfl h
  | true =>
    cases hi2 : ix s (2 ^ n) with
    | false => exact mkL (c_adds_u hn a6 hm a7 (Or.inr (Or.inl hi2))) (r_adds_u hn b6 hm b7 (Or.inr (Or.inl hi2))) rfl h
    | true =>
      cases hi3 : ix t n with
      | false => exact mkL (c_adds_u hn a6 hm a7 (Or.inr (Or.inr hi3))) (r_adds_u hn b6 hm b7 (Or.inr (Or.inr hi3))) rfl h
      | true =>
        obtain ⟨j, hj, rfl⟩ := ix_t hi (by omega)
        obtain ⟨q, hq, rfl⟩ := ix_t hi2 (by omega)
        obtain ⟨u, hu, rfl⟩ := ix_t hi3 (by omega)
        have hv := (rl_w_v (hw j hj)).1
        exact mkL (c_adds_k hn a6 hm a7 hj hq hu) (r_adds_k hn b6 hm b7 hj hq hu) (by rw [hv q hq, hv _ (xb_or hq hu)]) h
theorem st_least (h : Rel X Y) (w : Int32) : stL c mX7_least mX8_least [.int w] X Y := by
  obtain ⟨n, m, b, r, ⟨hn, hm, a6, a7, b6, b7, hcd⟩, ho, hs, hw⟩ := id h
  cases hi : ix w m with
  | false => exact mkL (c_least_u hm a7 hi) (r_least_u hm b7 hi) rfl h
  | true =>
    obtain ⟨j, hj, rfl⟩ := ix_t hi (by omega)
    exact mkL (c_least_k hn a6 hm a7 hj (rl_w_b (hw j hj)).1) (r_least_k hn b6 hm b7 hj) (lmn_cg (rl_w_v (hw j hj)).1) h
theorem st_one (h : Rel X Y) (w i : Int32) : stI c mX7_one mX8_one [.int w, .int i] X Y := by
  obtain ⟨n, m, b, r, ⟨hn, hm, a6, a7, b6, b7, hcd⟩, ho, hs, hw⟩ := id h
  cases hi : ix w m with
  | false => exact mkI (c_one_u hm a7 hi) (r_one_u hm b7 hi) rfl h
  | true =>
    obtain ⟨j, hj, rfl⟩ := ix_t hi (by omega)
    exact mkI (c_one_k hn a6 hm a7 hj (rl_w_b (hw j hj)).1) (r_one_k hn b6 hm b7 hj) (by rw [ff_congr (p_one_cg (rl_w_v (hw j hj)).1)]) h
theorem st_in (h : Rel X Y) (w : Int32) : stI c mX7_in mX8_in [.int w] X Y := by
  obtain ⟨n, m, b, r, ⟨hn, hm, a6, a7, b6, b7, hcd⟩, ho, hs, hw⟩ := id h
  obtain ⟨o1, o2, o3, o4, o5, o6, o7⟩ := ho
  cases hi : ix w m with
  | false => exact mkI (c_in_u hm a7 hi) (r_in_u hm b7 hi) rfl h
  | true =>
    obtain ⟨j, hj, rfl⟩ := ix_t hi (by omega)
    exact mkI (c_in_k hn a6 hm a7 hj (rl_w_b (hw j hj)).1 o1) (r_in_k hn b6 hm b7 hj) (by rw [o2, o3, nI_l (by omega)]; exact fIn_cg p2_1 (rl_w_v (hw j hj)).1 (fun t ht => (o7 t ht).1)) h
theorem st_proves (h : Rel X Y) (w : Int32) : stI c mX7_proves mX8_proves [.int w] X Y := by
  obtain ⟨n, m, b, r, ⟨hn, hm, a6, a7, b6, b7, hcd⟩, ho, hs, hw⟩ := id h
  obtain ⟨o1, o2, o3, o4, o5, o6, o7⟩ := ho
  cases hi : ix w m with
  | false => exact mkI (c_proves_u hm a7 hi) (r_proves_u hm b7 hi) rfl h
  | true =>
    obtain ⟨j, hj, rfl⟩ := ix_t hi (by omega)
    refine mkI (c_proves_k hn a6 hm a7 hj (rl_w_b (hw j hj)).1 o1) (r_proves_k hn b6 hm b7 hj) ?_ h
    rw [fIn_neg p2_1 (p2_le hn), o2, o3, nI_l (by omega), fIn_cg p2_1 (rl_w_v (hw j hj)).1 (fun t ht => (o7 t ht).1), lbl_cg (fun t ht => (o7 t ht).1), lmn_cg (rl_w_v (hw j hj)).1]
theorem st_shareOf (h : Rel X Y) (t : Int32) : stL c mX7_shareOf mX8_shareOf [.int t] X Y := by
  obtain ⟨n, m, b, r, ⟨hn, hm, a6, a7, b6, b7, hcd⟩, ho, hs, hw⟩ := id h
  obtain ⟨o1, o2, o3, o4, o5, o6, o7⟩ := ho
  by_cases h1 : t = -1
  · subst h1
    exact mkL c_shareOf_b r_shareOf_b (by rw [o2, o3, nI_l (by omega)]) h
  · cases hi : ix t n with
    | false => exact mkL (c_shareOf_u hn a6 h1 hi) (r_shareOf_u hn b6 h1 hi) rfl h
    | true =>
      obtain ⟨j, hj, rfl⟩ := ix_t hi (by omega)
      exact mkL (c_shareOf_k hn a6 hj) (r_shareOf_k hn b6 hj) (o7 j hj).1 h
theorem st_best (h : Rel X Y) (w k : Int32) : stL c mX7_best mX8_best [.int w, .int k] X Y := by
  obtain ⟨n, m, b, r, ⟨hn, hm, a6, a7, b6, b7, hcd⟩, ho, hs, hw⟩ := id h
  cases hi : ix w m with
  | false => exact mkL (c_best_u hm a7 hi) (r_best_u hm b7 hi) rfl h
  | true =>
    obtain ⟨j, hj, rfl⟩ := ix_t hi (by omega)
    cases hk : ix k 11 with
    | false => exact mkL (c_best_o hm a7 hj hk) (r_best_o hm b7 hj hk) rfl h
    | true =>
      obtain ⟨q, hq, rfl⟩ := ix_t hk (by omega)
      exact mkL (c_best_k hn a6 hm a7 hj (rl_w_b (hw j hj)).1 (by omega)) (r_best_k hn b6 hm b7 hj (by omega)) (lmx_cg (rl_w_v (hw j hj)).1) h
theorem st_greed (h : Rel X Y) (w k : Int32) : stI c mX7_greed mX8_greed [.int w, .int k] X Y := by
  obtain ⟨n, m, b, r, ⟨hn, hm, a6, a7, b6, b7, hcd⟩, ho, hs, hw⟩ := id h
  cases hi : ix w m with
  | false => exact mkI (c_greed_u hm a7 hi) (r_greed_u hm b7 hi) rfl h
  | true =>
    obtain ⟨j, hj, rfl⟩ := ix_t hi (by omega)
    cases hk : ix k 11 with
    | false => exact mkI (c_greed_o hm a7 hj hk) (r_greed_o hm b7 hj hk) rfl h
    | true =>
      obtain ⟨q, hq, rfl⟩ := ix_t hk (by omega)
      exact mkI (c_greed_k hn a6 hm a7 hj (rl_w_b (hw j hj)).2 (by omega)) (r_greed_k hn b6 hm b7 hj (by omega) (fun i _ hi => cnt_gset hn i hi)) (by rw [gset_cg hn (rl_w_v (hw j hj)).1]) h
theorem st_falls (h : Rel X Y) (w : Int32) : stI c mX7_falls mX8_falls [.int w] X Y := by
  obtain ⟨n, m, b, r, ⟨hn, hm, a6, a7, b6, b7, hcd⟩, ho, hs, hw⟩ := id h
  cases hi : ix w m with
  | false => exact mkI (c_falls_u hm a7 hi) (r_falls_u hm b7 hi) rfl h
  | true =>
    obtain ⟨j, hj, rfl⟩ := ix_t hi (by omega)
    obtain ⟨hv, hB, -⟩ := rl_w_v (hw j hj)
    have hS := scr_brk (X := X) (Y := Y) (V := Y (3 + 7 * j)) (n := n) (S := 2 ^ n)
    have e6 : x_brk X (Y (3 + 7 * j)) n (2 ^ n) 105 0 = nI n := by rw [x_brk_ne (by omega)]; exact b6
    have e7 : x_brk X (Y (3 + 7 * j)) n (2 ^ n) 105 1 = nI m := by rw [x_brk_ne (by omega)]; exact b7
    cases hf : ffind (p_brk (Y (3 + 7 * j)) n) (2 ^ n) with
    | none =>
      exact mkI (c_falls_k hn a6 hm a7 hj (rl_w_b (hw j hj)).1 (rl_w_b (hw j hj)).2) (r_falls_t hn e6 hm e7 hj (by rw [wrg_none hv hB hf]; decide)) (by rw [hf]; rfl) (Rel_scr hS h)
    | some s =>
      obtain ⟨u, v, g1, g2, g3, g4, g5⟩ := wrg_some hn hv hB hf
      have h2n := p2_le hn
      exact mkI (c_falls_k hn a6 hm a7 hj (rl_w_b (hw j hj)).1 (rl_w_b (hw j hj)).2) (r_falls_f hn e6 hm e7 hj (by rw [g4]; exact nI_pos' (by omega))) (by rw [hf]; rfl) (Rel_scr hS h)
theorem st_why (h : Rel X Y) (w i : Int32) : stI c mX7_why mX8_why [.int w, .int i] X Y := by
  obtain ⟨n, m, b, r, ⟨hn, hm, a6, a7, b6, b7, hcd⟩, ho, hs, hw⟩ := id h
  cases hi : ix w m with
  | false => exact mkI (c_why_u hm a7 hi) (r_why_u hm b7 hi) rfl h
  | true =>
    obtain ⟨j, hj, rfl⟩ := ix_t hi (by omega)
    cases hk : ix i 3 with
    | false => exact mkI (c_why_o hm a7 hj hk) (r_why_o hm b7 hj hk) rfl h
    | true =>
      obtain ⟨k, hk3, rfl⟩ := ix_t hk (by omega)
      obtain ⟨hv, hB, -⟩ := rl_w_v (hw j hj)
      obtain ⟨hse, hth⟩ := rl_w_b (hw j hj)
      have hS := scr_brk (X := X) (Y := Y) (V := Y (3 + 7 * j)) (n := n) (S := 2 ^ n)
      have e6 : x_brk X (Y (3 + 7 * j)) n (2 ^ n) 105 0 = nI n := by rw [x_brk_ne (by omega)]; exact b6
      have e7 : x_brk X (Y (3 + 7 * j)) n (2 ^ n) 105 1 = nI m := by rw [x_brk_ne (by omega)]; exact b7
      cases hf : ffind (p_brk (Y (3 + 7 * j)) n) (2 ^ n) with
      | none =>
        exact mkI (c_why_n hn a6 hm a7 hj hse hth hk3 (by rw [hf]; rfl)) (r_why_n hn e6 hm e7 hj hk3 (by rw [wrg_none hv hB hf]; decide)) rfl (Rel_scr hS h)
      | some s =>
        obtain ⟨u, v, g1, g2, g3, g4, g5⟩ := wrg_some hn hv hB hf
        have h2n := p2_le hn
        have hsm : (ffind (p_brk (Y (3 + 7 * j)) n) (2 ^ n)).isSome = true := by rw [hf]; rfl
        have hq : k = 0 ∨ k = 1 ∨ k = 2 := by omega
        rcases hq with h9 | h9 | h9 <;> subst h9
        · exact mkI (c_why_0 hn a6 hm a7 hj hse hth hsm) (r_why_0 hn e6 hm e7 hj (by omega) g4) (by rw [(g5 X).1]; congr 1; omega) (Rel_scr hS h)
        · exact mkI (c_why_1 hn a6 hm a7 hj hse hth hsm) (r_why_1 hn e6 hm e7 hj (by omega) g4) (by rw [(g5 X).2.1]; congr 1; omega) (Rel_scr hS h)
        · exact mkI (c_why_2 hn a6 hm a7 hj hse hth hsm) (r_why_2 hn e6 hm e7 hj (by omega) g4) (by rw [(g5 X).2.2]; congr 1; omega) (Rel_scr hS h)
theorem lmn_le {V : Nat → Int64} : ∀ {S s : Nat}, s < S → (lmn V S).toInt ≤ (V s).toInt := by
  intro S
  induction S with
  | zero => intro s hs; omega
  | succ S ih =>
    intro s hs
    have e : lmn V (S + 1) = if V S < lmn V S then V S else lmn V S := rfl
    rw [e]
    by_cases h1 : V S < lmn V S
    · rw [if_pos h1]
      rw [Int64.lt_iff_toInt_lt] at h1
      rcases Nat.lt_or_ge s S with h2 | h2
      · have := ih h2
        omega
      · rw [show s = S by omega]; exact Int.le_refl _
    · rw [if_neg h1]
      rw [Int64.lt_iff_toInt_lt] at h1
      rcases Nat.lt_or_ge s S with h2 | h2
      · exact ih h2
      · rw [show s = S by omega]; omega
theorem lmn_at {V : Nat → Int64} : ∀ {S : Nat}, lmn V S = 0 ∨ ∃ s, s < S ∧ V s = lmn V S := by
  intro S
  induction S with
  | zero => exact Or.inl rfl
  | succ S ih =>
    have e : lmn V (S + 1) = if V S < lmn V S then V S else lmn V S := rfl
    rw [e]
    by_cases h1 : V S < lmn V S
    · rw [if_pos h1]
      exact Or.inr ⟨S, by omega, rfl⟩
    · rw [if_neg h1]
      rcases ih with h2 | ⟨s, h2, h3⟩
      · exact Or.inl h2
      · exact Or.inr ⟨s, by omega, h3⟩
theorem low_ex {V : Nat → Int64} {S : Nat} (hS : 1 ≤ S) (h0 : V 0 = 0) : ∃ k, k < S ∧ p_low V S k = true := by
  unfold p_low
  rcases lmn_at (V := V) (S := S) with h1 | ⟨s, h1, h2⟩
  · exact ⟨0, by omega, decide_eq_true (by rw [h0, h1])⟩
  · exact ⟨s, h1, decide_eq_true h2⟩
theorem cls_iff {V : Nat → Int64} {n : Nat} : (!(lany (q_cls V (lmn V (2 ^ n))) (2 ^ n))) = true ↔ ∀ s, s < 2 ^ n → ∀ t, t < s → p_low V (2 ^ n) s = true → p_low V (2 ^ n) t = true → p_low V (2 ^ n) (s &&& t) = true ∧ p_low V (2 ^ n) (s ||| t) = true := by
  have e : ∀ (P : Nat → Bool) (k : Nat), (!(lany P k)) = true ↔ ∀ s, s < k → P s = false := fun P k => by
    rw [← ff_none]
    unfold lany
    cases ffind P k <;> simp
  rw [e]
  have e2 : ∀ s, q_cls V (lmn V (2 ^ n)) s = false ↔ ∀ t, t < s → q_cl V (lmn V (2 ^ n)) s t = false := fun s => by
    rw [← ff_none]
    unfold q_cls
    cases ffind (q_cl V (lmn V (2 ^ n)) s) s <;> simp
  refine forall_congr' (fun s => forall_congr' (fun hs => ?_))
  rw [e2]
  refine forall_congr' (fun t => forall_congr' (fun ht => ?_))
  unfold q_cl p_low
  by_cases h1 : V s = lmn V (2 ^ n) <;> by_cases h2 : V t = lmn V (2 ^ n) <;> by_cases h3 : V (s &&& t) = lmn V (2 ^ n) <;> by_cases h4 : V (s ||| t) = lmn V (2 ^ n) <;> simp [h1, h2, h3, h4]
theorem st_all (h : Rel X Y) (w i : Int32) : stI c mX7_all mX8_all [.int w, .int i] X Y := by
  obtain ⟨n, m, b, r, ⟨hn, hm, a6, a7, b6, b7, hcd⟩, ho, hs, hw⟩ := id h
  cases hi : ix w m with
  | false => exact mkI (c_all_u hm a7 hi) (r_all_u hm b7 hi) rfl h
  | true =>
    obtain ⟨j, hj, rfl⟩ := ix_t hi (by omega)
    cases hk : ix i 4 with
    | false => exact mkI (c_all_o hm a7 hj hk) (r_all_o hm b7 hj hk) rfl h
    | true =>
      obtain ⟨k, hk3, rfl⟩ := ix_t hk (by omega)
      obtain ⟨hv, hB, hv0⟩ := rl_w_v (hw j hj)
      obtain ⟨hse, hth⟩ := rl_w_b (hw j hj)
      have hS : ∀ h a b C, scr X (xls X h a b C) Y Y := fun h a b C => scr_xls
      have e6 : ∀ h a b C, xls X h a b C 105 0 = nI n := fun h a b C => by rw [xls_ne (by omega) (by omega)]; exact b6
      have e7 : ∀ h a b C, xls X h a b C 105 1 = nI m := fun h a b C => by rw [xls_ne (by omega) (by omega)]; exact b7
      have hp := p_low_cg hv
      have hq : k = 0 ∨ k = 1 ∨ k = 2 ∨ k = 3 := by omega
      rcases hq with h9 | h9 | h9 | h9 <;> subst h9
      · exact mkI (c_all_0 hn a6 hm a7 hj hse) (r_all_0 hn (e6 _ _ _ _) hm (e7 _ _ _ _) hj) (by rw [lcn_cg hp]) (Rel_scr (hS _ _ _ _) h)
      · exact mkI (c_all_1 hn a6 hm a7 hj hse) (r_all_1 hn (e6 _ _ _ _) hm (e7 _ _ _ _) hj) (by rw [lal_cg hp]) (Rel_scr (hS _ _ _ _) h)
      · exact mkI (c_all_2 hn a6 hm a7 hj hse) (r_all_2 hn (e6 _ _ _ _) hm (e7 _ _ _ _) hj) (by rw [lso_cg hp]) (Rel_scr (hS _ _ _ _) h)
      · refine mkI (c_all_3 hn a6 hm a7 hj hse) (r_all_3 hn (e6 _ _ _ _) hm (e7 _ _ _ _) hj) ?_ (Rel_scr (hS _ _ _ _) h)
        rw [lal_cg hp, lso_cg hp, ccm_cg hp, lcn_cg hp]
        congr 1
        apply Bool.eq_iff_iff.mpr
        rw [decide_eq_true_eq, closed_iff hn (low_ex p2_1 hv0), cls_iff]
theorem st_level (h : Rel X Y) (w i : Int32) : stL c mX7_level mX8_level [.int w, .int i] X Y := by
  obtain ⟨n, m, b, r, ⟨hn, hm, a6, a7, b6, b7, hcd⟩, ho, hs, hw⟩ := id h
  cases hi : ix w m with
  | false => exact mkL (c_level_u hm a7 hi) (r_level_u hm b7 hi) rfl h
  | true =>
    obtain ⟨j, hj, rfl⟩ := ix_t hi (by omega)
    cases hk : ix i (n + 1) with
    | false => exact mkL (c_level_o hn a6 hm a7 hj hk) (r_level_o hn b6 hm b7 hj hk) rfl h
    | true =>
      obtain ⟨k, hk3, rfl⟩ := ix_t hk (by omega)
      obtain ⟨hv, hB, hv0⟩ := rl_w_v (hw j hj)
      obtain ⟨hse, hth⟩ := rl_w_b (hw j hj)
      have hS := scr_low (X := X) (Y := Y) (v := nI n) (R := rlow (Y (3 + 7 * j)) (rl0 (Y 99) (Y (3 + 7 * j)) n) (2 ^ n))
      exact mkL (c_level_k hn a6 hm a7 hj hse hth (by omega)) (r_level_k hn (by rw [up2_ne _ (by omega)]; exact b6) hm (by rw [up2_ne _ (by omega)]; exact b7) hj (by omega)) (by rw [low_eq hn (by omega), scr_vr hS, lvo_cg hv]) (Rel_scr hS h)
theorem low_rlv {V V' R R' : Nat → Int64} {n : Nat} (hn : n ≤ 10) (hv : ∀ s, s < 2 ^ n → V s = V' s) : ∀ k, k ≤ n → rlow V (rl0 R V n) (2 ^ n) k = rlv R' V' n k := fun k hk => by
  unfold rlv
  rw [if_pos (by omega), low_eq hn hk, lvo_cg hv]
theorem st_bends (h : Rel X Y) (w : Int32) : stI c mX7_bends mX8_bends [.int w] X Y := by
  obtain ⟨n, m, b, r, ⟨hn, hm, a6, a7, b6, b7, hcd⟩, ho, hs, hw⟩ := id h
  cases hi : ix w m with
  | false => exact mkI (c_bends_u hm a7 hi) (r_bends_u hm b7 hi) rfl h
  | true =>
    obtain ⟨j, hj, rfl⟩ := ix_t hi (by omega)
    obtain ⟨hv, hB, hv0⟩ := rl_w_v (hw j hj)
    obtain ⟨hse, hth⟩ := rl_w_b (hw j hj)
    have h1 := c_bends_k (c := c) (d := 6) (X := X) (Y := Y) hn a6 hm a7 hj hse hth
    generalize hR : rlow (Y (3 + 7 * j)) (rl0 (Y 99) (Y (3 + 7 * j)) n) (2 ^ n) = R at h1
    have hS : scr X (xtn (up2 X 98 2 (nI n)) (tno R n) (bcn R n)) Y (srw Y 99 R) := scr_t scr_low scr_xtn
    have hR2 := low_rlv (R := Y 99) (R' := srw Y 99 R 124) hn hv
    rw [hR, ← scr_vr hS j] at hR2
    have h2 := r_bends_k (c := c) (d := 6) (X := xtn (up2 X 98 2 (nI n)) (tno R n) (bcn R n)) (Y := srw Y 99 R) hn (by rw [hS.1 105 (by omega) (by omega) (by omega) (by omega) (by omega) (by omega)]; exact b6) hm (by rw [hS.1 105 (by omega) (by omega) (by omega) (by omega) (by omega) (by omega)]; exact b7) hj
    exact mkI h1 h2 (by rw [bcn_cg hR2]) (Rel_scr (scr_t hS scr_xcn) h)
end RD
