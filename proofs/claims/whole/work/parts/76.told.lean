/-! what is told, read, added line by line -/
section TL
variable {c : cx} {X : nX} {Y : nY}
/-- a call that changes one worth, which is not held -/
theorem Rel_j {X' : nX} {Y' : nY} {n m b j : Nat} {r : Nat → Nat} (ho : rl_o X Y n b r) (hs : ∀ s, s < 4 → rl_s1 X Y s) (hw : ∀ w, w < m → rl_w X Y n w) (hj : j < m) (hnh : X 107 j = bI false) (hX : oX X X') (hY : oY Y Y') (hh : rl_h X' n m) (hwf : ∀ w, w < m → w ≠ j → wfr X X' Y Y' w) (h107 : ∀ q, X' 107 q = X 107 q) (h4 : ∀ w, w < m → w ≠ j → X' (2 + 7 * w) 4 = X (2 + 7 * w) 4) (hjw : rl_w X' Y' n j) : Rel X' Y' := by
  have hn := hh.1
  have hm := hh.2.1
  refine Rel_wo ho hs hX hY hh (fun w hw2 => ?_)
  by_cases h9 : w = j
  · subst h9; exact hjw
  · refine rl_w_f (by omega) hn (hwf w hw2 h9) (fun q hq hh9 => ⟨by rw [h107]; exact hh9, ?_⟩) ?_ (hw w hw2)
    · have hqj : q ≠ j := fun h8 => by subst h8; rw [hnh] at hh9; exact absurd hh9 (by decide)
      exact (hwf q (by omega) hqj).2.2.2.2.2.2.2.2.2.2
    · obtain ⟨kd, P, hd, ⟨b1, b2, b3, b4, b5, -⟩, -⟩ := hw w hw2
      exact ⟨hd, by rw [h4 w hw2 h9]; exact b4, by rw [h107]; exact b5⟩
theorem st_tell (h : Rel X Y) (w s v : Int32) : stI c mX7_tell mX8_tell [.int w, .int s, .int v] X Y := by
  obtain ⟨n, m, b, r, hh, ho, hs, hw⟩ := id h
  obtain ⟨hn, hm, a6, a7, b6, b7, hcd⟩ := id hh
  have h2n := p2_le hn
  cases hi : ix w m with
  | false => exact mkI (c_tell_u hn a6 hm a7 (Or.inl hi)) (r_tell_u hn b6 hm b7 (Or.inl hi)) rfl h
  | true =>
    cases hi2 : ix s (2 ^ n) with
    | false => exact mkI (c_tell_u hn a6 hm a7 (Or.inr hi2)) (r_tell_u hn b6 hm b7 (Or.inr hi2)) rfl h
    | true =>
      obtain ⟨j, hj, rfl⟩ := ix_t hi (by omega)
      obtain ⟨q, hq, rfl⟩ := ix_t hi2 (by omega)
      by_cases h0 : q = 0
      · subst h0
        exact mkI (c_tell_o1 hn a6 hm a7 hj) (r_tell_o1 hn b6 hm b7 hj) rfl h
      · cases hv9 : wi v.toInt64 (-1000000) 1000000 with
        | false => exact mkI (c_tell_o2 hn a6 hm a7 hj hq h0 hv9) (r_tell_o2 hn b6 hm b7 hj hq h0 hv9) rfl h
        | true =>
          obtain ⟨kd, P, hd, ⟨q1, q2, q3, q4, q5, q6, q7, q8, q9⟩, ⟨v1, v2, v3⟩, hkk⟩ := hw j hj
          have eX : ∀ (k : Int32) a, a ≠ 0 → up2 X 0 8 k a = X a := fun k a q => up2_ne a q
          cases hd with
          | true => exact mkI (c_tell_n hn a6 hm a7 hj hq h0 hv9 q4) (r_tell_n hn b6 hm b7 hj hq h0 hv9 q5) rfl h
          | false =>
            by_cases hk0 : kd = 0
            · subst hk0
              have hvb : v.toInt64.toInt.natAbs ≤ 1000000 := by
                rw [wi_abs (B := 1000000) rfl rfl] at hv9
                simpa using hv9
              refine mkI (c_tell_k hn a6 hm a7 hj hq h0 hv9 q4 q1) (r_tell_k hn (by rw [eX _ _ (by omega)] at *; exact b6) hm (by rw [eX _ _ (by omega)]; exact b7) hj hq h0 hv9 (by rw [eX _ _ (by omega)]; exact q5) (by rw [eX _ _ (by omega)]; exact q2)) rfl ?_
              have eX2 : ∀ a, a ≠ 0 → a ≠ 105 → up2 (up2 X 0 8 (nI 0)) 105 19 (nI 0) a = X a := fun a g1 g2 => by rw [up2_ne _ g2, up2_ne _ g1]
              have evr : ∀ k, k < 1024 → vr (upl (upl Y (3 + 7 * j) q v.toInt64) 108 (1024 * j + q) v.toInt64) j k = if k = q then v.toInt64 else vr Y j k := fun k hk => by
                unfold vr
                rw [upl_at]
                by_cases h9 : k = q
                · rw [if_pos ⟨rfl, by omega⟩, if_pos h9]
                · rw [if_neg (by omega), if_neg h9, upl_ne _ (by omega)]
              refine Rel_j ho hs hw hj q5 (oX_t (oX_up2 (by omega)) (oX_up2 (by omega))) (oY_t (oY_upl (by omega)) (oY_upl (by omega))) ⟨hn, hm, ?_, ?_, ?_, ?_, ?_⟩ (fun w hw2 hwj => wfr_t (wfr_t (wfr_t (wfr_up2 (by omega)) (wfr_up2 (by omega))) (wfr_upl (by omega))) (wfr_upl (by omega))) (fun q => by rw [eX2 _ (by omega) (by omega)]) (fun w hw2 _ => by rw [eX2 _ (by omega) (by omega)]) ⟨0, P, false, ⟨?_, ?_, q3, ?_, ?_, ?_, ?_, ?_, ?_⟩, ⟨fun k hk => ?_, fun k hk => ?_, ?_⟩, fun e => by omega, fun e => by omega, fun e => by omega, fun e => by omega, fun e => by omega⟩
              · rw [up2_ne _ (by omega), up2_at, if_neg (by omega)]; exact a6
              · rw [up2_ne _ (by omega), up2_at, if_neg (by omega)]; exact a7
              · rw [up2_at, if_neg (by omega), up2_ne _ (by omega)]; exact b6
              · rw [up2_at, if_neg (by omega), up2_ne _ (by omega)]; exact b7
              · rw [up2_ne 0 (by omega), up2_at, if_pos ⟨rfl, rfl⟩, up2_at, if_pos ⟨rfl, rfl⟩]
              · rw [eX2 _ (by omega) (by omega)]; exact q1
              · rw [eX2 _ (by omega) (by omega)]; exact q2
              · rw [eX2 _ (by omega) (by omega)]; exact q4
              · rw [eX2 _ (by omega) (by omega)]; exact q5
              · rw [eX2 _ (by omega) (by omega)]; exact q6
              · rw [eX2 _ (by omega) (by omega)]; exact q7
              · rw [eX2 _ (by omega) (by omega)]; exact q8
              · rw [eX2 _ (by omega) (by omega)]; exact q9
              · rw [evr k (by omega), upl_ne _ (by omega), upl_at]
                by_cases h9 : k = q
                · rw [if_pos ⟨rfl, h9⟩, if_pos h9]
                · rw [if_neg (fun h8 => h9 h8.2), if_neg h9]; exact v1 k hk
              · rw [evr k (by omega)]
                by_cases h9 : k = q
                · rw [if_pos h9]; omega
                · rw [if_neg h9]; exact v2 k hk
              · rw [evr 0 (by omega), if_neg (by omega)]; exact v3
            · have n1 : ¬ X (2 + 7 * j) 5 = 0 := fun h9 => by rw [q1] at h9; exact hk0 ((nI_eq (b := 0) (by omega) (by decide)).mp h9)
              have n2 : ¬ up2 X 0 8 (nI 5) 106 j = nI 0 := fun h9 => by rw [eX _ _ (by omega), q2] at h9; exact hk0 ((nI_eq (b := 0) (by omega) (by decide)).mp h9)
              exact mkI (c_tell_c hn a6 hm a7 hj hq h0 hv9 q4 n1) (r_tell_c hn (by rw [eX _ _ (by omega)]; exact b6) hm (by rw [eX _ _ (by omega)]; exact b7) hj hq h0 hv9 (by rw [eX _ _ (by omega)]; exact q5) n2) rfl (Rel_code _ h)
theorem Rel_read {n m b j e k : Nat} {r : Nat → Nat} (hh : rl_h X n m) (ho : rl_o X Y n b r) (hs : ∀ s, s < 4 → rl_s1 X Y s) (hw : ∀ w, w < m → rl_w X Y n w) (hj : j < m) {P : Nat} (hb : rl_b X n j 0 P false) (he : e < 4) (g6 : ∀ i, i < k → Y (88 + 2 * e) i = Y 121 (1100 * e + i)) (hk : k ≤ 1100) (hnk : 2 ^ n ≤ 1 ∨ 2 ^ n ≤ k) (hl : ∀ i, 1 ≤ i → i < 2 ^ n → (Y (88 + 2 * e) i).toInt.natAbs ≤ 1000000) : Rel (up2 (up2 X 0 8 (nI 0)) 105 19 (nI 0)) (mpl (mpl Y (3 + 7 * j) 1 (2 ^ n) (fun k => Y (88 + 2 * e) k)) 108 (1024 * j + 1) (1024 * j + 2 ^ n) (shf (fun k => mpl Y (3 + 7 * j) 1 (2 ^ n) (fun k => Y (88 + 2 * e) k) 121 (1100 * e + k)) (1024 * j))) := by
  obtain ⟨hn, hm, a6, a7, b6, b7, hcd⟩ := id hh
  have h2n := p2_le hn
  obtain ⟨kd0, P0, hd0, -, ⟨v1, v2, v3⟩, -⟩ := hw j hj
  obtain ⟨q1, q2, q3, q4, q5, q6, q7, q8, q9⟩ := hb
  have eX2 : ∀ a, a ≠ 0 → a ≠ 105 → up2 (up2 X 0 8 (nI 0)) 105 19 (nI 0) a = X a := fun a g1 g2 => by rw [up2_ne _ g2, up2_ne _ g1]
  have evr : ∀ i, i < 2 ^ n → vr (mpl (mpl Y (3 + 7 * j) 1 (2 ^ n) (fun k => Y (88 + 2 * e) k)) 108 (1024 * j + 1) (1024 * j + 2 ^ n) (shf (fun k => mpl Y (3 + 7 * j) 1 (2 ^ n) (fun k => Y (88 + 2 * e) k) 121 (1100 * e + k)) (1024 * j))) j i = if i = 0 then vr Y j 0 else Y (88 + 2 * e) i := fun i hi => by
    unfold vr
    by_cases h9 : i = 0
    · rw [if_pos h9, mpl_def, if_neg (by omega), mpl_ne (by omega), h9]
    · rw [if_neg h9, mpl_lt (by omega) (by omega), shf_at, mpl_ne (by omega)]
      exact (g6 i (by omega)).symm
  refine Rel_j ho hs hw hj q5 (oX_t (oX_up2 (by omega)) (oX_up2 (by omega))) (oY_t (oY_mpl (by omega)) (oY_mpl (by omega))) ⟨hn, hm, ?_, ?_, ?_, ?_, ?_⟩ (fun w hw2 hwj => wfr_t (wfr_t (wfr_t (wfr_up2 (by omega)) (wfr_up2 (by omega))) (wfr_mpl (by omega))) (wfr_mpl (by omega))) (fun q => by rw [eX2 _ (by omega) (by omega)]) (fun w hw2 _ => by rw [eX2 _ (by omega) (by omega)]) ⟨0, P, false, ⟨?_, ?_, q3, ?_, ?_, ?_, ?_, ?_, ?_⟩, ⟨fun k hk => ?_, fun k hk => ?_, ?_⟩, fun e => by omega, fun e => by omega, fun e => by omega, fun e => by omega, fun e => by omega⟩
  · rw [up2_ne _ (by omega), up2_at, if_neg (by omega)]; exact a6
  · rw [up2_ne _ (by omega), up2_at, if_neg (by omega)]; exact a7
  · rw [up2_at, if_neg (by omega), up2_ne _ (by omega)]; exact b6
  · rw [up2_at, if_neg (by omega), up2_ne _ (by omega)]; exact b7
  · rw [up2_ne 0 (by omega), up2_at, if_pos ⟨rfl, rfl⟩, up2_at, if_pos ⟨rfl, rfl⟩]
  · rw [eX2 _ (by omega) (by omega)]; exact q1
  · rw [eX2 _ (by omega) (by omega)]; exact q2
  · rw [eX2 _ (by omega) (by omega)]; exact q4
  · rw [eX2 _ (by omega) (by omega)]; exact q5
  · rw [eX2 _ (by omega) (by omega)]; exact q6
  · rw [eX2 _ (by omega) (by omega)]; exact q7
  · rw [eX2 _ (by omega) (by omega)]; exact q8
  · rw [eX2 _ (by omega) (by omega)]; exact q9
  · rw [evr k hk, mpl_ne (by omega), mpl_def]
    by_cases h9 : k = 0
    · rw [if_neg (by omega), if_pos h9, h9]; exact v1 0 (by omega)
    · rw [if_pos ⟨rfl, by omega, hk⟩, if_neg h9]
  · rw [evr k hk]
    by_cases h9 : k = 0
    · rw [if_pos h9]; exact v2 0 (by omega)
    · rw [if_neg h9]
      have := hl k (by omega) hk
      omega
  · rw [evr 0 (by have := p2_1 (n := n); omega), if_pos rfl]; exact v3
theorem st_read (h : Rel X Y) (w s : Int32) : stI c mX7_read mX8_read [.int w, .int s] X Y := by
  obtain ⟨n, m, b, r, hh, ho, hs, hw⟩ := id h
  obtain ⟨hn, hm, a6, a7, b6, b7, hcd⟩ := id hh
  have h2n := p2_le hn
  have h1n := p2_1 (n := n)
  cases hi : ix w m with
  | false => exact mkI (c_read_u hm a7 (Or.inl hi)) (r_read_u hm b7 (Or.inl hi)) rfl h
  | true =>
    cases hi2 : ix s 4 with
    | false => exact mkI (c_read_u hm a7 (Or.inr hi2)) (r_read_u hm b7 (Or.inr hi2)) rfl h
    | true =>
      obtain ⟨j, hj, rfl⟩ := ix_t hi (by omega)
      obtain ⟨e, he, rfl⟩ := ix_t hi2 (by omega)
      obtain ⟨kd, P, hd, ⟨q1, q2, q3, q4, q5, q6, q7, q8, q9⟩, ⟨v1, v2, v3⟩, hkk⟩ := hw j hj
      have eX : ∀ (k : Int32) a, a ≠ 0 → up2 X 0 8 k a = X a := fun k a q => up2_ne a q
      have f6 : ∀ k, up2 X 0 8 k 105 0 = nI n := fun k => by rw [eX _ _ (by omega)]; exact b6
      have f7 : ∀ k, up2 X 0 8 k 105 1 = nI m := fun k => by rw [eX _ _ (by omega)]; exact b7
      have f107 : ∀ k, up2 X 0 8 k 107 j = bI hd := fun k => by rw [eX _ _ (by omega)]; exact q5
      cases hd with
      | true => exact mkI (c_read_n hn a6 hm a7 hj q6 he q4) (r_read_n hn b6 hm b7 hj he q5) rfl h
      | false =>
        by_cases hk0 : kd = 0
        · subst hk0
          have k1 : X (2 + 7 * j) 5 = 0 := q1
          have k2 : ∀ k, up2 X 0 8 k 106 j = 0 := fun k => by rw [eX _ _ (by omega)]; exact q2
          rcases hs e he with ⟨g1, g2⟩ | ⟨k, g1, g2, g3, g4, g5, g6⟩
          · exact mkI (c_read_c1 hn a6 hm a7 hj q6 he q4 k1 g1) (r_read_c1 hn (f6 _) hm (f7 _) hj he (f107 _) (k2 _) (by rw [eX _ _ (by omega)]; exact g2)) rfl (Rel_code _ h)
          · have g4' : ∀ k', up2 X 0 8 k' 119 e = nI k := fun k' => by rw [eX _ _ (by omega)]; exact g4
            rcases Nat.lt_or_ge 1 (2 ^ n) with n1 | n1
            · rcases Nat.lt_or_ge k (2 ^ n) with n2 | n2
              · exact mkI (c_read_c3 hn a6 hm a7 hj q6 he q4 k1 g2 g1 g3 n1 n2) (r_read_c3 hn (f6 _) hm (f7 _) hj he (f107 _) (k2 _) g1 (g4' _) n1 n2) rfl (Rel_code _ h)
              · have hcg : lany (fun k => decide (1 ≤ k) && !(wi (Y (88 + 2 * e) k) (-1000000) 1000000)) (2 ^ n) = lany (p_rd Y e) (2 ^ n) := by
                  unfold lany
                  rw [ff_congr (R := p_rd Y e) (fun i hi => by unfold p_rd; rw [g6 i (by omega)])]
                have hcg2 : lany (fun k => decide (1 ≤ k) && !(wi (Y (88 + 2 * e) k) (-1000000) 1000000)) (2 ^ n) = lany (p_rd (mpl Y (3 + 7 * j) 1 (2 ^ n) (fun k => Y (88 + 2 * e) k)) e) (2 ^ n) := by
                  rw [hcg]
                  unfold lany
                  rw [ff_congr (R := p_rd (mpl Y (3 + 7 * j) 1 (2 ^ n) (fun k => Y (88 + 2 * e) k)) e) (fun i hi => by unfold p_rd; rw [mpl_ne (by omega)])]
                cases hl : lany (fun k => decide (1 ≤ k) && !(wi (Y (88 + 2 * e) k) (-1000000) 1000000)) (2 ^ n) with
                | true => exact mkI (c_read_bb hn a6 hm a7 hj q6 he q4 k1 g2 g1 g3 n1 n2 hl) (r_read_bb hn b6 hm b7 hj he q5 q2 g1 g4 n1 n2 (hcg.symm.trans hl)) rfl h
                | false =>
                  refine mkI (c_read_kb hn a6 hm a7 hj q6 he q4 k1 g2 g1 g3 n1 n2 hl) (r_read_kb hn (f6 _) hm (f7 _) hj he (f107 _) (k2 _) g1 (g4' _) n1 n2 (hcg2.symm.trans hl)) rfl ?_
                  refine Rel_read hh ho hs hw hj ⟨q1, q2, q3, q4, q5, q6, q7, q8, q9⟩ he g6 g1 (Or.inr n2) (fun i h1 hi => ?_)
                  have hnn : ffind (fun k => decide (1 ≤ k) && !(wi (Y (88 + 2 * e) k) (-1000000) 1000000)) (2 ^ n) = none := by
                    unfold lany at hl
                    cases h8 : ffind (fun k => decide (1 ≤ k) && !(wi (Y (88 + 2 * e) k) (-1000000) 1000000)) (2 ^ n) with
                    | none => rfl
                    | some k => rw [h8] at hl; cases hl
                  have := ff_none.mp hnn i hi
                  simp only [decide_eq_true h1, Bool.true_and, wi_abs (v := Y (88 + 2 * e) i) (B := 1000000) (lo := -1000000) (hi := 1000000) rfl rfl] at this
                  simpa using this
            · have hz : ∀ (P : Nat → Bool), (∀ i, i < 1 → P i = false) → lany P (2 ^ n) = false := fun P hP => lany_f (ff_none.mpr (fun i hi => hP i (by omega)))
              have hl1 := hz (fun k => decide (1 ≤ k) && !(wi (Y (88 + 2 * e) k) (-1000000) 1000000)) (fun i hi => by simp; omega)
              have hl2 := hz (p_rd (mpl Y (3 + 7 * j) 1 (2 ^ n) (fun k => Y (88 + 2 * e) k)) e) (fun i hi => by unfold p_rd; simp; omega)
              refine mkI (c_read_ka hn a6 hm a7 hj q6 he q4 k1 g2 g1 g3 n1 hl1) (r_read_ka hn (f6 _) hm (f7 _) hj he (f107 _) (k2 _) g1 (g4' _) n1 hl2) rfl ?_
              exact Rel_read hh ho hs hw hj ⟨q1, q2, q3, q4, q5, q6, q7, q8, q9⟩ he g6 g1 (Or.inl n1) (fun i h1 hi => by omega)
        · have n1 : ¬ X (2 + 7 * j) 5 = 0 := fun h9 => by rw [q1] at h9; exact hk0 ((nI_eq (b := 0) (by omega) (by decide)).mp h9)
          have n2 : ¬ up2 X 0 8 (nI 5) 106 j = 0 := fun h9 => by rw [eX _ _ (by omega), q2] at h9; exact hk0 ((nI_eq (b := 0) (by omega) (by decide)).mp h9)
          exact mkI (c_read_c5 hn a6 hm a7 hj q6 he q4 n1) (r_read_c5 hn (f6 _) hm (f7 _) hj he (f107 _) n2) rfl (Rel_code _ h)
end TL
