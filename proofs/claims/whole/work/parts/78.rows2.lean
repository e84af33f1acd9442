/-! rows, sums, prices -/
/-- the table's states while the ranks are worked out -/
def tkr (N : Nat → Int32) (n : Nat) (R : Nat → Int64) : Nat → (Nat → Int64)
  | 0 => R
  | i + 1 => (rnk N i (tkr N n R i) n).2
theorem work_r {c : cx} {d : Nat} {X : nX} {Y : nY} {w n : Nat} (hw : w < 12) (hn : n ≤ 10) (h6 : X 105 0 = nI n) (hkd : X 106 w = nI 3) (hN : ∀ k, k < 40 → (X 113 (40 * w + k)).toInt.natAbs ≤ 99) : sc c mX8_work (d + 5) [.ref (c_ad c 105), .int (nI w)] X Y (some (.int (bI true))) X (ywk Y w (fun i => lN (RK (fun k => X 113 (40 * w + k)) i n)) (tkr (fun k => X 113 (40 * w + k)) n (Y 122) (2 ^ n)) (2 ^ n)) := by
  have h2n := p2_le hn
  have h := m_work (c := c) (d := d) (X := X) (Y := Y) hw hn h6 (F := fun i => lN (RK (fun k => X 113 (40 * w + k)) i n)) (T := tkr (fun k => X 113 (40 * w + k)) n (Y 122)) hkd (by omega) (by omega) rfl (fun i hi => by
    refine scq (m_worked3 (Y := ywk Y w (fun i => lN (RK (fun k => X 113 (40 * w + k)) i n)) (tkr (fun k => X 113 (40 * w + k)) n (Y 122) i) i) hw hn h6 (s := i) (by omega) hkd) ?_ rfl ?_
    · rw [rnk_any hN i _ hn]
    · show srw (ywk _ _ _ _ _) 122 _ = _
      unfold ywk
      rw [srw_srw, srw_at]
      rfl)
  rw [lg_no (fun i hi => by
    have := RK_le hN i hn
    show (lN _).toInt.natAbs ≤ _
    rw [lN_toInt (by omega)]
    omega)] at h
  exact h
theorem x_row_at {X : nX} {j t k : Nat} {a b e f : Int32} (hk : k < 40) : x_row X j t a b e f (5 + 7 * j) k = if k = t * 4 + 3 then f else if k = t * 4 + 2 then e else if k = t * 4 + 1 then b else if k = t * 4 then a else X (5 + 7 * j) k := by
  unfold x_row
  rw [up2_at, up2_at, up2_at, up2_at, up2_ne _ (by omega)]
  by_cases h3 : k = t * 4 + 3
  · rw [if_pos ⟨rfl, h3⟩, if_pos h3]
  rw [if_neg (fun h => h3 h.2), if_neg h3]
  by_cases h2 : k = t * 4 + 2
  · rw [if_pos ⟨rfl, h2⟩, if_pos h2]
  rw [if_neg (fun h => h2 h.2), if_neg h2]
  by_cases h1 : k = t * 4 + 1
  · rw [if_pos ⟨rfl, h1⟩, if_pos h1]
  rw [if_neg (fun h => h1 h.2), if_neg h1]
  by_cases h0 : k = t * 4
  · rw [if_pos ⟨rfl, h0⟩, if_pos h0]
  rw [if_neg (fun h => h0 h.2), if_neg h0]
theorem x_mr_at {X : nX} {j t k : Nat} {a b e f : Int32} : x_mr X j t a b e f 113 (40 * j + k) = if k = t * 4 + 3 then f else if k = t * 4 + 2 then e else if k = t * 4 + 1 then b else if k = t * 4 then a else X 113 (40 * j + k) := by
  unfold x_mr
  rw [up2_at, up2_at, up2_at, up2_at]
  by_cases h3 : k = t * 4 + 3
  · rw [if_pos ⟨rfl, by omega⟩, if_pos h3]
  rw [if_neg (by omega), if_neg h3]
  by_cases h2 : k = t * 4 + 2
  · rw [if_pos ⟨rfl, by omega⟩, if_pos h2]
  rw [if_neg (by omega), if_neg h2]
  by_cases h1 : k = t * 4 + 1
  · rw [if_pos ⟨rfl, by omega⟩, if_pos h1]
  rw [if_neg (by omega), if_neg h1]
  by_cases h0 : k = t * 4
  · rw [if_pos ⟨rfl, by omega⟩, if_pos h0]
  rw [if_neg (by omega), if_neg h0]
theorem x_row_ne {X : nX} {j t q : Nat} {a b e f : Int32} (h0 : q ≠ 0) (h5 : q ≠ 5 + 7 * j) : x_row X j t a b e f q = X q := by
  unfold x_row
  rw [up2_ne _ h5, up2_ne _ h5, up2_ne _ h5, up2_ne _ h5, up2_ne _ h0]
theorem x_mr_ne {X : nX} {j t q : Nat} {a b e f : Int32} (h : q ≠ 113) : x_mr X j t a b e f q = X q := by
  unfold x_mr
  rw [up2_ne _ h, up2_ne _ h, up2_ne _ h, up2_ne _ h]
section RW
variable {c : cx} {X : nX} {Y : nY}
theorem st_row (h : Rel X Y) (w t a b' e f : Int32) : stI c mX7_row mX8_row [.int w, .int t, .int a, .int b', .int e, .int f] X Y := by
  obtain ⟨n, m, b, r, hh, ho, hs, hw⟩ := id h
  obtain ⟨hn, hm, a6, a7, b6, b7, hcd⟩ := id hh
  have h2n := p2_le hn
  cases hi : ix w m with
  | false => exact mkI (c_row_u hn a6 hm a7 (Or.inl hi)) (r_row_u hn b6 hm b7 (Or.inl hi)) rfl h
  | true =>
    cases hi2 : ix t n with
    | false => exact mkI (c_row_u hn a6 hm a7 (Or.inr hi2)) (r_row_u hn b6 hm b7 (Or.inr hi2)) rfl h
    | true =>
      obtain ⟨j, hj, rfl⟩ := ix_t hi (by omega)
      obtain ⟨u, hu, rfl⟩ := ix_t hi2 (by omega)
      cases hva : wi a.toInt64 (-99) 99 with
      | false => exact mkI (c_row_o hn a6 hm a7 hj hu (Or.inl hva)) (r_row_o hn b6 hm b7 hj hu (Or.inl hva)) rfl h
      | true =>
      cases hvb : wi b'.toInt64 (-99) 99 with
      | false => exact mkI (c_row_o hn a6 hm a7 hj hu (Or.inr (Or.inl hvb))) (r_row_o hn b6 hm b7 hj hu (Or.inr (Or.inl hvb))) rfl h
      | true =>
      cases hve : wi e.toInt64 (-99) 99 with
      | false => exact mkI (c_row_o hn a6 hm a7 hj hu (Or.inr (Or.inr (Or.inl hve)))) (r_row_o hn b6 hm b7 hj hu (Or.inr (Or.inr (Or.inl hve)))) rfl h
      | true =>
      cases hvf : wi f.toInt64 (-99) 99 with
      | false => exact mkI (c_row_o hn a6 hm a7 hj hu (Or.inr (Or.inr (Or.inr hvf)))) (r_row_o hn b6 hm b7 hj hu (Or.inr (Or.inr (Or.inr hvf)))) rfl h
      | true =>
        have bd : ∀ z : Int32, wi z.toInt64 (-99) 99 = true → z.toInt.natAbs ≤ 99 := fun z hz => by
          rw [wi_abs (B := 99) rfl rfl, Int32.toInt_toInt64] at hz
          simpa using hz
        obtain ⟨kd, P, hd, hbb, ⟨v1, v2, v3⟩, hkk⟩ := hw j hj
        obtain ⟨q1, q2, q3, q4, q5, q6, q7, q8, q9⟩ := id hbb
        cases hd with
        | true => exact mkI (c_row_n hn a6 hm a7 hj hu hva hvb hve hvf q4) (r_row_n hn b6 hm b7 hj hu hva hvb hve hvf q5) rfl h
        | false =>
          have eX : ∀ (k : Int32) a, a ≠ 0 → up2 X 0 8 k a = X a := fun k a q => up2_ne a q
          by_cases hk1 : kd = 3
          · subst hk1
            obtain ⟨p1, p2⟩ := hkk.2.2.1 rfl
            have z1 := c_row_k (c := c) (d := 3) (X := X) (Y := Y) hn a6 hm a7 hj hu hva hvb hve hvf q4 q1 q6 q7
            have zne : ∀ q, q ≠ 0 → q ≠ 5 + 7 * j → x_row X j u a b' e f q = X q := fun q g1 g2 => x_row_ne g1 g2
            have z0 : ∀ k, x_row X j u a b' e f 0 k = if k = 8 then nI 0 else X 0 k := fun k => by
              unfold x_row
              rw [up2_ne _ (by omega), up2_ne _ (by omega), up2_ne _ (by omega), up2_ne _ (by omega), up2_at]
              by_cases h9 : k = 8
              · rw [if_pos ⟨rfl, h9⟩, if_pos h9]
              · rw [if_neg (fun h8 => h9 h8.2), if_neg h9]
            have z5 : ∀ k, k < 40 → x_row X j u a b' e f (5 + 7 * j) k = if k = u * 4 + 3 then f else if k = u * 4 + 2 then e else if k = u * 4 + 1 then b' else if k = u * 4 then a else X (5 + 7 * j) k := fun k hk => x_row_at hk
            generalize hZ : x_row X j u a b' e f = Z at z1 zne z0 z5
            generalize hR1 : (ran (Z (5 + 7 * j)) n u (Y (3 + 7 * j)) (Y (6 + 7 * j)) (2 ^ n)).1 = G at z1
            generalize hR2 : (ran (Z (5 + 7 * j)) n u (Y (3 + 7 * j)) (Y (6 + 7 * j)) (2 ^ n)).2 = K at z1
            have m113 : ∀ k, k < 40 → x_mr (up2 Z 105 19 (nI 0)) j u a b' e f 113 (40 * j + k) = Z (5 + 7 * j) k := fun k hk => by
              rw [x_mr_at, z5 k hk, up2_ne _ (by omega), zne _ (by omega) (by omega), (p1 k hk).1]
            have hNb : ∀ k, k < 40 → (Z (5 + 7 * j) k).toInt.natAbs ≤ 99 := fun k hk => by
              rw [z5 k hk]
              split
              · exact bd f hvf
              · split
                · exact bd e hve
                · split
                  · exact bd b' hvb
                  · split
                    · exact bd a hva
                    · rw [(p1 k hk).1]; exact (p1 k hk).2
            have hNb2 : ∀ k, k < 40 → (x_mr (up2 Z 105 19 (nI 0)) j u a b' e f 113 (40 * j + k)).toInt.natAbs ≤ 99 := fun k hk => by rw [m113 k hk]; exact hNb k hk
            have mne : ∀ q, q ≠ 0 → q ≠ 5 + 7 * j → q ≠ 105 → q ≠ 113 → x_mr (up2 Z 105 19 (nI 0)) j u a b' e f q = X q := fun q g1 g2 g3 g4 => by rw [x_mr_ne g4, up2_ne _ g3, zne q g1 g2]
            have m105 : ∀ k, x_mr (up2 Z 105 19 (nI 0)) j u a b' e f 105 k = if k = 19 then nI 0 else X 105 k := fun k => by
              rw [x_mr_ne (by omega), up2_at]
              by_cases h9 : k = 19
              · rw [if_pos ⟨rfl, h9⟩, if_pos h9]
              · rw [if_neg (fun h8 => h9 h8.2), if_neg h9, zne _ (by omega) (by omega)]
            have hwk := work_r (c := c) (d := 3) (X := x_mr (up2 Z 105 19 (nI 0)) j u a b' e f) (Y := srw (srw Y (6 + 7 * j) K) (3 + 7 * j) G) (w := j) (by omega) hn (by rw [m105, if_neg (by omega)]; exact b6) (by rw [mne _ (by omega) (by omega) (by omega) (by omega)]; exact q2) hNb2
            have z2 := r_row_k (c := c) (d := 3) (X := Z) (Y := srw (srw Y (6 + 7 * j) K) (3 + 7 * j) G) hn (by rw [zne _ (by omega) (by omega)]; exact b6) hm (by rw [zne _ (by omega) (by omega)]; exact b7) hj hu hva hvb hve hvf (by rw [zne _ (by omega) (by omega)]; exact q5) (by rw [zne _ (by omega) (by omega)]; exact q2) hwk
            refine mkI z1 z2 rfl ?_
            -- the class's values
            have hold : ∀ s, s < 2 ^ n → hb s u = false → Y (3 + 7 * j) s = lN (RK (Z (5 + 7 * j)) s n) := fun s hs2 hsu => by
              rw [v1 s hs2, p2 s hs2]
              congr 1
              refine RK_cg (fun k hk => (p1 k hk).2) hNb hn (fun t' ht' hh' c' hc' => ?_)
              have hne : t' ≠ u := fun h9 => by rw [h9, hsu] at hh'; cases hh'
              rw [z5 _ (by omega), if_neg (by omega), if_neg (by omega), if_neg (by omega), if_neg (by omega), (p1 _ (by omega)).1]
            have hnew := (ran_RK (R := Y (6 + 7 * j)) hNb hn hold (2 ^ n) (Nat.le_refl _)).1
            rw [hR1] at hnew
            have hRK : ∀ s, RK (fun k => x_mr (up2 Z 105 19 (nI 0)) j u a b' e f 113 (40 * j + k)) s n = RK (Z (5 + 7 * j)) s n := fun s => RK_cg hNb2 hNb hn (fun t' ht' _ c' hc' => m113 _ (by omega))
            refine Rel_j ho hs hw hj q5 (fun q hq => mne q (by omega) (by omega) (by omega) (by omega)) (oY_t (oY_t (oY_srw (by omega)) (oY_srw (by omega))) oY_ywk) ⟨hn, hm, ?_, ?_, ?_, ?_, ?_⟩ (fun w hw2 hwj => ?_) (fun q => by rw [mne _ (by omega) (by omega) (by omega) (by omega)]) (fun w hw2 hwj => by rw [mne _ (by omega) (by omega) (by omega) (by omega)]) ⟨3, P, false, ⟨?_, ?_, q3, ?_, ?_, ?_, ?_, ?_, ?_⟩, ⟨fun k hk => ?_, fun k hk => ?_, ?_⟩, fun e => by omega, fun e => by omega, fun _ => ⟨fun k hk => ⟨?_, ?_⟩, fun s hs2 => ?_⟩, fun e => by omega, fun e => by omega⟩
            · rw [x_mr_ne (by omega), up2_ne _ (by omega), z0, if_neg (by omega)]; exact a6
            · rw [x_mr_ne (by omega), up2_ne _ (by omega), z0, if_neg (by omega)]; exact a7
            · rw [m105, if_neg (by omega)]; exact b6
            · rw [m105, if_neg (by omega)]; exact b7
            · rw [m105, if_pos rfl, x_mr_ne (by omega), up2_ne _ (by omega), z0, if_pos rfl]
            · refine wfr_t (wfr_t (wfr_t ?_ (wfr_srw (by omega))) (wfr_srw (by omega))) (wfr_ywk hwj (by omega) (by omega))
              refine ⟨fun f _ => by rw [mne _ (by omega) (by omega) (by omega) (by omega)], mne _ (by omega) (by omega) (by omega) (by omega), mne _ (by omega) (by omega) (by omega) (by omega), mne _ (by omega) (by omega) (by omega) (by omega), rfl, by rw [mne _ (by omega) (by omega) (by omega) (by omega)], by rw [mne _ (by omega) (by omega) (by omega) (by omega)], fun k hk => ⟨by rw [mne _ (by omega) (by omega) (by omega) (by omega)], by rw [mne _ (by omega) (by omega) (by omega) (by omega)], by rw [mne _ (by omega) (by omega) (by omega) (by omega)]⟩, fun k hk => ?_, fun k hk => by rw [mne _ (by omega) (by omega) (by omega) (by omega)], fun s hs => rfl⟩
              unfold x_mr
              rw [up2_at, if_neg (by omega), up2_at, if_neg (by omega), up2_at, if_neg (by omega), up2_at, if_neg (by omega), up2_ne _ (by omega), zne _ (by omega) (by omega)]
            · rw [mne _ (by omega) (by omega) (by omega) (by omega)]; exact q1
            · rw [mne _ (by omega) (by omega) (by omega) (by omega)]; exact q2
            · rw [mne _ (by omega) (by omega) (by omega) (by omega)]; exact q4
            · rw [mne _ (by omega) (by omega) (by omega) (by omega)]; exact q5
            · rw [mne _ (by omega) (by omega) (by omega) (by omega)]; exact q6
            · rw [mne _ (by omega) (by omega) (by omega) (by omega)]; exact q7
            · rw [mne _ (by omega) (by omega) (by omega) (by omega)]; exact q8
            · rw [mne _ (by omega) (by omega) (by omega) (by omega)]; exact q9
            · rw [ywk_own hk, hRK]
              unfold ywk
              rw [srw_ne (by omega), mpl_ne (by omega), srw_at]
              exact hnew k hk
            · rw [ywk_own hk]
              have := RK_le hNb2 k hn
              rw [lN_toInt (by omega)]
              omega
            · rw [ywk_own (by have := p2_1 (n := n); omega), RK_0]; rfl
            · rw [m113 k hk, x_mr_ne (by omega), up2_ne _ (by omega)]
            · exact hNb2 k hk
            · rw [ywk_own hs2]
          · have n1 : ¬ X (2 + 7 * j) 5 = nI 3 := fun h9 => by rw [q1] at h9; exact hk1 ((nI_eq (by omega) (by decide)).mp h9)
            have n2 : ¬ up2 X 0 8 (nI 5) 106 j = nI 3 := fun h9 => by rw [eX _ _ (by omega), q2] at h9; exact hk1 ((nI_eq (by omega) (by decide)).mp h9)
            exact mkI (c_row_c hn a6 hm a7 hj hu hva hvb hve hvf q4 n1) (r_row_c hn (by rw [eX _ _ (by omega)]; exact b6) hm (by rw [eX _ _ (by omega)]; exact b7) hj hu hva hvb hve hvf (by rw [eX _ _ (by omega)]; exact q5) n2) rfl (Rel_code _ h)
end RW
