/-! prices -/
section PR
variable {c : cx} {X : nX} {Y : nY}
theorem pr_back {j t : Nat} {v : Int32} : up2 (up2 (up2 (up2 X 105 19 (nI 0)) 114 (10 * j + t) v) 114 (10 * j + t) (X 114 (10 * j + t))) 105 19 (X 105 19) = X := by
  funext a b
  rw [up2_at]
  by_cases h1 : a = 105 ∧ b = 19
  · rw [if_pos h1, h1.1, h1.2]
  · rw [if_neg h1, up2_at]
    by_cases h2 : a = 114 ∧ b = 10 * j + t
    · rw [if_pos h2, h2.1, h2.2]
    · rw [if_neg h2, up2_at, if_neg h2, up2_at, if_neg h1]
theorem st_price (h : Rel X Y) (w u v : Int32) : stI c mX7_price mX8_price [.int w, .int u, .int v] X Y := by
  obtain ⟨n, m, b, r, hh, ho, hs, hw⟩ := id h
  obtain ⟨hn, hm, a6, a7, b6, b7, hcd⟩ := id hh
  have h2n := p2_le hn
  have h1n := p2_1 (n := n)
  cases hi : ix w m with
  | false => exact mkI (c_price_u hn a6 hm a7 (Or.inl hi)) (r_price_u hn b6 hm b7 (Or.inl hi)) rfl h
  | true =>
    cases hi2 : ix u n with
    | false => exact mkI (c_price_u hn a6 hm a7 (Or.inr hi2)) (r_price_u hn b6 hm b7 (Or.inr hi2)) rfl h
    | true =>
      obtain ⟨j, hj, rfl⟩ := ix_t hi (by omega)
      obtain ⟨t, ht, rfl⟩ := ix_t hi2 (by omega)
      cases hv : wi v.toInt64 (-100000) 100000 with
      | false => exact mkI (c_price_o hn a6 hm a7 hj ht hv) (r_price_o hn b6 hm b7 hj ht hv) rfl h
      | true =>
        have hvb : v.toInt.natAbs ≤ 100000 := by
          rw [wi_abs (B := 100000) rfl rfl, Int32.toInt_toInt64] at hv
          simpa using hv
        obtain ⟨kd, P, hd, hbb, ⟨v1, v2, v3⟩, hkk⟩ := hw j hj
        obtain ⟨q1, q2, q3, q4, q5, q6, q7, q8, q9⟩ := id hbb
        cases hd with
        | true => exact mkI (c_price_n hn a6 hm a7 hj ht hv q4) (r_price_n hn b6 hm b7 hj ht hv q5) rfl h
        | false =>
          have eX : ∀ (k : Int32) a, a ≠ 0 → up2 X 0 8 k a = X a := fun k a q => up2_ne a q
          by_cases hk1 : kd = 5
          · subst hk1
            obtain ⟨p1, o, p2, p3, p4⟩ := hkk.2.2.2.2 rfl
            obtain ⟨g1, g2⟩ := p3 t (by omega)
            have hFv : ∀ (W T : Nat → Int32), (∀ k, k < P → W k = X 111 (24 * j + k)) → (∀ e, e < n → e ≠ t → T e = X 114 (10 * j + e)) → T t = v → ∀ s, s < 2 ^ n → lpr T s (lsq W (fun k => vr Y (o k) s) P) n = if hb s t = true then vr Y j s + (v - X (8 + 7 * j) t).toInt64 else vr Y j s := fun W T hW hT hTt s hs2 => by
              rw [lpr_upd (W := fun e => X 114 (10 * j + e)) (t := t) (n := n) hT n (Nat.le_refl _), p4 s hs2, lsq_cg (W' := fun k => X 111 (24 * j + k)) (U' := fun k => vr Y (o k) s) (fun k hk => ⟨hW k hk, rfl⟩)]
              by_cases h9 : hb s t = true
              · rw [if_pos ⟨ht, h9⟩, if_pos h9, hTt, g1, sub32 (by omega) (by omega)]
              · rw [if_neg (fun h8 => h9 h8.2), if_neg h9, Int64.add_zero]
            have hFb : ∀ s, s < 2 ^ n → (vr Y j s + (v - X (8 + 7 * j) t).toInt64).toInt.natAbs ≤ 1000000200000 := fun s hs2 => by
              have k1 := v2 s hs2
              have k2 : (v - X (8 + 7 * j) t).toInt64.toInt.natAbs ≤ 200000 := by
                rw [g1, sub32 (by omega) (by omega), sub_toInt (by rw [Int32.toInt_toInt64]; omega) (by rw [Int32.toInt_toInt64]; omega), Int32.toInt_toInt64, Int32.toInt_toInt64]
                omega
              rw [add_toInt (by omega) (by omega)]
              omega
            have hlg : ∀ F : Nat → Int64, (∀ s, s < 2 ^ n → F s = if hb s t = true then vr Y j s + (v - X (8 + 7 * j) t).toInt64 else vr Y j s) → lany (p_price X Y j t v) (2 ^ n) = lany (p_lg F) (2 ^ n) := fun F hF => by
              unfold lany
              rw [ff_congr (R := p_lg F) (fun i hi => ?_)]
              have k1 := hFb i hi
              have k2 := v2 i hi
              unfold p_price p_lg
              rw [v1 i hi, hF i hi]
              by_cases h9 : hb i t = true
              · rw [if_pos h9, h9, wi_abs (B := 1000000000000) rfl rfl, szl_le (B := 1000000000000) (by omega) rfl]; rfl
              · rw [if_neg h9, szl_le (B := 1000000000000) (by omega) rfl, decide_eq_true k2]
                cases h8 : hb i t with
                | false => rfl
                | true => exact absurd h8 h9
            cases hl : lany (p_price X Y j t v) (2 ^ n) with
            | true =>
              generalize hXP : up2 (up2 X 105 19 (nI 0)) 114 (10 * j + t) v = XP
              have mne : ∀ q, q ≠ 105 → q ≠ 114 → XP q = X q := fun q k1 k2 => by rw [← hXP, up2_ne _ k2, up2_ne _ k1]
              have m105 : ∀ k, k ≠ 19 → XP 105 k = X 105 k := fun k hk => by rw [← hXP, up2_ne _ (by omega), up2_at, if_neg (by omega)]
              have m114 : ∀ e, XP 114 (10 * j + e) = if e = t then v else X 114 (10 * j + e) := fun e => by
                rw [← hXP, up2_at]
                by_cases h9 : e = t
                · rw [if_pos ⟨rfl, by omega⟩, if_pos h9]
                · rw [if_neg (by omega), if_neg h9, up2_ne _ (by omega)]
              have k1 := work_s (c := c) (d := 3) (X := XP) (Y := Y) (w := j) (P := P) (o := o) (U := fun k s => vr Y (o k) s) (by omega) hn (by rw [m105 _ (by omega)]; exact b6) (by rw [mne _ (by omega) (by omega)]; exact q2) (by omega) (by rw [mne _ (by omega) (by omega)]; exact q9) (fun k hk => by rw [mne _ (by omega) (by omega)]; exact (p2 k hk).1) (fun k hk => (p2 k hk).2.1) (fun k hk s hs2 => rfl)
              have hFF := hFv (fun k => XP 111 (24 * j + k)) (fun e => XP 114 (10 * j + e)) (fun k hk => by rw [mne _ (by omega) (by omega)]) (fun e he hne => by rw [m114, if_neg hne]) (by rw [m114, if_pos rfl])
              rw [← hlg _ hFF, hl] at k1
              generalize hF : (fun s => lpr (fun e => XP 114 (10 * j + e)) s (lsq (fun k => XP 111 (24 * j + k)) (fun k => vr Y (o k) s) P) n) = F at k1
              generalize hY1 : ywk Y j F (Y 122) (2 ^ n) = Y1 at k1
              have y1 : ∀ q, q ≠ j → q < 12 → ∀ s, s < 1024 → vr Y1 q s = vr Y q s := fun q k1 k2 s k3 => by rw [← hY1, ywk_vr k1 k3 (by omega)]
              generalize hX2 : up2 XP 114 (10 * j + t) (X 114 (10 * j + t)) = X2
              have nne : ∀ q, q ≠ 105 → q ≠ 114 → X2 q = X q := fun q k1 k2 => by rw [← hX2, up2_ne _ k2, mne q k1 k2]
              have n114 : ∀ e, X2 114 (10 * j + e) = X 114 (10 * j + e) := fun e => by
                rw [← hX2, up2_at]
                by_cases h9 : e = t
                · rw [if_pos ⟨rfl, by omega⟩, h9]
                · rw [if_neg (by omega), m114, if_neg h9]
              have k2 := work_s (c := c) (d := 3) (X := X2) (Y := Y1) (w := j) (P := P) (o := o) (U := fun k s => vr Y (o k) s) (by omega) hn (by rw [← hX2, up2_ne _ (by omega), m105 _ (by omega)]; exact b6) (by rw [nne _ (by omega) (by omega)]; exact q2) (by omega) (by rw [nne _ (by omega) (by omega)]; exact q9) (fun k hk => by rw [nne _ (by omega) (by omega)]; exact (p2 k hk).1) (fun k hk => (p2 k hk).2.1) (fun k hk s hs2 => y1 _ (by have := (p2 k hk).2.1; omega) (by have := (p2 k hk).2.1; omega) s hs2)
              have hF0 : ∀ s, s < 2 ^ n → lpr (fun e => X2 114 (10 * j + e)) s (lsq (fun k => X2 111 (24 * j + k)) (fun k => vr Y (o k) s) P) n = vr Y j s := fun s hs2 => by
                rw [p4 s hs2, lsq_cg (W' := fun k => X 111 (24 * j + k)) (U' := fun k => vr Y (o k) s) (fun k hk => ⟨by rw [nne _ (by omega) (by omega)], rfl⟩)]
                exact lpr_cg (fun e he => n114 e)
              have z2 := r_price_l (c := c) (d := 3) (X := X) (Y := Y) hn b6 hm b7 hj ht hv q5 q2 (Y1 := Y1) (by rw [hXP]; exact k1) (by rw [hXP, hX2]; exact k2)
              rw [pr_back] at z2
              refine mkI (c_price_l hn a6 hm a7 hj ht hv q4 q1 q6 hl) z2 rfl ?_
              generalize hF9 : (fun s => lpr (fun e => X2 114 (10 * j + e)) s (lsq (fun k => X2 111 (24 * j + k)) (fun k => vr Y (o k) s) P) n) = F9
              have hF1 : ∀ s, s < 2 ^ n → F9 s = vr Y j s := fun s hs2 => by rw [← hF9]; exact hF0 s hs2
              have y2 : ∀ q, q ≠ j → q < 12 → ∀ s, s < 1024 → vr (ywk Y1 j F9 (Y1 122) (2 ^ n)) q s = vr Y q s := fun q k1 k2 s k3 => by rw [ywk_vr k1 k3 (by omega)]; exact y1 q k1 k2 s k3
              refine Rel_j ho hs hw hj q5 oX_r (by rw [← hY1]; exact oY_t oY_ywk oY_ywk) hh (fun q hq hqj => by rw [← hY1]; exact wfr_t (wfr_ywk hqj (by omega) (by omega)) (wfr_ywk hqj (by omega) (by omega))) (fun _ => rfl) (fun _ _ _ => rfl) ⟨5, P, false, hbb, ⟨fun k hk => ?_, fun k hk => ?_, ?_⟩, fun e => by omega, fun e => by omega, fun e => by omega, fun e => by omega, fun _ => ⟨p1, o, p2, p3, fun s hs2 => ?_⟩⟩
              · rw [ywk_own hk, hF1 k hk, ← hY1]
                unfold ywk
                rw [srw_ne (by omega), mpl_ne (by omega), srw_ne (by omega), mpl_ne (by omega)]
                exact v1 k hk
              · rw [ywk_own hk, hF1 k hk]; exact v2 k hk
              · rw [ywk_own (by omega), hF1 0 (by omega)]; exact v3
              · rw [ywk_own hs2, hF1 s hs2, p4 s hs2]
                rw [lsq_cg (W' := fun k => X 111 (24 * j + k)) (U' := fun k => vr (ywk Y1 j F9 (Y1 122) (2 ^ n)) (o k) s) (fun k hk => ⟨rfl, ?_⟩)]
                have g9 := (p2 k hk).2.1
                rw [y2 _ (by omega) (by omega) _ (by omega)]
            | false =>
              have z1 := c_price_k (c := c) (d := 5) (X := X) (Y := Y) hn a6 hm a7 hj ht hv q4 q1 q6 hl
              generalize hZ : up2 (up2 X 0 8 (nI 0)) (8 + 7 * j) t v = Z at z1
              have zne : ∀ a, a ≠ 0 → a ≠ 8 + 7 * j → Z a = X a := fun a k1 k2 => by rw [← hZ, up2_ne _ k2, up2_ne _ k1]
              have z8 : ∀ e, Z (8 + 7 * j) e = if e = t then v else X (8 + 7 * j) e := fun e => by
                rw [← hZ, up2_at]
                by_cases h9 : e = t
                · rw [if_pos ⟨rfl, h9⟩, if_pos h9]
                · rw [if_neg (fun h8 => h9 h8.2), if_neg h9, up2_ne _ (by omega)]
              have z0 : ∀ k, Z 0 k = if k = 8 then nI 0 else X 0 k := fun k => by
                rw [← hZ, up2_ne _ (by omega), up2_at]
                by_cases h9 : k = 8
                · rw [if_pos ⟨rfl, h9⟩, if_pos h9]
                · rw [if_neg (fun h8 => h9 h8.2), if_neg h9]
              have hG : ∀ s, f_price (up2 X 0 8 (nI 0)) Y j t v s = if hb s t = true then Y (3 + 7 * j) s + (v - X (8 + 7 * j) t).toInt64 else Y (3 + 7 * j) s := fun s => by
                unfold f_price
                rw [up2_ne _ (by omega)]
              generalize hGG : f_price (up2 X 0 8 (nI 0)) Y j t v = G at z1 hG
              generalize hXP : up2 (up2 Z 105 19 (nI 0)) 114 (10 * j + t) v = XP
              have mne : ∀ q, q ≠ 0 → q ≠ 8 + 7 * j → q ≠ 105 → q ≠ 114 → XP q = X q := fun q k1 k2 k3 k4 => by rw [← hXP, up2_ne _ k4, up2_ne _ k3, zne q k1 k2]
              have mZ : ∀ q, q ≠ 105 → q ≠ 114 → XP q = Z q := fun q k1 k2 => by rw [← hXP, up2_ne _ k2, up2_ne _ k1]
              have m105 : ∀ k, XP 105 k = if k = 19 then nI 0 else X 105 k := fun k => by
                rw [← hXP, up2_ne _ (by omega), up2_at]
                by_cases h9 : k = 19
                · rw [if_pos ⟨rfl, h9⟩, if_pos h9]
                · rw [if_neg (fun h8 => h9 h8.2), if_neg h9, zne _ (by omega) (by omega)]
              have m114 : ∀ e, XP 114 (10 * j + e) = if e = t then v else X 114 (10 * j + e) := fun e => by
                rw [← hXP, up2_at]
                by_cases h9 : e = t
                · rw [if_pos ⟨rfl, by omega⟩, if_pos h9]
                · rw [if_neg (by omega), if_neg h9, up2_ne _ (by omega), zne _ (by omega) (by omega)]
              have y0 : ∀ q, q < 12 → ∀ s, s < 1024 → vr (mpl Y (3 + 7 * j) 0 (2 ^ n) G) q s = vr Y q s := fun q k1 s k3 => by unfold vr; rw [mpl_ne (by omega)]
              have k1 := work_s (c := c) (d := 3) (X := XP) (Y := mpl Y (3 + 7 * j) 0 (2 ^ n) G) (w := j) (P := P) (o := o) (U := fun k s => vr Y (o k) s) (by omega) hn (by rw [m105, if_neg (by omega)]; exact b6) (by rw [mne _ (by omega) (by omega) (by omega) (by omega)]; exact q2) (by omega) (by rw [mne _ (by omega) (by omega) (by omega) (by omega)]; exact q9) (fun k hk => by rw [mne _ (by omega) (by omega) (by omega) (by omega)]; exact (p2 k hk).1) (fun k hk => (p2 k hk).2.1) (fun k hk s hs2 => y0 _ (by have := (p2 k hk).2.1; omega) s hs2)
              have hFF := hFv (fun k => XP 111 (24 * j + k)) (fun e => XP 114 (10 * j + e)) (fun k hk => by rw [mne _ (by omega) (by omega) (by omega) (by omega)]) (fun e he hne => by rw [m114, if_neg hne]) (by rw [m114, if_pos rfl])
              rw [← hlg _ hFF, hl] at k1
              generalize hF : (fun s => lpr (fun e => XP 114 (10 * j + e)) s (lsq (fun k => XP 111 (24 * j + k)) (fun k => vr Y (o k) s) P) n) = F at k1
              have hF1 : ∀ s, s < 2 ^ n → F s = if hb s t = true then vr Y j s + (v - X (8 + 7 * j) t).toInt64 else vr Y j s := fun s hs2 => by rw [← hF]; exact hFF s hs2
              have z2 := r_price_k (c := c) (d := 3) (X := Z) (Y := mpl Y (3 + 7 * j) 0 (2 ^ n) G) hn (by rw [zne _ (by omega) (by omega)]; exact b6) hm (by rw [zne _ (by omega) (by omega)]; exact b7) hj ht hv (by rw [zne _ (by omega) (by omega)]; exact q5) (by rw [zne _ (by omega) (by omega)]; exact q2) (by rw [hXP]; exact k1)
              rw [hXP] at z2
              refine mkI z1 z2 (by rw [eX _ _ (by omega), zne _ (by omega) (by omega), g1]) ?_
              generalize hT : mpl Y (3 + 7 * j) 0 (2 ^ n) G 122 = T9
              have y2 : ∀ q, q ≠ j → q < 12 → ∀ s, s < 1024 → vr (ywk (mpl Y (3 + 7 * j) 0 (2 ^ n) G) j F T9 (2 ^ n)) q s = vr Y q s := fun q k1 k2 s k3 => by rw [ywk_vr k1 k3 (by omega)]; exact y0 q k2 s k3
              refine Rel_j ho hs hw hj q5 (fun q hq => mne q (by omega) (by omega) (by omega) (by omega)) (oY_t (oY_mpl (by omega)) oY_ywk) ⟨hn, hm, by rw [mZ _ (by omega) (by omega), z0, if_neg (by omega)]; exact a6, by rw [mZ _ (by omega) (by omega), z0, if_neg (by omega)]; exact a7, by rw [m105, if_neg (by omega)]; exact b6, by rw [m105, if_neg (by omega)]; exact b7, by rw [mZ 0 (by omega) (by omega), z0, if_pos rfl, m105, if_pos rfl]⟩ (fun q hq hqj => ?_) (fun q => by rw [mne _ (by omega) (by omega) (by omega) (by omega)]) (fun q hq hqj => by rw [mne _ (by omega) (by omega) (by omega) (by omega)]) ⟨5, P, false, ⟨by rw [mne _ (by omega) (by omega) (by omega) (by omega)]; exact q1, by rw [mne _ (by omega) (by omega) (by omega) (by omega)]; exact q2, q3, by rw [mne _ (by omega) (by omega) (by omega) (by omega)]; exact q4, by rw [mne _ (by omega) (by omega) (by omega) (by omega)]; exact q5, by rw [mne _ (by omega) (by omega) (by omega) (by omega)]; exact q6, by rw [mne _ (by omega) (by omega) (by omega) (by omega)]; exact q7, by rw [mne _ (by omega) (by omega) (by omega) (by omega)]; exact q8, by rw [mne _ (by omega) (by omega) (by omega) (by omega)]; exact q9⟩, ⟨fun k hk => ?_, fun k hk => ?_, ?_⟩, fun e => by omega, fun e => by omega, fun e => by omega, fun e => by omega, fun _ => ⟨p1, o, fun k hk => ?_, fun e he => ?_, fun s hs2 => ?_⟩⟩
              · refine wfr_t (wfr_t ?_ (wfr_mpl (by omega))) (wfr_ywk hqj (by omega) (by omega))
                rw [← hXP, ← hZ]
                exact wfr_t (wfr_t (wfr_t (wfr_up2 (by omega)) (wfr_up2 (by omega))) (wfr_up2 (by omega))) (wfr_up2 (by omega))
              · rw [ywk_own hk, hF1 k hk]
                unfold ywk
                rw [srw_ne (by omega), mpl_ne (by omega), mpl_lt (by omega) hk, hG, v1 k hk]
              · rw [ywk_own hk]
                have hnn : ffind (p_price X Y j t v) (2 ^ n) = none := by
                  unfold lany at hl
                  cases h8 : ffind (p_price X Y j t v) (2 ^ n) with
                  | none => rfl
                  | some k => rw [h8] at hl; cases hl
                have k5 := ff_none.mp hnn k hk
                rw [hF1 k hk]
                by_cases h9 : hb k t = true
                · rw [if_pos h9]
                  unfold p_price at k5
                  rw [h9, v1 k hk, wi_abs (B := 1000000000000) rfl rfl] at k5
                  simpa using k5
                · rw [if_neg h9]; exact v2 k hk
              · rw [ywk_own (by omega), hF1 0 (by omega), if_neg (by rw [hb_0]; decide)]; exact v3
              · rw [mne _ (by omega) (by omega) (by omega) (by omega), mne _ (by omega) (by omega) (by omega) (by omega), mne _ (by omega) (by omega) (by omega) (by omega)]; exact p2 k hk
              · rw [mZ _ (by omega) (by omega), z8, m114]
                by_cases h9 : e = t
                · rw [if_pos h9, if_pos h9]; exact ⟨rfl, hvb⟩
                · rw [if_neg h9, if_neg h9]; exact p3 e he
              · rw [ywk_own hs2, ← hF]
                show lpr _ s (lsq _ _ _) n = _
                rw [lsq_cg (W' := fun k => XP 111 (24 * j + k)) (U' := fun k => vr (ywk (mpl Y (3 + 7 * j) 0 (2 ^ n) G) j (fun s => lpr (fun e => XP 114 (10 * j + e)) s (lsq (fun k => XP 111 (24 * j + k)) (fun k => vr Y (o k) s) P) n) T9 (2 ^ n)) (o k) s) (fun k hk => ⟨rfl, ?_⟩)]
                have g9 := (p2 k hk).2.1
                rw [ywk_vr (by omega) (by omega) (by omega), y0 _ (by omega) _ (by omega)]
          · have n1 : ¬ X (2 + 7 * j) 5 = nI 5 := fun h9 => by rw [q1] at h9; exact hk1 ((nI_eq (by omega) (by decide)).mp h9)
            have n2 : ¬ up2 X 0 8 (nI 5) 106 j = nI 5 := fun h9 => by rw [eX _ _ (by omega), q2] at h9; exact hk1 ((nI_eq (by omega) (by decide)).mp h9)
            exact mkI (c_price_c hn a6 hm a7 hj ht hv q4 n1) (r_price_c hn (by rw [eX _ _ (by omega)]; exact b6) hm (by rw [eX _ _ (by omega)]; exact b7) hj ht hv (by rw [eX _ _ (by omega)]; exact q5) n2) rfl (Rel_code _ h)
end PR
