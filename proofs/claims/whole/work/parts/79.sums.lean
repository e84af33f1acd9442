/-! sums and prices -/
theorem lpr_add {W : Nat → Int32} {s : Nat} {b x : Int64} : ∀ {n : Nat}, lpr W s (b + x) n = lpr W s b n + x := by
  intro n
  induction n with
  | zero => rfl
  | succ n ih =>
    show lpr W s (b + x) n + (if hb s n = true then (W n).toInt64 else 0) = lpr W s b n + (if hb s n = true then (W n).toInt64 else 0) + x
    rw [ih, Int64.add_assoc, Int64.add_comm x, ← Int64.add_assoc]
theorem lpr_upd {W W' : Nat → Int32} {s t : Nat} {b : Int64} {n : Nat} (h : ∀ u, u < n → u ≠ t → W' u = W u) : ∀ m, m ≤ n → lpr W' s b m = lpr W s b m + (if t < m ∧ hb s t = true then (W' t).toInt64 - (W t).toInt64 else 0) := by
  intro m
  induction m with
  | zero => intro _; rw [if_neg (by omega), Int64.add_zero]; rfl
  | succ m ih =>
    intro hm
    show lpr W' s b m + (if hb s m = true then (W' m).toInt64 else 0) = lpr W s b m + (if hb s m = true then (W m).toInt64 else 0) + _
    rw [ih (by omega)]
    by_cases h1 : t = m
    · subst h1
      rw [if_neg (by omega), Int64.add_zero]
      by_cases h2 : hb s t = true
      · rw [if_pos h2, if_pos h2, if_pos ⟨by omega, h2⟩, Int64.add_assoc, Int64.add_comm (W t).toInt64, Int64.sub_add_cancel]
      · rw [if_neg h2, if_neg h2, if_neg (fun h9 => h2 h9.2)]
        simp
    · rw [h m (by omega) (fun h9 => h1 h9.symm)]
      have e : (t < m + 1 ∧ hb s t = true) ↔ (t < m ∧ hb s t = true) := ⟨fun g => ⟨by omega, g.2⟩, fun g => ⟨by omega, g.2⟩⟩
      by_cases h3 : t < m ∧ hb s t = true
      · rw [if_pos h3, if_pos (e.mpr h3), Int64.add_assoc, Int64.add_comm ((W' t).toInt64 - (W t).toInt64), ← Int64.add_assoc]
      · rw [if_neg h3, if_neg (fun g => h3 (e.mp g)), Int64.add_zero, Int64.add_zero]
theorem lsq_s (W : Nat → Int32) (U : Nat → Int64) (P : Nat) : lsq W U (P + 1) = lsq W U P + (W P).toInt64 * U P := rfl
theorem lsq_z {W : Nat → Int32} {U : Nat → Int64} : ∀ {P : Nat}, (∀ k, k < P → U k = 0) → lsq W U P = 0 := by
  intro P
  induction P with
  | zero => intro _; rfl
  | succ P ih => intro h; rw [lsq_s, ih (fun k hk => h k (by omega)), h P (by omega), Int64.mul_zero]; rfl
theorem lpr_z {W : Nat → Int32} {b : Int64} : ∀ {n : Nat}, lpr W 0 b n = b := by
  intro n
  induction n with
  | zero => rfl
  | succ n ih =>
    show lpr W 0 b n + (if hb 0 n = true then _ else 0) = b
    rw [ih, if_neg (by rw [hb_0]; decide), Int64.add_zero]
/-- a sum worked out -/
theorem work_s {c : cx} {d : Nat} {X : nX} {Y : nY} {w n P : Nat} {o : Nat → Nat} {U : Nat → Nat → Int64} (hw : w < 12) (hn : n ≤ 10) (h6 : X 105 0 = nI n) (hkd : X 106 w = nI 5) (hP : P ≤ 24) (hmy : X 109 w = nI P) (ho : ∀ k, k < P → X 110 (24 * w + k) = nI (o k)) (ho2 : ∀ k, k < P → o k < w) (hU : ∀ k, k < P → ∀ s, s < 1024 → vr Y (o k) s = U k s) : sc c mX8_work (d + 5) [.ref (c_ad c 105), .int (nI w)] X Y (some (.int (bI (!(lany (p_lg (fun s => lpr (fun t => X 114 (10 * w + t)) s (lsq (fun k => X 111 (24 * w + k)) (fun k => U k s) P) n)) (2 ^ n)))))) X (ywk Y w (fun s => lpr (fun t => X 114 (10 * w + t)) s (lsq (fun k => X 111 (24 * w + k)) (fun k => U k s) P) n) (Y 122) (2 ^ n)) := by
  have h2n := p2_le hn
  refine work_c hw hn h6 hkd (by omega) (by omega) (fun i hi => ?_)
  refine scq (m_worked5 hw hP hmy hn h6 ho (fun k hk => by have := ho2 k hk; omega) (s := i) (by omega) hkd) ?_ rfl rfl
  rw [lsq_cg (W' := fun k => X 111 (24 * w + k)) (U' := fun k => U k i) (fun k hk => ⟨rfl, ?_⟩)]
  have hk2 := ho2 k hk
  rw [ywk_vr (by omega) (by omega) (by omega)]
  exact hU k hk i (by omega)
theorem sub32 {x y : Int32} (hx : x.toInt.natAbs ≤ 1000000) (hy : y.toInt.natAbs ≤ 1000000) : (x - y).toInt64 = x.toInt64 - y.toInt64 := by
  apply Int64.toInt_inj.mp
  rw [Int32.toInt_toInt64, sub_toInt (by rw [Int32.toInt_toInt64]; omega) (by rw [Int32.toInt_toInt64]; omega), Int32.toInt_toInt64, Int32.toInt_toInt64, Int32.toInt_sub]
  apply Int.bmod_eq_of_le <;> omega
section SU
variable {c : cx} {X : nX} {Y : nY}
theorem st_add (h : Rel X Y) (w u v : Int32) : stI c mX7_add mX8_add [.int w, .int u, .int v] X Y := by
  obtain ⟨n, m, b, r, hh, ho, hs, hw⟩ := id h
  obtain ⟨hn, hm, a6, a7, b6, b7, hcd⟩ := id hh
  have h2n := p2_le hn
  have h1n := p2_1 (n := n)
  cases hi : ix w m with
  | false => exact mkI (c_add_u hm a7 (Or.inl hi)) (r_add_u hm b7 (Or.inl hi)) rfl h
  | true =>
    cases hi2 : ix u m with
    | false => exact mkI (c_add_u hm a7 (Or.inr hi2)) (r_add_u hm b7 (Or.inr hi2)) rfl h
    | true =>
      obtain ⟨j, hj, rfl⟩ := ix_t hi (by omega)
      obtain ⟨p, hp, rfl⟩ := ix_t hi2 (by omega)
      cases hv : ix v 101 with
      | false => exact mkI (c_add_o hn a6 hm a7 hj hp hv) (r_add_o hn b6 hm b7 hj hp hv) rfl h
      | true =>
        have hvb := ix_abs hv
        obtain ⟨kd, P, hd, hbb, ⟨v1, v2, v3⟩, hkk⟩ := hw j hj
        obtain ⟨q1, q2, q3, q4, q5, q6, q7, q8, q9⟩ := id hbb
        cases hd with
        | true => exact mkI (c_add_n1 hn a6 hm a7 hj hp hv q4) (r_add_n1 hn b6 hm b7 hj hp hv q5) rfl h
        | false =>
          rcases Nat.lt_or_ge p j with hpj | hpj
          · have eX : ∀ (k : Int32) a, a ≠ 0 → up2 X 0 8 k a = X a := fun k a q => up2_ne a q
            by_cases hk1 : kd = 5
            · subst hk1
              obtain ⟨p1, o, p2, p3, p4⟩ := hkk.2.2.2.2 rfl
              rcases Nat.lt_or_ge P 4 with hP | hP
              · obtain ⟨w1, w2, w3⟩ := rl_w_v (hw p hp)
                -- the new values
                have hFv : ∀ (W : Nat → Int32) (T : Nat → Int32), (∀ k, k < P → W k = X 111 (24 * j + k)) → W P = v → (∀ t, t < 10 → T t = X 114 (10 * j + t)) → ∀ s, s < 2 ^ n → lpr T s (lsq W (fun k => vr Y (if k = P then p else o k) s) (P + 1)) n = vr Y j s + v.toInt64 * vr Y p s := fun W T hW hWP hT s hs2 => by
                  rw [lsq_s, hWP, if_pos rfl, lpr_add, p4 s hs2]
                  congr 1
                  rw [lsq_cg (W' := fun k => X 111 (24 * j + k)) (U' := fun k => vr Y (o k) s) (fun k hk => ⟨hW k hk, by rw [if_neg (by omega)]⟩)]
                  exact lpr_cg (fun t ht => hT t (by omega))
                have hFb : ∀ s, s < 2 ^ n → (vr Y j s + v.toInt64 * vr Y p s).toInt.natAbs ≤ 101000000000000 := fun s hs2 => by
                  have g1 := v2 s hs2
                  obtain ⟨g2, g3⟩ := mul_toInt (x := v.toInt64) (y := vr Y p s) (A := 100) (B := 1000000000000) (by rw [Int32.toInt_toInt64]; exact hvb) (w2 s hs2) (by decide)
                  rw [add_toInt (by omega) (by omega)]
                  omega
                have hlg : ∀ F : Nat → Int64, (∀ s, s < 2 ^ n → F s = vr Y j s + v.toInt64 * vr Y p s) → lany (p_with Y j p v) (2 ^ n) = lany (p_lg F) (2 ^ n) := fun F hF => by
                  unfold lany
                  rw [ff_congr (R := p_lg F) (fun i hi => ?_)]
                  have g1 := hFb i hi
                  unfold p_with p_lg
                  rw [v1 i hi, w1 i hi, hF i hi, wi_abs (B := 1000000000000) rfl rfl, szl_le (B := 1000000000000) (by omega) rfl]
                cases hl : lany (p_with Y j p v) (2 ^ n) with
                | true =>
                  generalize hXA : x_mo (up2 X 105 19 (nI 0)) j P (nI p) v (nI 0) = XA
                  have m110 : ∀ k, XA 110 (24 * j + k) = if k = P then nI p else X 110 (24 * j + k) := fun k => by rw [← hXA, mo_110, up2_ne _ (by omega)]
                  have m111 : ∀ k, XA 111 (24 * j + k) = if k = P then v else X 111 (24 * j + k) := fun k => by rw [← hXA, mo_111, up2_ne _ (by omega)]
                  have mne : ∀ q, q ≠ 105 → (q ≠ 109 ∧ q ≠ 110 ∧ q ≠ 111 ∧ q ≠ 112) → XA q = X q := fun q g1 g2 => by rw [← hXA, mo_ne g2, up2_ne _ g1]
                  have m105 : ∀ k, k ≠ 19 → XA 105 k = X 105 k := fun k hk => by rw [← hXA, mo_ne (by omega), up2_at, if_neg (by omega)]
                  have m109 : ∀ k, XA 109 k = if k = j then nI (P + 1) else X 109 k := fun k => by rw [← hXA, mo_109, up2_ne _ (by omega)]
                  have ho1 : ∀ k, k < P + 1 → XA 110 (24 * j + k) = nI (if k = P then p else o k) := fun k hk => by
                    rw [m110]
                    by_cases h9 : k = P
                    · rw [if_pos h9, if_pos h9]
                    · rw [if_neg h9, if_neg h9]; exact (p2 k (by omega)).1
                  have ho2 : ∀ k, k < P + 1 → (if k = P then p else o k) < j := fun k hk => by
                    split
                    · exact hpj
                    · exact (p2 k (by omega)).2.1
                  have hWW : ∀ Y0 : nY, (∀ q, q ≠ j → q < 12 → ∀ s, s < 1024 → vr Y0 q s = vr Y q s) → ∀ d, sc c mX8_work (d + 5) [.ref (c_ad c 105), .int (nI j)] XA Y0 (some (.int (bI (!(lany (p_lg (fun s => lpr (fun t => XA 114 (10 * j + t)) s (lsq (fun k => XA 111 (24 * j + k)) (fun k => vr Y (if k = P then p else o k) s) (P + 1)) n)) (2 ^ n)))))) XA (ywk Y0 j (fun s => lpr (fun t => XA 114 (10 * j + t)) s (lsq (fun k => XA 111 (24 * j + k)) (fun k => vr Y (if k = P then p else o k) s) (P + 1)) n) (Y0 122) (2 ^ n)) := fun Y0 hY0 d => work_s (d := d) (U := fun k s => vr Y (if k = P then p else o k) s) (by omega) hn (by rw [m105 _ (by omega)]; exact b6) (by rw [mne _ (by omega) (by omega)]; exact q2) (by omega) (by rw [m109, if_pos rfl]) ho1 ho2 (fun k hk s hs2 => hY0 _ (by have := ho2 k hk; omega) (by have := ho2 k hk; omega) s hs2)
                  have hFF : ∀ s, s < 2 ^ n → lpr (fun t => XA 114 (10 * j + t)) s (lsq (fun k => XA 111 (24 * j + k)) (fun k => vr Y (if k = P then p else o k) s) (P + 1)) n = vr Y j s + v.toInt64 * vr Y p s := hFv _ _ (fun k hk => by rw [m111, if_neg (by omega)]) (by rw [m111, if_pos rfl]) (fun t ht => by rw [mne _ (by omega) (by omega)])
                  rw [hlg _ hFF] at hl
                  generalize hFdef : (fun s => lpr (fun t => XA 114 (10 * j + t)) s (lsq (fun k => XA 111 (24 * j + k)) (fun k => vr Y (if k = P then p else o k) s) (P + 1)) n) = F at hWW hl
                  have e1 : ∀ (Y0 : nY) (T : Nat → Int64), (∀ q, q ≠ j → q < 12 → ∀ s, s < 1024 → vr Y0 q s = vr Y q s) → ∀ q, q ≠ j → q < 12 → ∀ s, s < 1024 → vr (ywk Y0 j F T (2 ^ n)) q s = vr Y q s := fun Y0 T hY0 q g1 g2 s g3 => by rw [ywk_vr g1 g3 (by omega)]; exact hY0 q g1 g2 s g3
                  have k1 := hWW Y (fun _ _ _ _ _ => rfl) 2
                  generalize hY1 : ywk Y j F (Y 122) (2 ^ n) = Y1 at k1
                  have y1 : ∀ q, q ≠ j → q < 12 → ∀ s, s < 1024 → vr Y1 q s = vr Y q s := by rw [← hY1]; exact e1 Y _ (fun _ _ _ _ _ => rfl)
                  have k2 := hWW Y1 y1 3
                  rw [hl] at k2
                  generalize hY2 : ywk Y1 j F (Y1 122) (2 ^ n) = Y2 at k2
                  have y2 : ∀ q, q ≠ j → q < 12 → ∀ s, s < 1024 → vr Y2 q s = vr Y q s := by rw [← hY2]; exact e1 Y1 _ y1
                  generalize hX3 : up2 XA 109 j (nI (P + 1 - 1)) = X3
                  have n109 : X3 109 j = nI P := by rw [← hX3, up2_at, if_pos ⟨rfl, rfl⟩, Nat.add_sub_cancel]
                  have n3 : ∀ q, q ≠ 109 → X3 q = XA q := fun q g => by rw [← hX3, up2_ne _ g]
                  have k3 := work_s (c := c) (d := 3) (X := X3) (Y := Y2) (w := j) (P := P) (o := o) (U := fun k s => vr Y (o k) s) (by omega) hn (by rw [n3 _ (by omega), m105 _ (by omega)]; exact b6) (by rw [n3 _ (by omega), mne _ (by omega) (by omega)]; exact q2) (by omega) n109 (fun k hk => by rw [n3 _ (by omega), m110, if_neg (by omega)]; exact (p2 k hk).1) (fun k hk => (p2 k hk).2.1) (fun k hk s hs2 => y2 _ (by have := (p2 k hk).2.1; omega) (by have := (p2 k hk).2.1; omega) s hs2)
                  have hF0 : ∀ s, s < 2 ^ n → lpr (fun t => X3 114 (10 * j + t)) s (lsq (fun k => X3 111 (24 * j + k)) (fun k => vr Y (o k) s) P) n = vr Y j s := fun s hs2 => by
                    rw [p4 s hs2, lsq_cg (W' := fun k => X 111 (24 * j + k)) (U' := fun k => vr Y (o k) s) (fun k hk => ⟨by rw [n3 _ (by omega), m111, if_neg (by omega)], rfl⟩)]
                    exact lpr_cg (fun t ht => by rw [n3 _ (by omega), mne _ (by omega) (by omega)])
                  have z2 := r_add_l (c := c) (d := 2) (X := X) (Y := Y) hn b6 hm b7 hj hp hv q5 hpj q2 q9 hP (Y1 := Y1) (by rw [hXA]; exact k1) (Y2 := Y2) (by rw [hXA]; exact k2) (by rw [hXA, hX3]; exact k3)
                  rw [hXA, hX3] at z2
                  refine mkI (c_add_l hn a6 hm a7 hj hp hv q4 hpj q1 q8 hP q6 (by rw [hlg _ hFF, hFdef]; exact hl)) z2 rfl ?_
                  -- all is as it was
                  have f105 : ∀ k, up2 X3 105 19 (X 105 19) 105 k = X 105 k := fun k => by
                    rw [up2_at]
                    by_cases h9 : k = 19
                    · rw [if_pos ⟨rfl, h9⟩, h9]
                    · rw [if_neg (fun h8 => h9 h8.2), n3 _ (by omega), m105 _ h9]
                  have fne : ∀ q, q ≠ 105 → (q ≠ 109 ∧ q ≠ 110 ∧ q ≠ 111 ∧ q ≠ 112) → up2 X3 105 19 (X 105 19) q = X q := fun q g1 g2 => by rw [up2_ne _ g1, n3 _ g2.1, mne _ g1 g2]
                  have wf : ∀ q, q < m → q ≠ j → wfr X (up2 X3 105 19 (X 105 19)) Y Y q := fun q hq hqj => by
                    rw [← hX3, ← hXA]
                    exact wfr_t (wfr_t (wfr_t (wfr_up2 (by omega)) (wfr_mo (by omega) hqj (by omega))) (wfr_up2 (by omega))) (wfr_up2 (by omega))
                  refine Rel_j ho hs hw hj q5 (fun q hq => fne q (by omega) (by omega)) (by rw [← hY2, ← hY1]; exact oY_t (oY_t oY_ywk oY_ywk) oY_ywk) ⟨hn, hm, by rw [fne _ (by omega) (by omega)]; exact a6, by rw [fne _ (by omega) (by omega)]; exact a7, by rw [f105]; exact b6, by rw [f105]; exact b7, by rw [f105, fne _ (by omega) (by omega)]; exact hcd⟩ (fun q hq hqj => ?_) (fun q => by rw [fne _ (by omega) (by omega)]) (fun q hq hqj => by rw [fne _ (by omega) (by omega)]) ⟨5, P, false, ⟨by rw [fne _ (by omega) (by omega)]; exact q1, by rw [fne _ (by omega) (by omega)]; exact q2, q3, by rw [fne _ (by omega) (by omega)]; exact q4, by rw [fne _ (by omega) (by omega)]; exact q5, by rw [fne _ (by omega) (by omega)]; exact q6, by rw [fne _ (by omega) (by omega)]; exact q7, by rw [fne _ (by omega) (by omega)]; exact q8, by rw [up2_ne _ (by omega)]; exact n109⟩, ⟨fun k hk => ?_, fun k hk => ?_, ?_⟩, fun e => by omega, fun e => by omega, fun e => by omega, fun e => by omega, fun _ => ⟨p1, o, fun k hk => ⟨?_, (p2 k hk).2.1, ?_, ?_⟩, fun t ht => ?_, fun s hs2 => ?_⟩⟩
                  · refine wfr_t (wf q hq hqj) ?_
                    rw [← hY2, ← hY1]
                    exact wfr_t (wfr_t (wfr_ywk hqj (by omega) (by omega)) (wfr_ywk hqj (by omega) (by omega))) (wfr_ywk hqj (by omega) (by omega))
                  · rw [ywk_own hk, hF0 k hk]
                    unfold ywk
                    rw [srw_ne (by omega), mpl_ne (by omega), ← hY2, ← hY1]
                    unfold ywk
                    rw [srw_ne (by omega), mpl_ne (by omega), srw_ne (by omega), mpl_ne (by omega)]
                    exact v1 k hk
                  · rw [ywk_own hk, hF0 k hk]; exact v2 k hk
                  · rw [ywk_own (by omega), hF0 0 (by omega)]; exact v3
                  · rw [up2_ne _ (by omega), n3 _ (by omega), m110, if_neg (by omega)]; exact (p2 k hk).1
                  · rw [fne _ (by omega) (by omega)]; exact (p2 k hk).2.2.1
                  · rw [up2_ne _ (by omega), n3 _ (by omega), m111, if_neg (by omega)]; exact (p2 k hk).2.2.2
                  · rw [fne _ (by omega) (by omega), fne _ (by omega) (by omega)]; exact p3 t ht
                  · rw [ywk_own hs2, hF0 s hs2, p4 s hs2]
                    rw [lsq_cg (W' := fun k => up2 X3 105 19 (X 105 19) 111 (24 * j + k)) (U' := fun k => vr (ywk Y2 j (fun s => lpr (fun t => X3 114 (10 * j + t)) s (lsq (fun k => X3 111 (24 * j + k)) (fun k => vr Y (o k) s) P) n) (Y2 122) (2 ^ n)) (o k) s) (fun k hk => ⟨?_, ?_⟩)]
                    · exact lpr_cg (fun t ht => by rw [fne _ (by omega) (by omega)])
                    · rw [up2_ne _ (by omega), n3 _ (by omega), m111, if_neg (by omega)]
                    · have g9 := (p2 k hk).2.1
                      rw [ywk_vr (by omega) (by omega) (by omega), y2 _ (by omega) (by omega) _ (by omega)]
                | false =>
                  have z1 := c_add_k (c := c) (d := 5) (X := X) (Y := Y) hn a6 hm a7 hj hp hv q4 hpj q1 q8 hP q6 hl
                  generalize hZ : up2 (up2 (up2 X 0 8 (nI 0)) (2 + 7 * j) 8 (nI (P + 1))) (2 + 7 * p) 4 (nI 1) = Z at z1
                  have zne : ∀ a, a ≠ 0 → a ≠ 2 + 7 * j → a ≠ 2 + 7 * p → Z a = X a := fun a g1 g2 g3 => by rw [← hZ, up2_ne _ g3, up2_ne _ g2, up2_ne _ g1]
                  generalize hGG : f_with Y j p v = G at z1
                  generalize hXA : x_mo (up2 Z 105 19 (nI 0)) j P (nI p) v (nI 0) = XA
                  have m110 : ∀ k, XA 110 (24 * j + k) = if k = P then nI p else X 110 (24 * j + k) := fun k => by rw [← hXA, mo_110, up2_ne _ (by omega), zne _ (by omega) (by omega) (by omega)]
                  have m111 : ∀ k, XA 111 (24 * j + k) = if k = P then v else X 111 (24 * j + k) := fun k => by rw [← hXA, mo_111, up2_ne _ (by omega), zne _ (by omega) (by omega) (by omega)]
                  have mZ : ∀ q, q ≠ 105 → (q ≠ 109 ∧ q ≠ 110 ∧ q ≠ 111 ∧ q ≠ 112) → XA q = Z q := fun q g1 g2 => by rw [← hXA, mo_ne g2, up2_ne _ g1]
                  have mne : ∀ q, q ≠ 0 → q ≠ 2 + 7 * j → q ≠ 2 + 7 * p → q ≠ 105 → (q ≠ 109 ∧ q ≠ 110 ∧ q ≠ 111 ∧ q ≠ 112) → XA q = X q := fun q g1 g2 g3 g4 g5 => by rw [mZ q g4 g5, zne q g1 g2 g3]
                  have m105 : ∀ k, XA 105 k = if k = 19 then nI 0 else X 105 k := fun k => by
                    rw [← hXA, mo_ne (by omega), up2_at]
                    by_cases h9 : k = 19
                    · rw [if_pos ⟨rfl, h9⟩, if_pos h9]
                    · rw [if_neg (fun h8 => h9 h8.2), if_neg h9, zne _ (by omega) (by omega) (by omega)]
                  have m109 : ∀ k, XA 109 k = if k = j then nI (P + 1) else X 109 k := fun k => by rw [← hXA, mo_109, up2_ne _ (by omega), zne _ (by omega) (by omega) (by omega)]
                  have ho1 : ∀ k, k < P + 1 → XA 110 (24 * j + k) = nI (if k = P then p else o k) := fun k hk => by
                    rw [m110]
                    by_cases h9 : k = P
                    · rw [if_pos h9, if_pos h9]
                    · rw [if_neg h9, if_neg h9]; exact (p2 k (by omega)).1
                  have ho2 : ∀ k, k < P + 1 → (if k = P then p else o k) < j := fun k hk => by
                    split
                    · exact hpj
                    · exact (p2 k (by omega)).2.1
                  have hWW : ∀ Y0 : nY, (∀ q, q ≠ j → q < 12 → ∀ s, s < 1024 → vr Y0 q s = vr Y q s) → ∀ d, sc c mX8_work (d + 5) [.ref (c_ad c 105), .int (nI j)] XA Y0 (some (.int (bI (!(lany (p_lg (fun s => lpr (fun t => XA 114 (10 * j + t)) s (lsq (fun k => XA 111 (24 * j + k)) (fun k => vr Y (if k = P then p else o k) s) (P + 1)) n)) (2 ^ n)))))) XA (ywk Y0 j (fun s => lpr (fun t => XA 114 (10 * j + t)) s (lsq (fun k => XA 111 (24 * j + k)) (fun k => vr Y (if k = P then p else o k) s) (P + 1)) n) (Y0 122) (2 ^ n)) := fun Y0 hY0 d => work_s (d := d) (U := fun k s => vr Y (if k = P then p else o k) s) (by omega) hn (by rw [m105, if_neg (by omega)]; exact b6) (by rw [mne _ (by omega) (by omega) (by omega) (by omega) (by omega)]; exact q2) (by omega) (by rw [m109, if_pos rfl]) ho1 ho2 (fun k hk s hs2 => hY0 _ (by have := ho2 k hk; omega) (by have := ho2 k hk; omega) s hs2)
                  have hFF : ∀ s, s < 2 ^ n → lpr (fun t => XA 114 (10 * j + t)) s (lsq (fun k => XA 111 (24 * j + k)) (fun k => vr Y (if k = P then p else o k) s) (P + 1)) n = vr Y j s + v.toInt64 * vr Y p s := hFv _ _ (fun k hk => by rw [m111, if_neg (by omega)]) (by rw [m111, if_pos rfl]) (fun t ht => by rw [mne _ (by omega) (by omega) (by omega) (by omega) (by omega)])
                  have hl0 := hl
                  rw [hlg _ hFF] at hl
                  have hval0 : lpr (fun t => XA 114 (10 * j + t)) 0 (lsq (fun k => XA 111 (24 * j + k)) (fun k => vr Y (if k = P then p else o k) 0) (P + 1)) n = 0 := by rw [hFF 0 (by omega), v3, w3, Int64.mul_zero]; rfl
                  generalize hFdef : (fun s => lpr (fun t => XA 114 (10 * j + t)) s (lsq (fun k => XA 111 (24 * j + k)) (fun k => vr Y (if k = P then p else o k) s) (P + 1)) n) = F at hWW hl
                  have hFF2 : ∀ s, s < 2 ^ n → F s = vr Y j s + v.toInt64 * vr Y p s := fun s hs2 => by rw [← hFdef]; exact hFF s hs2
                  have hF0 : F 0 = 0 := by rw [← hFdef]; exact hval0
                  have y0 : ∀ q, q ≠ j → q < 12 → ∀ s, s < 1024 → vr (mpl Y (3 + 7 * j) 0 (2 ^ n) G) q s = vr Y q s := fun q g1 g2 s g3 => by unfold vr; rw [mpl_ne (by omega)]
                  have k1 := hWW _ y0 2
                  generalize hY1 : ywk (mpl Y (3 + 7 * j) 0 (2 ^ n) G) j F (mpl Y (3 + 7 * j) 0 (2 ^ n) G 122) (2 ^ n) = Y1 at k1
                  have y1 : ∀ q, q ≠ j → q < 12 → ∀ s, s < 1024 → vr Y1 q s = vr Y q s := fun q g1 g2 s g3 => by rw [← hY1, ywk_vr g1 g3 (by omega)]; exact y0 q g1 g2 s g3
                  have k2 := hWW Y1 y1 3
                  rw [hl] at k2
                  generalize hT2 : Y1 122 = T2 at k2
                  have z2 := r_add_k (c := c) (d := 2) (X := Z) (Y := mpl Y (3 + 7 * j) 0 (2 ^ n) G) hn (by rw [zne _ (by omega) (by omega) (by omega)]; exact b6) hm (by rw [zne _ (by omega) (by omega) (by omega)]; exact b7) hj hp hv (by rw [zne _ (by omega) (by omega) (by omega)]; exact q5) hpj (by rw [zne _ (by omega) (by omega) (by omega)]; exact q2) (by rw [zne _ (by omega) (by omega) (by omega)]; exact q9) hP (Y1 := Y1) (by rw [hXA]; exact k1) (by rw [hXA]; exact k2)
                  rw [hXA] at z2
                  refine mkI z1 z2 rfl ?_
                  generalize hX2 : up2 XA 107 p (nI 1) = X2
                  generalize hY2 : ywk Y1 j F T2 (2 ^ n) = Y2
                  have ene : ∀ q, q ≠ 0 → q ≠ 2 + 7 * j → q ≠ 2 + 7 * p → q ≠ 105 → q ≠ 107 → (q ≠ 109 ∧ q ≠ 110 ∧ q ≠ 111 ∧ q ≠ 112) → X2 q = X q := fun q g1 g2 g3 g4 g5 g6 => by rw [← hX2, up2_ne _ g5, mne q g1 g2 g3 g4 g6]
                  have e107 : ∀ q, X2 107 q = if q = p then bI true else X 107 q := fun q => by
                    rw [← hX2, up2_at]
                    by_cases h9 : q = p
                    · rw [if_pos ⟨rfl, h9⟩, if_pos h9]; rfl
                    · rw [if_neg (fun h8 => h9 h8.2), if_neg h9, mne _ (by omega) (by omega) (by omega) (by omega) (by omega)]
                  have eZ : ∀ q, q ≠ 105 → q ≠ 107 → (q ≠ 109 ∧ q ≠ 110 ∧ q ≠ 111 ∧ q ≠ 112) → X2 q = Z q := fun q g1 g2 g3 => by rw [← hX2, up2_ne _ g2, mZ q g1 g3]
                  have e105 : ∀ k, X2 105 k = if k = 19 then nI 0 else X 105 k := fun k => by rw [← hX2, up2_ne _ (by omega), m105]
                  have e0 : ∀ k, X2 0 k = if k = 8 then nI 0 else X 0 k := fun k => by
                    rw [eZ _ (by omega) (by omega) (by omega), ← hZ, up2_ne _ (by omega)]; exact Z_0
                  have ejj : ∀ k, X2 (2 + 7 * j) k = if k = 8 then nI (P + 1) else X (2 + 7 * j) k := fun k => by
                    rw [eZ _ (by omega) (by omega) (by omega), ← hZ, up2_ne _ (by omega)]; exact Z_j
                  have e4 : ∀ q, q < m → q ≠ j → ∀ k, X2 (2 + 7 * q) k = if q = p ∧ k = 4 then nI 1 else X (2 + 7 * q) k := fun q hq hqj k => by
                    rw [eZ _ (by omega) (by omega) (by omega), ← hZ, up2_at]
                    by_cases h9 : q = p ∧ k = 4
                    · rw [if_pos ⟨by omega, h9.2⟩, if_pos h9]
                    · rw [if_neg (by omega), if_neg h9, up2_ne _ (by omega), up2_ne _ (by omega)]
                  have y2 : ∀ q, q ≠ j → q < 12 → ∀ s, s < 1024 → vr Y2 q s = vr Y q s := fun q g1 g2 s g3 => by rw [← hY2, ywk_vr g1 g3 (by omega)]; exact y1 q g1 g2 s g3
                  have y3 : ∀ q, q ≠ j → q < 12 → Y2 (3 + 7 * q) = Y (3 + 7 * q) := fun q g1 g2 => by
                    rw [← hY2, ← hY1]
                    unfold ywk
                    rw [srw_ne (by omega)]; funext k
                    rw [mpl_ne (by omega), srw_ne (by omega), mpl_ne (by omega), mpl_ne (by omega)]
                  have wf : ∀ q, q < m → q ≠ j → wfr X X2 Y Y2 q := fun q hq hqj => by
                    refine ⟨fun f hf => by rw [e4 q hq hqj, if_neg (by omega)], ene _ (by omega) (by omega) (by omega) (by omega) (by omega) (by omega), ene _ (by omega) (by omega) (by omega) (by omega) (by omega) (by omega), ene _ (by omega) (by omega) (by omega) (by omega) (by omega) (by omega), y3 q hqj (by omega), by rw [ene _ (by omega) (by omega) (by omega) (by omega) (by omega) (by omega)], ?_, fun k hk => ⟨?_, ?_, ?_⟩, fun k hk => by rw [ene _ (by omega) (by omega) (by omega) (by omega) (by omega) (by omega)], fun k hk => by rw [ene _ (by omega) (by omega) (by omega) (by omega) (by omega) (by omega)], fun s hs2 => y2 q hqj (by omega) s hs2⟩
                    · rw [← hX2, up2_ne _ (by omega), m109, if_neg hqj]
                    all_goals
                      rw [← hX2, up2_ne _ (by omega), ← hXA]
                      unfold x_mo
                      simp only [up2_at]
                      repeat rw [if_neg (by omega)]
                      rw [zne _ (by omega) (by omega) (by omega)]
                  refine Rel_wo ho hs (fun q hq => ene q (by omega) (by omega) (by omega) (by omega) (by omega) (by omega)) (by rw [← hY2, ← hY1]; exact oY_t (oY_t (oY_mpl (by omega)) oY_ywk) oY_ywk) (m := m) ⟨hn, hm, by rw [e0, if_neg (by omega)]; exact a6, by rw [e0, if_neg (by omega)]; exact a7, by rw [e105, if_neg (by omega)]; exact b6, by rw [e105, if_neg (by omega)]; exact b7, by rw [e0, if_pos rfl, e105, if_pos rfl]⟩ (fun q hq => ?_)
                  by_cases hqj : q = j
                  · subst hqj
                    have h107 : ∀ k, X 107 k = bI true → X2 107 k = bI true := fun k hk => by
                      rw [e107]
                      split
                      · rfl
                      · exact hk
                    refine ⟨5, P + 1, false, ⟨by rw [ejj, if_neg (by omega)]; exact q1, by rw [ene _ (by omega) (by omega) (by omega) (by omega) (by omega) (by omega)]; exact q2, q3, by rw [ejj, if_neg (by omega)]; exact q4, by rw [e107, if_neg (by omega)]; exact q5, by rw [ejj, if_neg (by omega)]; exact q6, by rw [ejj, if_neg (by omega)]; exact q7, by rw [ejj, if_pos rfl], by rw [← hX2, up2_ne _ (by omega), m109, if_pos rfl]⟩, ⟨fun k hk => ?_, fun k hk => ?_, ?_⟩, fun e => by omega, fun e => by omega, fun e => by omega, fun e => by omega, fun _ => ⟨by omega, fun k => if k = P then p else o k, fun k hk => ⟨?_, ho2 k hk, ?_, ?_⟩, fun t ht => ?_, fun s hs2 => ?_⟩⟩
                    · rw [← hY2, ywk_own hk, hFF2 k hk]
                      unfold ywk
                      rw [srw_ne (by omega), mpl_ne (by omega), ← hY1]
                      unfold ywk
                      rw [srw_ne (by omega), mpl_ne (by omega), mpl_lt (by omega) hk, ← hGG]
                      unfold f_with
                      rw [v1 k hk, w1 k hk]
                    · rw [← hY2, ywk_own hk]
                      have hnn : ffind (p_with Y q p v) (2 ^ n) = none := by
                        unfold lany at hl0
                        cases h8 : ffind (p_with Y q p v) (2 ^ n) with
                        | none => rfl
                        | some k => rw [h8] at hl0; cases hl0
                      have g1 := ff_none.mp hnn k hk
                      unfold p_with at g1
                      rw [v1 k hk, w1 k hk, ← hFF2 k hk, wi_abs (B := 1000000000000) rfl rfl] at g1
                      simpa using g1
                    · rw [← hY2, ywk_own (by omega)]; exact hF0
                    · rw [← hX2, up2_ne _ (by omega)]; exact ho1 k hk
                    · show X2 107 (if k = P then p else o k) = bI true
                      by_cases h9 : k = P
                      · rw [if_pos h9, e107, if_pos rfl]
                      · rw [if_neg h9]; exact h107 _ (p2 k (by omega)).2.2.1
                    · rw [← hX2, up2_ne _ (by omega), m111]
                      split
                      · exact hvb
                      · exact (p2 k (by omega)).2.2.2
                    · rw [ene _ (by omega) (by omega) (by omega) (by omega) (by omega) (by omega), ene _ (by omega) (by omega) (by omega) (by omega) (by omega) (by omega)]; exact p3 t ht
                    · have e9 : vr Y2 q s = F s := by rw [← hY2, ywk_own hs2]
                      rw [e9, ← hFdef]
                      show lpr _ s (lsq _ _ _) n = _
                      rw [lsq_cg (W' := fun k => X2 111 (24 * q + k)) (U' := fun k => vr Y2 (if k = P then p else o k) s) (fun k hk => ⟨by rw [← hX2, up2_ne _ (by omega)], ?_⟩)]
                      · exact lpr_cg (fun t ht => by rw [← hX2, up2_ne _ (by omega)])
                      · have g9 := ho2 k hk
                        rw [y2 _ (by omega) (by omega) _ (by omega)]
                  · refine rl_w_f (by omega) hn (wf q hq hqj) (fun k hk hh9 => ⟨?_, fun s hs2 => ?_⟩) ?_ (hw q hq)
                    · rw [e107]
                      split
                      · rfl
                      · exact hh9
                    · have hkj : k ≠ j := fun h8 => by rw [h8, q5] at hh9; exact absurd hh9 (by decide)
                      exact y2 k hkj (by omega) s hs2
                    · by_cases hqp : q = p
                      · exact ⟨true, by rw [e4 q hq hqj, if_pos ⟨hqp, rfl⟩]; rfl, by rw [e107, if_pos hqp]⟩
                      · obtain ⟨kd', P', hd', ⟨b1, b2, b3, b4, b5, -⟩, -⟩ := hw q hq
                        exact ⟨hd', by rw [e4 q hq hqj, if_neg (by omega)]; exact b4, by rw [e107, if_neg hqp]; exact b5⟩
              · have hPP : P = 4 := by omega
                have z2 := r_add_f (c := c) (d := 2) (X := X) (Y := Y) hn b6 hm b7 hj hp hv q5 hpj q2 q9 hPP
                rw [up2_back] at z2
                exact mkI (c_add_f hn a6 hm a7 hj hp hv q4 hpj q1 q8 hPP) z2 rfl h
            · have n1 : ¬ X (2 + 7 * j) 5 = nI 5 := fun h9 => by rw [q1] at h9; exact hk1 ((nI_eq (by omega) (by decide)).mp h9)
              have n2 : ¬ up2 X 0 8 (nI 5) 106 j = nI 5 := fun h9 => by rw [eX _ _ (by omega), q2] at h9; exact hk1 ((nI_eq (by omega) (by decide)).mp h9)
              exact mkI (c_add_c hn a6 hm a7 hj hp hv q4 hpj n1) (r_add_c hn (by rw [eX _ _ (by omega)]; exact b6) hm (by rw [eX _ _ (by omega)]; exact b7) hj hp hv (by rw [eX _ _ (by omega)]; exact q5) hpj n2) rfl (Rel_code _ h)
          · exact mkI (c_add_n2 hn a6 hm a7 hj hp hv q4 hpj) (r_add_n2 hn b6 hm b7 hj hp hv q5 hpj) rfl h
end SU
