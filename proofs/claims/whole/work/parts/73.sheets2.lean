/-! corners, mixes, things, sheets -/
section CM
variable {c : cx} {X : nX} {Y : nY}
theorem st_corner (h : Rel X Y) (w : Int32) : stI c mX7_corner mX8_corner [.int w] X Y := by
  obtain ⟨n, m, b, r, ⟨hn, hm, a6, a7, b6, b7, hcd⟩, ho, hs, hw⟩ := id h
  obtain ⟨o1, o2, o3, o4, o5, o6, o7⟩ := ho
  cases hi : ix w m with
  | false => exact mkI (c_corner_u hm a7 hi) (r_corner_u hm b7 hi) rfl h
  | true =>
    obtain ⟨j, hj, rfl⟩ := ix_t hi (by omega)
    obtain ⟨hv, hB, hv0⟩ := rl_w_v (hw j hj)
    have h1 := c_corner_k (c := c) (d := 6) (X := X) (Y := Y) hn a6 hm a7 hj o1 (fun k hk => (o5 k hk).1) (fun k hk => by have := (o5 k hk).2.2; omega)
    generalize hC : cor (Y (3 + 7 * j)) r (Y 104) n = C at h1
    generalize hX1 : up2 X 101 4 (X 101 4 * nI 0 + nI 1) = X1 at h1
    generalize hY1 : mpl (srw Y 104 C) 103 0 n (f_bl (srw Y 104 C) (nI 0) (nI 1)) = Y1 at h1
    have eX : ∀ a, a ≠ 101 → X1 a = X a := fun a ha => by rw [← hX1, up2_ne _ ha]
    have eY : ∀ a, a ≠ 103 → a ≠ 104 → Y1 a = Y a := fun a g1 g2 => by rw [← hY1]; funext k; rw [mpl_ne g1, srw_ne g2]
    have evr : vr Y1 j = vr Y j := by unfold vr; rw [eY 108 (by omega) (by omega)]
    have h2 := r_corner_k (c := c) (d := 6) (X := X1) (Y := Y1) hn (by rw [eX _ (by omega)]; exact b6) hm (by rw [eX _ (by omega)]; exact b7) hj (r := r) (fun k hk => by rw [eX _ (by omega)]; exact (o5 k hk).2.1) (fun k hk => by have := (o5 k hk).2.2; omega)
    generalize hC2 : cor (vr Y1 j) r (Y1 125) n = C2 at h2
    refine mkI h1 h2 rfl ?_
    refine Rel_os (X := X) (Y := Y) (b := 1) (r := r) ⟨hn, hm, a6, a7, b6, b7, hcd⟩ hs hw (fun a g1 _ _ => eX a g1) (fun a g1 g2 g3 g4 g5 => ?_) ⟨?_, ?_, ?_, by omega, fun k hk => ?_, o6, fun t ht => ?_⟩
    · rw [upl_ne _ g3]; funext k; rw [mpl_ne g4, srw_ne g5, eY a g1 g2]
    · rw [← hX1, up2_at, if_neg (by omega)]; exact o1
    · rw [← hX1, up2_at, if_pos ⟨rfl, rfl⟩, o2, pk_mul, nI_add]; rfl
    · rw [upl_at, if_pos ⟨rfl, rfl⟩]; rfl
    · rw [eX _ (by omega), eX _ (by omega)]; exact o5 k hk
    · have e1 : upl (mpl (srw Y1 125 C2) 118 0 n (fun t => srw Y1 125 C2 125 t)) 105 15 1 103 t = C t := by
        rw [upl_ne _ (by omega), mpl_ne (by omega), srw_ne (by omega), ← hY1, mpl_lt (by omega) ht]
        unfold f_bl
        rw [srw_at, show (nI 0).toInt64 = 0 from rfl, show (nI 1).toInt64 = 1 from rfl, Int64.mul_zero, Int64.mul_one, Int64.zero_add]
      have e2 : upl (mpl (srw Y1 125 C2) 118 0 n (fun t => srw Y1 125 C2 125 t)) 105 15 1 118 t = C2 t := by
        rw [upl_ne _ (by omega), mpl_lt (by omega) ht, srw_at]
      rw [e1, e2, ← hC, ← hC2, evr]
      obtain ⟨g1, g2⟩ := cor_cg (R0 := Y 104) (R1 := Y1 125) hv hB (fun k hk => (o5 k hk).2.2) n (Nat.le_refl _) t (o6 t ht)
      exact ⟨g1, by omega⟩
theorem st_mix (h : Rel X Y) (w f g : Int32) : stI c mX7_mix mX8_mix [.int w, .int f, .int g] X Y := by
  obtain ⟨n, m, b, r, ⟨hn, hm, a6, a7, b6, b7, hcd⟩, ho, hs, hw⟩ := id h
  obtain ⟨o1, o2, o3, o4, o5, o6, o7⟩ := id ho
  cases hi : ix w m with
  | false => exact mkI (c_mix_u hm a7 hi) (r_mix_u hm b7 hi) rfl h
  | true =>
    obtain ⟨j, hj, rfl⟩ := ix_t hi (by omega)
    cases hf : ix f 1001 with
    | false => exact mkI (c_mix_o1 hm a7 hj (Or.inl hf)) (r_mix_o1 hm b7 hj (Or.inl hf)) rfl h
    | true =>
      cases hg : ix g 1001 with
      | false => exact mkI (c_mix_o1 hm a7 hj (Or.inr hg)) (r_mix_o1 hm b7 hj (Or.inr hg)) rfl h
      | true =>
        obtain ⟨p, hp, rfl⟩ := ix_t hf (by omega)
        obtain ⟨q, hq, rfl⟩ := ix_t hg (by omega)
        by_cases hz : p = 0 ∧ q = 0
        · obtain ⟨rfl, rfl⟩ := hz
          exact mkI (c_mix_o2 hm a7 hj) (r_mix_o2 hm b7 hj) rfl h
        · obtain ⟨hv, hB, hv0⟩ := rl_w_v (hw j hj)
          have hbp : b * p ≤ 1000000 * 1000 := Nat.mul_le_mul o4 (by omega)
          have cla := fun hz hl => c_mix_la (c := c) (d := 5) (X := X) (Y := Y) hn a6 hm a7 hj o1 (fun k hk => (o5 k hk).1) (fun k hk => by have := (o5 k hk).2.2; omega) hf hg hz hl
          have cka := fun hz hl => c_mix_ka (c := c) (d := 5) (X := X) (Y := Y) hn a6 hm a7 hj o1 (fun k hk => (o5 k hk).1) (fun k hk => by have := (o5 k hk).2.2; omega) hf hg hz hl
          have clb := fun hz hz2 hl => c_mix_lb (c := c) (d := 5) (X := X) (Y := Y) hn a6 hm a7 hj o1 (fun k hk => (o5 k hk).1) (fun k hk => by have := (o5 k hk).2.2; omega) hf hg hz hz2 hl
          have ckb := fun hz hz2 hl => c_mix_kb (c := c) (d := 5) (X := X) (Y := Y) hn a6 hm a7 hj o1 (fun k hk => (o5 k hk).1) (fun k hk => by have := (o5 k hk).2.2; omega) hf hg hz hz2 hl
          have eB1 : X 101 4 * nI p + nI q = nI (b * p + q) := by rw [o2, pk_mul, nI_add]
          have hS1 : scr X X Y (srw Y 104 (cor (Y (3 + 7 * j)) r (Y 104) n)) := scr_104
          have hcg : ∀ (R1 : Nat → Int64) t, t < n → cor (Y (3 + 7 * j)) r (Y 104) n t = cor (vr Y j) r R1 n t ∧ (cor (vr Y j) r R1 n t).toInt.natAbs ≤ 2000000000000 := fun R1 t ht => cor_cg hv hB (fun k hk => (o5 k hk).2.2) n (Nat.le_refl _) t (o6 t ht)
          generalize hC : cor (Y (3 + 7 * j)) r (Y 104) n = C at cla cka clb ckb hS1 hcg
          have e105 : srw Y 104 C 105 = Y 105 := srw_ne (by omega)
          have e118 : srw Y 104 C 118 = Y 118 := srw_ne (by omega)
          have e103 : srw Y 104 C 103 = Y 103 := srw_ne (by omega)
          have e104 : srw Y 104 C 104 = C := srw_at
          have evr : vr (srw Y 104 C) j = vr Y j := scr_vr hS1 j
          have hR1 := Rel_scr hS1 h
          generalize hY1 : srw Y 104 C = Y1 at cla cka clb ckb hS1 e105 e118 e103 e104 evr hR1
          -- the class's blend moves the class's shares first
          have eB2 : Y1 105 15 * (nI p).toInt64 + (nI q).toInt64 = lN (b * p + q) := by rw [e105, o3, nI_l (by omega), nI_l (by omega), lN_mul, lN_add]
          have fval : ∀ (R1 : Nat → Int64) t, t < n → Y 103 t * (nI p).toInt64 + C t * (nI q).toInt64 = Y 118 t * (nI p).toInt64 + cor (vr Y j) r R1 n t * (nI q).toInt64 ∧ (Y 103 t * (nI p).toInt64 + C t * (nI q).toInt64).toInt.natAbs ≤ 1002000000000000000 := fun R1 t ht => by
            obtain ⟨g1, g2⟩ := hcg R1 t ht
            obtain ⟨g3, g4⟩ := o7 t ht
            rw [g1, g3]
            refine ⟨rfl, ?_⟩
            have p1 : (nI p).toInt64.toInt.natAbs ≤ 1000 := by rw [nI_l (by omega), lN_toInt (by omega)]; omega
            have q1 : (nI q).toInt64.toInt.natAbs ≤ 1000 := by rw [nI_l (by omega), lN_toInt (by omega)]; omega
            obtain ⟨m1, m2⟩ := mul_toInt g4 p1 (by decide)
            obtain ⟨m3, m4⟩ := mul_toInt g2 q1 (by decide)
            rw [add_toInt (by omega) (by omega)]
            omega
          have hbig : decide (lN (b * p + q) ≤ 1000000) = !(decide ((1000000 : Int32) < nI (b * p + q))) := by
            have e1 : ((1000000 : Int32) < nI (b * p + q)) ↔ 1000000 < b * p + q := nI_ltI (a := 1000000) (by decide) (by omega)
            have e2 : (lN (b * p + q) ≤ 1000000) ↔ b * p + q ≤ 1000000 := lN_le (b := 1000000) (by omega) (by decide)
            by_cases h9 : b * p + q ≤ 1000000
            · rw [decide_eq_true (e2.mpr h9), decide_eq_false (fun h8 => by have := e1.mp h8; omega)]; rfl
            · rw [decide_eq_false (fun h8 => h9 (e2.mp h8)), decide_eq_true (e1.mpr (by omega))]; rfl
          have hlany : ∀ (Y3 : nY), Y3 118 = Y 118 → (∀ R1 : Nat → Int64, Y3 125 = cor (vr Y j) r R1 n → lany (p_bl Y1 (nI p) (nI q)) n = lany (p_mb Y3 (nI p) (nI q)) n) := fun Y3 k1 R1 k2 => by
            unfold lany
            rw [ff_congr (R := p_mb Y3 (nI p) (nI q)) (fun t ht => ?_)]
            obtain ⟨g1, g2⟩ := fval R1 t ht
            unfold p_bl p_mb f_bl f_mb
            rw [k1, k2, e103, e104, ← g1, wi_abs (B := 1000000000000000) rfl rfl, szl_le (B := 1000000000000000) (by omega) rfl]
          have hbd : lany (p_bl Y1 (nI p) (nI q)) n = false → ∀ t, t < n → (Y 103 t * (nI p).toInt64 + C t * (nI q).toInt64).toInt.natAbs ≤ 1000000000000000 := fun hl t ht => by
            have hnn : ffind (p_bl Y1 (nI p) (nI q)) n = none := by
              unfold lany at hl
              cases h9 : ffind (p_bl Y1 (nI p) (nI q)) n with
              | none => rfl
              | some k => rw [h9] at hl; cases hl
            have := ff_none.mp hnn t ht
            unfold p_bl f_bl at this
            rw [e103, e104, wi_abs (B := 1000000000000000) rfl rfl] at this
            simpa using this
          rw [eB1] at cla cka clb ckb
          cases hG : (decide ((1000000 : Int32) < nI (b * p + q)) || lany (p_bl Y1 (nI p) (nI q)) n) with
          | true =>
            have hgr : ∀ Y3 : nY, Y3 118 = Y 118 → (∀ R1 : Nat → Int64, Y3 125 = cor (vr Y j) r R1 n → (decide (Y1 105 15 * (nI p).toInt64 + (nI q).toInt64 ≤ 1000000) && !(lany (p_mb Y3 (nI p) (nI q)) n)) = false) := fun Y3 k1 R1 k2 => by
              rw [eB2, hbig, ← hlany Y3 k1 R1 k2, ← Bool.not_or, hG]; rfl
            have hl2 := hgr (srw Y1 125 (cor (vr Y1 j) r (Y1 125) n)) (by rw [srw_ne (by omega), e118]) (Y1 125) (by rw [srw_at, evr])
            have h6' : X 105 0 = nI n := b6
            by_cases hp0 : p = 0
            · have z1 : nI p = 0 := by rw [hp0]; rfl
              have z2 : ¬ nI q = 0 := fun h9 => hz ⟨hp0, (nI_eq (b := 0) (by omega) (by decide)).mp h9⟩
              exact mkI (clb z1 z2 hG) (r_mix_lb hn b6 hm b7 hj (r := r) (fun k hk => (o5 k hk).2.1) (fun k hk => by have := (o5 k hk).2.2; omega) hf hg z1 z2 hl2) rfl (Rel_scr scr_125 hR1)
            · have z1 : ¬ nI p = 0 := fun h9 => hp0 ((nI_eq (b := 0) (by omega) (by decide)).mp h9)
              exact mkI (cla z1 hG) (r_mix_la hn b6 hm b7 hj (r := r) (fun k hk => (o5 k hk).2.1) (fun k hk => by have := (o5 k hk).2.2; omega) hf hg z1 hl2) rfl (Rel_scr scr_125 hR1)
          | false =>
            obtain ⟨hG1, hG2⟩ := Bool.or_eq_false_iff.mp hG
            have hb2 : b * p + q ≤ 1000000 := by
              have : ¬ (1000000 : Int32) < nI (b * p + q) := of_decide_eq_false hG1
              have e1 : ((1000000 : Int32) < nI (b * p + q)) ↔ 1000000 < b * p + q := nI_ltI (a := 1000000) (by decide) (by omega)
              rw [e1] at this
              omega
            generalize hX2 : up2 X 101 4 (nI (b * p + q)) = X2 at cka ckb
            generalize hY2 : mpl Y1 103 0 n (f_bl Y1 (nI p) (nI q)) = Y2 at cka ckb
            have fX : ∀ a, a ≠ 101 → X2 a = X a := fun a ha => by rw [← hX2, up2_ne _ ha]
            have fY : ∀ a, a ≠ 103 → Y2 a = Y1 a := fun a ha => by rw [← hY2]; funext k; rw [mpl_ne ha]
            have fvr : vr Y2 j = vr Y j := by unfold vr; rw [fY 108 (by omega)]; exact evr
            have hl2 : (decide (Y2 105 15 * (nI p).toInt64 + (nI q).toInt64 ≤ 1000000) && !(lany (p_mb (srw Y2 125 (cor (vr Y2 j) r (Y2 125) n)) (nI p) (nI q)) n)) = true := by
              rw [fY 105 (by omega), eB2, hbig, ← hlany (srw Y2 125 (cor (vr Y2 j) r (Y2 125) n)) (by rw [srw_ne (by omega), fY _ (by omega), e118]) (Y2 125) (by rw [srw_at, fvr]), hG1, hG2]; rfl
            have hfin : Rel X2 (upl (mpl (srw Y2 125 (cor (vr Y2 j) r (Y2 125) n)) 118 0 n (f_mb (srw Y2 125 (cor (vr Y2 j) r (Y2 125) n)) (nI p) (nI q))) 105 15 (Y2 105 15 * (nI p).toInt64 + (nI q).toInt64)) := by
              refine Rel_os (X := X) (Y := Y) (b := b * p + q) (r := r) ⟨hn, hm, a6, a7, b6, b7, hcd⟩ hs hw (fun a g1 _ _ => fX a g1) (fun a g1 g2 g3 g4 g5 => ?_) ⟨?_, ?_, ?_, hb2, fun k hk => ?_, o6, fun t ht => ?_⟩
              · rw [upl_ne _ g3]; funext k; rw [mpl_ne g4, srw_ne g5, fY a g1, ← hY1, srw_ne g2]
              · rw [← hX2, up2_at, if_neg (by omega)]; exact o1
              · rw [← hX2, up2_at, if_pos ⟨rfl, rfl⟩]
              · rw [upl_at, if_pos ⟨rfl, rfl⟩, fY 105 (by omega), eB2]
              · rw [fX _ (by omega), fX _ (by omega)]; exact o5 k hk
              · obtain ⟨g1, g2⟩ := fval (Y2 125) t ht
                rw [upl_ne _ (by omega), upl_ne _ (by omega), mpl_ne (by omega), mpl_lt (by omega) ht, srw_ne (by omega), ← hY2, mpl_lt (by omega) ht, hY2]
                unfold f_bl f_mb
                rw [srw_at, srw_ne (by omega), fY 118 (by omega), e118, e103, e104, fvr, ← g1]
                exact ⟨rfl, hbd hG2 t ht⟩
            have hres : nI (b * p + q) = (Y2 105 15 * (nI p).toInt64 + (nI q).toInt64).toInt32 := by rw [fY 105 (by omega), eB2, lN_i]
            have b6' : X2 105 0 = nI n := by rw [fX _ (by omega)]; exact b6
            have b7' : X2 105 1 = nI m := by rw [fX _ (by omega)]; exact b7
            have hr' : ∀ k, k < n → X2 117 k = nI (r k) := fun k hk => by rw [fX _ (by omega)]; exact (o5 k hk).2.1
            by_cases hp0 : p = 0
            · have z1 : nI p = 0 := by rw [hp0]; rfl
              have z2 : ¬ nI q = 0 := fun h9 => hz ⟨hp0, (nI_eq (b := 0) (by omega) (by decide)).mp h9⟩
              exact mkI (ckb z1 z2 hG) (r_mix_kb hn b6' hm b7' hj (r := r) hr' (fun k hk => by have := (o5 k hk).2.2; omega) hf hg z1 z2 hl2) hres hfin
            · have z1 : ¬ nI p = 0 := fun h9 => hp0 ((nI_eq (b := 0) (by omega) (by decide)).mp h9)
              exact mkI (cka z1 hG) (r_mix_ka hn b6' hm b7' hj (r := r) hr' (fun k hk => by have := (o5 k hk).2.2; omega) hf hg z1 hl2) hres hfin
theorem st_things (h : Rel X Y) (i : Int32) : stI c mX7_things mX8_things [.int i] X Y := by
  obtain ⟨n, m, b, r, ⟨hn, hm, a6, a7, b6, b7, hcd⟩, ho, hs, hw⟩ := id h
  cases hi : ix i 11 with
  | false => exact mkI (c_things_o hi) (r_things_o hi) rfl h
  | true =>
    obtain ⟨k, hk, rfl⟩ := ix_t hi (by omega)
    have h1 := c_things_k (c := c) (d := 8) (X := X) (Y := Y) hm a7 (k := k) (by omega)
    generalize hX1 : mpx (up2 (up2 (up2 (up2 X 0 6 (nI k)) 0 7 (nI 0)) 101 3 (nI k)) 101 4 (nI 1)) 102 0 k (fun k => nI k) = X1 at h1
    generalize hY1 : mpl Y 103 0 k (fun _ => 0) = Y1 at h1
    have eX : ∀ a, a ≠ 0 → a ≠ 101 → a ≠ 102 → X1 a = X a := fun a g1 g2 g3 => by
      rw [← hX1]; funext e; rw [mpx_ne g3, up2_ne _ g2, up2_ne _ g2, up2_ne _ g1, up2_ne _ g1]
    have eY : ∀ a, a ≠ 103 → Y1 a = Y a := fun a g1 => by rw [← hY1]; funext e; rw [mpl_ne g1]
    have h2 := r_things_k (c := c) (d := 8) (X := X1) (Y := Y1) hm (by rw [eX _ (by omega) (by omega) (by omega)]; exact b7) (k := k) (by omega)
    refine mkI h1 h2 rfl ?_
    generalize hX2 : mpx (up2 (up2 X1 105 0 (nI k)) 105 1 (nI 0)) 117 0 10 (fun k => nI k) = X2
    generalize hY2 : mpl (upl Y1 105 15 1) 118 0 10 (fun _ => 0) = Y2
    have fX : ∀ a, a ≠ 105 → a ≠ 117 → X2 a = X1 a := fun a g1 g2 => by
      rw [← hX2]; funext e; rw [mpx_ne g2, up2_ne _ g1, up2_ne _ g1]
    have fY : ∀ a, a ≠ 105 → a ≠ 118 → Y2 a = Y1 a := fun a g1 g2 => by rw [← hY2]; funext e; rw [mpl_ne g2, upl_ne _ g1]
    refine ⟨k, 0, 1, fun t => t, ⟨by omega, by omega, ?_, ?_, ?_, ?_, ?_⟩, ⟨?_, ?_, ?_, by omega, fun t ht => ⟨?_, ?_, ht⟩, fun t ht => ⟨t, ht, rfl⟩, fun t ht => ?_⟩, fun s hs4 => rl_s_f (by rw [fX _ (by omega) (by omega), eX _ (by omega) (by omega) (by omega)]) (by rw [fX _ (by omega) (by omega), eX _ (by omega) (by omega) (by omega)]) (by rw [fX _ (by omega) (by omega), eX _ (by omega) (by omega) (by omega)]) (by rw [fY _ (by omega) (by omega), eY _ (by omega)]) (by rw [fY _ (by omega) (by omega), eY _ (by omega)]) (hs s hs4), fun w hw0 => absurd hw0 (Nat.not_lt_zero _)⟩
    · rw [fX _ (by omega) (by omega), ← hX1, mpx_ne (by omega)]; simp [up2_at]
    · rw [fX _ (by omega) (by omega), ← hX1, mpx_ne (by omega)]; simp [up2_at]
    · rw [← hX2, mpx_ne (by omega)]; simp [up2_at]
    · rw [← hX2, mpx_ne (by omega)]; simp [up2_at]
    · have g1 : X2 105 19 = X 105 19 := by
        rw [← hX2, mpx_ne (by omega), up2_at, if_neg (by omega), up2_at, if_neg (by omega), eX _ (by omega) (by omega) (by omega)]
      have g2 : X2 0 8 = X 0 8 := by
        rw [fX _ (by omega) (by omega), ← hX1, mpx_ne (by omega), up2_at, if_neg (by omega), up2_at, if_neg (by omega), up2_at, if_neg (by omega), up2_at, if_neg (by omega)]
      rw [g1, g2]; exact hcd
    · rw [fX _ (by omega) (by omega), ← hX1, mpx_ne (by omega)]; simp [up2_at]
    · rw [fX _ (by omega) (by omega), ← hX1, mpx_ne (by omega)]; simp [up2_at]
    · rw [← hY2, mpl_ne (by omega), upl_at, if_pos ⟨rfl, rfl⟩]; rfl
    · rw [fX _ (by omega) (by omega), ← hX1, mpx_lt (by omega) ht]
    · rw [← hX2, mpx_lt (by omega) (by omega)]
    · have g1 : Y2 103 t = 0 := by rw [fY _ (by omega) (by omega), ← hY1, mpl_lt (by omega) ht]
      have g2 : Y2 118 t = 0 := by rw [← hY2, mpl_lt (by omega) (by omega)]
      rw [g1, g2]
      exact ⟨rfl, by decide⟩
/-- a call that changes sheets and codes alone -/
theorem Rel_sh {X' : nX} {Y' : nY} {n m b : Nat} {r : Nat → Nat} (ho : rl_o X Y n b r) (hw : ∀ w, w < m → rl_w X Y n w) (hX : ∀ a, a ≠ 0 → a ≠ 105 → (a < 87 ∨ 94 < a) → a ≠ 119 → a ≠ 120 → X' a = X a) (hY : ∀ a, (a < 87 ∨ 94 < a) → a ≠ 121 → Y' a = Y a) (hh : rl_h X' n m) (hs : ∀ s, s < 4 → rl_s1 X' Y' s) : Rel X' Y' := by
  have hn := hh.1
  have hm := hh.2.1
  have hvr : ∀ w, vr Y' w = vr Y w := fun w => by unfold vr; rw [hY 108 (by omega) (by omega)]
  refine ⟨n, m, b, r, hh, rl_o_f (hX _ (by omega) (by omega) (by omega) (by omega) (by omega)) (hX _ (by omega) (by omega) (by omega) (by omega) (by omega)) (hX _ (by omega) (by omega) (by omega) (by omega) (by omega)) (hY _ (by omega) (by omega)) (hY _ (by omega) (by omega)) (hY _ (by omega) (by omega)) ho, hs, fun w hw2 => ?_⟩
  refine rl_w_f (by omega) hn ⟨fun f _ => by rw [hX _ (by omega) (by omega) (by omega) (by omega) (by omega)], hX _ (by omega) (by omega) (by omega) (by omega) (by omega), hX _ (by omega) (by omega) (by omega) (by omega) (by omega), hX _ (by omega) (by omega) (by omega) (by omega) (by omega), hY _ (by omega) (by omega), by rw [hX _ (by omega) (by omega) (by omega) (by omega) (by omega)], by rw [hX _ (by omega) (by omega) (by omega) (by omega) (by omega)], fun k hk => ⟨by rw [hX _ (by omega) (by omega) (by omega) (by omega) (by omega)], by rw [hX _ (by omega) (by omega) (by omega) (by omega) (by omega)], by rw [hX _ (by omega) (by omega) (by omega) (by omega) (by omega)]⟩, fun k hk => by rw [hX _ (by omega) (by omega) (by omega) (by omega) (by omega)], fun k hk => by rw [hX _ (by omega) (by omega) (by omega) (by omega) (by omega)], fun s hs => by rw [hvr]⟩ (fun q hq hh => ⟨by rw [hX _ (by omega) (by omega) (by omega) (by omega) (by omega)]; exact hh, fun s hs => by rw [hvr]⟩) ?_ (hw w hw2)
  obtain ⟨kd, P, hd, ⟨b1, b2, b3, b4, b5, -⟩, -⟩ := hw w hw2
  exact ⟨hd, by rw [hX _ (by omega) (by omega) (by omega) (by omega) (by omega)]; exact b4, by rw [hX _ (by omega) (by omega) (by omega) (by omega) (by omega)]; exact b5⟩
theorem rl_s_p {X' : nX} {Y' : nY} {s : Nat} (h1 : X' (87 + 2 * s) = X (87 + 2 * s)) (h2 : X' 119 s = X 119 s) (h3 : X' 120 s = X 120 s) (h4 : Y' (88 + 2 * s) = Y (88 + 2 * s)) (h5 : ∀ i, i < 1100 → Y' 121 (1100 * s + i) = Y 121 (1100 * s + i)) (h : rl_s1 X Y s) : rl_s1 X' Y' s := by
  unfold rl_s1 at h ⊢
  rw [h1, h2, h3, h4]
  rcases h with h | ⟨k, g1, g2, g3, g4, g5, g6⟩
  · exact Or.inl h
  · exact Or.inr ⟨k, g1, g2, g3, g4, g5, fun i hi => by rw [h5 i (by omega)]; exact g6 i hi⟩
theorem st_sheet (h : Rel X Y) (s f i : Int32) : stI c mX7_sheet mX8_sheet [.int s, .int f, .int i] X Y := by
  obtain ⟨n, m, b, r, ⟨hn, hm, a6, a7, b6, b7, hcd⟩, ho, hs, hw⟩ := id h
  cases hi : ix s 4 with
  | false => exact mkI (c_sheet_u hi) (r_sheet_u hi) rfl h
  | true =>
    obtain ⟨e, he, rfl⟩ := ix_t hi (by omega)
    cases hf : ix f 3 with
    | false => exact mkI (c_sheet_o1 he hf) (r_sheet_o1 he hf) rfl h
    | true =>
      by_cases h1 : i ≤ nI 1100
      · by_cases h2 : 0 ≤ i
        · have hk : ix i 1101 = true := by
            unfold ix
            rw [Int32.le_iff_toInt_le, nI_toInt (by omega)] at h1
            rw [Int32.le_iff_toInt_le, show (0 : Int32).toInt = 0 from rfl] at h2
            exact decide_eq_true ⟨h2, by omega⟩
          obtain ⟨k, hk2, rfl⟩ := ix_t hk (by omega)
          have z1 := c_sheet_k (c := c) (d := 7) (X := X) (Y := Y) he (i := k) hf (by omega)
          have z2 := r_sheet_k (c := c) (d := 7) (X := x_lay (up2 X 0 8 (nI 0)) e f k) (Y := mpl Y (88 + 2 * e) 0 k (fun _ => 0)) he (k := k) hf (by omega)
          refine mkI z1 z2 rfl ?_
          unfold x_lay
          refine Rel_sh (X := X) (Y := Y) (b := b) (r := r) ho hw (fun a g1 g2 g3 g4 g5 => ?_) (fun a g1 g2 => ?_) ⟨hn, hm, ?_, ?_, ?_, ?_, ?_⟩ (fun u hu => ?_)
          · rw [up2_ne _ g5, up2_ne _ g4, up2_ne _ g2, up2_ne _ (by omega), up2_ne _ (by omega), up2_ne _ (by omega), up2_ne _ g1]
          · funext q; rw [mpl_ne g2, mpl_ne (by omega)]
          · simp only [up2_at]; repeat rw [if_neg (by omega)]
            exact a6
          · simp only [up2_at]; repeat rw [if_neg (by omega)]
            exact a7
          · simp only [up2_at]; repeat rw [if_neg (by omega)]
            exact b6
          · simp only [up2_at]; repeat rw [if_neg (by omega)]
            exact b7
          · rw [up2_at, if_neg (by omega), up2_at, if_neg (by omega), up2_at, if_neg (by omega), up2_at, if_neg (by omega), up2_at, if_neg (by omega), up2_at, if_neg (by omega), up2_at, if_pos ⟨rfl, rfl⟩, up2_at, if_neg (by omega), up2_at, if_neg (by omega), up2_at, if_pos ⟨rfl, rfl⟩]
          · by_cases hue : u = e
            · subst hue
              refine Or.inr ⟨k, by omega, ?_, ?_, ?_, ?_, fun q hq => ?_⟩
              · rw [up2_ne _ (by omega), up2_ne _ (by omega), up2_ne _ (by omega), up2_at, if_neg (by omega), up2_at, if_neg (by omega), up2_at, if_pos ⟨rfl, rfl⟩]; rfl
              · rw [up2_ne _ (by omega), up2_ne _ (by omega), up2_ne _ (by omega), up2_at, if_pos ⟨rfl, rfl⟩]
              · rw [up2_ne _ (by omega), up2_at, if_pos ⟨rfl, rfl⟩]
              · have q1 : up2 (up2 (up2 (up2 (up2 (up2 (up2 X 0 8 (nI 0)) (87 + 2 * u) 1 (nI 1)) (87 + 2 * u) 2 f) (87 + 2 * u) 3 (nI k)) 105 19 (nI 0)) 119 u (nI k)) 120 u f (87 + 2 * u) 2 = f := by
                  rw [up2_ne _ (by omega), up2_ne _ (by omega), up2_ne _ (by omega), up2_at, if_neg (by omega), up2_at, if_pos ⟨rfl, rfl⟩]
                rw [q1, up2_at, if_pos ⟨rfl, rfl⟩]
              · rw [mpl_ne (by omega), mpl_lt (by omega) hq, mpl_lt (by omega) (by omega)]
            · refine rl_s_p (X := X) (Y := Y) ?_ ?_ ?_ ?_ (fun q hq => ?_) (hs u hu)
              · rw [up2_ne _ (by omega), up2_ne _ (by omega), up2_ne _ (by omega), up2_ne _ (by omega), up2_ne _ (by omega), up2_ne _ (by omega), up2_ne _ (by omega)]
              · simp only [up2_at]; repeat rw [if_neg (by omega)]
              · simp only [up2_at]; repeat rw [if_neg (by omega)]
              · funext q; rw [mpl_ne (by omega), mpl_ne (by omega)]
              · rw [mpl_def, if_neg (by omega), mpl_ne (by omega)]
        · exact mkI (c_sheet_c he hf h1 h2) (r_sheet_c he hf h1 h2) rfl (Rel_code _ h)
      · exact mkI (c_sheet_o2 he hf h1) (r_sheet_o2 he hf h1) rfl h
theorem st_tear (h : Rel X Y) (s : Int32) : stI c mX7_tear mX8_tear [.int s] X Y := by
  obtain ⟨n, m, b, r, ⟨hn, hm, a6, a7, b6, b7, hcd⟩, ho, hs, hw⟩ := id h
  cases hi : ix s 4 with
  | false => exact mkI (c_tear_u hi) (r_tear_u hi) rfl h
  | true =>
    obtain ⟨e, he, rfl⟩ := ix_t hi (by omega)
    have hfin : Rel (up2 (up2 X (87 + 2 * e) 1 (nI 0)) 119 e (-1)) Y := by
      refine Rel_sh (X := X) (Y := Y) (b := b) (r := r) ho hw (fun a g1 g2 g3 g4 g5 => ?_) (fun a g1 g2 => rfl) ⟨hn, hm, ?_, ?_, ?_, ?_, ?_⟩ (fun u hu => ?_)
      · rw [up2_ne _ g4, up2_ne _ (by omega)]
      · rw [up2_ne _ (by omega), up2_ne _ (by omega)]; exact a6
      · rw [up2_ne _ (by omega), up2_ne _ (by omega)]; exact a7
      · rw [up2_ne _ (by omega), up2_ne _ (by omega)]; exact b6
      · rw [up2_ne _ (by omega), up2_ne _ (by omega)]; exact b7
      · rw [up2_ne 0 (by omega), up2_ne 0 (by omega), up2_ne 105 (by omega), up2_ne 105 (by omega)]; exact hcd
      · by_cases hue : u = e
        · subst hue
          refine Or.inl ⟨?_, ?_⟩
          · rw [up2_ne _ (by omega), up2_at, if_pos ⟨rfl, rfl⟩]; rfl
          · rw [up2_at, if_pos ⟨rfl, rfl⟩]
        · refine rl_s_p (X := X) (Y := Y) ?_ ?_ ?_ rfl (fun q hq => rfl) (hs u hu)
          · rw [up2_ne _ (by omega), up2_ne _ (by omega)]
          · rw [up2_at, if_neg (by omega), up2_ne _ (by omega)]
          · rw [up2_ne _ (by omega), up2_ne _ (by omega)]
    rcases hs e he with ⟨g1, g2⟩ | ⟨k, g1, g2, g3, g4, g5, g6⟩
    · exact mkI (c_tear_false he g1) (r_tear_f he (by rw [up2_ne _ (by omega)]; exact g2)) rfl hfin
    · exact mkI (c_tear_true he g2) (r_tear_t he g1 (by rw [up2_ne _ (by omega)]; exact g4)) rfl hfin
theorem Rel_put {e k i : Nat} {v : Int64} (h : Rel X Y) (he : e < 4) (hk : k ≤ 1100) (g2 : X (87 + 2 * e) 1 = bI true) (g3 : X (87 + 2 * e) 3 = nI k) (hi : i < k) : Rel (up2 (up2 X 0 8 (nI 0)) 105 19 (nI 0)) (upl (upl Y (88 + 2 * e) i v) 121 (1100 * e + i) v) := by
  obtain ⟨n, m, b, r, ⟨hn, hm, a6, a7, b6, b7, hcd⟩, ho, hs, hw⟩ := id h
  refine Rel_sh (X := X) (Y := Y) (b := b) (r := r) ho hw (fun a g1 g2 g3 g4 g5 => ?_) (fun a g1 g2 => ?_) ⟨hn, hm, ?_, ?_, ?_, ?_, ?_⟩ (fun u hu => ?_)
  · rw [up2_ne _ g2, up2_ne _ g1]
  · rw [upl_ne _ g2, upl_ne _ (by omega)]
  · rw [up2_ne _ (by omega), up2_at, if_neg (by omega)]; exact a6
  · rw [up2_ne _ (by omega), up2_at, if_neg (by omega)]; exact a7
  · rw [up2_at, if_neg (by omega), up2_ne _ (by omega)]; exact b6
  · rw [up2_at, if_neg (by omega), up2_ne _ (by omega)]; exact b7
  · rw [up2_ne 0 (by omega), up2_at, if_pos ⟨rfl, rfl⟩, up2_at, if_pos ⟨rfl, rfl⟩]
  · have eX : ∀ a, a ≠ 0 → a ≠ 105 → up2 (up2 X 0 8 (nI 0)) 105 19 (nI 0) a = X a := fun a q1 q2 => by rw [up2_ne _ q2, up2_ne _ q1]
    by_cases hue : u = e
    · subst hue
      rcases hs u hu with ⟨f1, f2⟩ | ⟨k', f1, f2, f3, f4, f5, f6⟩
      · rw [f1] at g2; exact absurd g2 (by decide)
      · refine Or.inr ⟨k', f1, ?_, ?_, ?_, ?_, fun q hq => ?_⟩
        · rw [eX _ (by omega) (by omega)]; exact f2
        · rw [eX _ (by omega) (by omega)]; exact f3
        · rw [eX _ (by omega) (by omega)]; exact f4
        · rw [eX _ (by omega) (by omega), eX _ (by omega) (by omega)]; exact f5
        · rw [upl_ne _ (by omega), upl_at, upl_at]
          by_cases hqi : q = i
          · rw [if_pos ⟨rfl, hqi⟩, if_pos ⟨rfl, by rw [hqi]⟩]
          · rw [if_neg (fun h9 => hqi h9.2), if_neg (by omega), upl_ne _ (by omega)]; exact f6 q hq
    · refine rl_s_p (X := X) (Y := Y) (eX _ (by omega) (by omega)) (by rw [eX _ (by omega) (by omega)]) (by rw [eX _ (by omega) (by omega)]) (by rw [upl_ne _ (by omega), upl_ne _ (by omega)]) (fun q hq => ?_) (hs u hu)
      rw [upl_at, if_neg (by omega), upl_ne _ (by omega)]
theorem st_put (h : Rel X Y) (s f i : Int32) (v : Int64) : stL c mX7_put mX8_put [.int s, .int f, .int i, .long v] X Y := by
  obtain ⟨n, m, b, r, ⟨hn, hm, a6, a7, b6, b7, hcd⟩, ho, hs, hw⟩ := id h
  cases hi : ix s 4 with
  | false => exact mkL (c_put_u hi) (r_put_u hi) rfl h
  | true =>
    obtain ⟨e, he, rfl⟩ := ix_t hi (by omega)
    cases hf : ix f 3 with
    | false => exact mkL (c_put_o he hf) (r_put_o he hf) rfl h
    | true =>
      have eX : ∀ (k : Int32) a, a ≠ 0 → up2 X 0 8 k a = X a := fun k a q => up2_ne a q
      rcases hs e he with ⟨g1, g2⟩ | ⟨k, g1, g2, g3, g4, g5, g6⟩
      · exact mkL (c_put_c1 he hf g1) (r_put_c1 he hf (by rw [eX _ _ (by omega)]; exact g2)) rfl (Rel_code _ h)
      · by_cases hff : X (87 + 2 * e) 2 = f
        · cases hk : ix i k with
          | false => exact mkL (c_put_c3 he hf g2 hff g1 g3 hk) (r_put_c3 he hf g1 (by rw [eX _ _ (by omega)]; exact g4) (by rw [eX _ _ (by omega), ← g5]; exact hff) hk) rfl (Rel_code _ h)
          | true =>
            obtain ⟨q, hq, rfl⟩ := ix_t hk (by omega)
            obtain ⟨z, hz, rfl⟩ := ix_t hf (by omega)
            have hz3 : z = 0 ∨ z = 1 ∨ z = 2 := by omega
            rcases hz3 with h9 | h9 | h9 <;> subst h9
            · exact mkL (c_put_k0 he g2 hff g1 g3 hq) (r_put_k0 he (by rw [eX _ _ (by omega), ← g5]; exact hff) g1 (by rw [eX _ _ (by omega)]; exact g4) hq) rfl (Rel_put h he g1 g2 g3 hq)
            · exact mkL (c_put_k1 he g2 hff g1 g3 hq) (r_put_k1 he (by rw [eX _ _ (by omega), ← g5]; exact hff) g1 (by rw [eX _ _ (by omega)]; exact g4) hq) rfl (Rel_put h he g1 g2 g3 hq)
            · exact mkL (c_put_k2 he g2 hff g1 g3 hq) (r_put_k2 he (by rw [eX _ _ (by omega), ← g5]; exact hff) g1 (by rw [eX _ _ (by omega)]; exact g4) hq) rfl (Rel_put h he g1 g2 g3 hq)
        · exact mkL (c_put_c2 he hf g2 hff) (r_put_c2 he hf g1 (by rw [eX _ _ (by omega)]; exact g4) (by rw [eX _ _ (by omega), ← g5]; exact hff)) rfl (Rel_code _ h)
theorem st_at (h : Rel X Y) (s i : Int32) : stL c mX7_at mX8_at [.int s, .int i] X Y := by
  obtain ⟨n, m, b, r, ⟨hn, hm, a6, a7, b6, b7, hcd⟩, ho, hs, hw⟩ := id h
  cases hi : ix s 4 with
  | false => exact mkL (c_at_u hi) (r_at_u hi) rfl h
  | true =>
    obtain ⟨e, he, rfl⟩ := ix_t hi (by omega)
    have eX : ∀ (k : Int32) a, a ≠ 0 → up2 X 0 8 k a = X a := fun k a q => up2_ne a q
    rcases hs e he with ⟨g1, g2⟩ | ⟨k, g1, g2, g3, g4, g5, g6⟩
    · exact mkL (c_at_c1 he g1) (r_at_c1 he (by rw [eX _ _ (by omega)]; exact g2)) rfl (Rel_code _ h)
    · cases hk : ix i k with
      | false => exact mkL (c_at_c3 he g2 g1 g3 hk) (r_at_c3 he g1 (by rw [eX _ _ (by omega)]; exact g4) hk) rfl (Rel_code _ h)
      | true =>
        obtain ⟨q, hq, rfl⟩ := ix_t hk (by omega)
        exact mkL (c_at_k he g2 g1 g3 hq) (r_at_k he g1 (by rw [eX _ _ (by omega)]; exact g4) hq) (g6 q hq) (Rel_code _ h)
end CM
