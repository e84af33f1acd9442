/-! bends, the order, the shares -/
theorem lvo_bd {V : Nat → Int64} {k : Nat} : ∀ {S : Nat}, bdV V S → (lvo V k S).2.toInt.natAbs ≤ 1000000000000 := by
  intro S
  induction S with
  | zero => intro _; show (0 : Int64).toInt.natAbs ≤ _; decide
  | succ S ih =>
    intro h
    rw [lvo_s]
    split
    · exact h S (by omega)
    · exact ih (fun s hs => h s (by omega))
theorem lN_ne0 {a : Nat} (h : 1 ≤ a) (h2 : a < 2 ^ 31) : ¬ lN a = 0 := fun h9 => by
  have := congrArg Int64.toInt h9
  rw [lN_toInt h2, show (0 : Int64).toInt = 0 from rfl] at this
  omega
theorem cor_s (V : Nat → Int64) (r : Nat → Nat) (R0 : Nat → Int64) (i : Nat) : cor V r R0 (i + 1) = vp_updL (cor V r R0 i) (r i) (V (ahd r i ||| 2 ^ r i) - V (ahd r i)) := rfl
theorem cor_cg {V V' R0 R1 : Nat → Int64} {r : Nat → Nat} {n : Nat} (hv : ∀ s, s < 2 ^ n → V s = V' s) (hB : bdV V' (2 ^ n)) (hr : ∀ k, k < n → r k < n) : ∀ i, i ≤ n → ∀ t, (∃ k, k < i ∧ r k = t) → cor V r R0 i t = cor V' r R1 i t ∧ (cor V' r R1 i t).toInt.natAbs ≤ 2000000000000 := by
  intro i
  induction i with
  | zero => intro _ t ⟨k, hk, _⟩; omega
  | succ i ih =>
    intro hi t ⟨k, hk, he⟩
    rw [cor_s, cor_s]
    have l1 := ahd_lt (r := r) (n := n) (m := n) hr i (by omega)
    have l2 := xb_or l1 (hr i (by omega))
    by_cases h9 : t = r i
    · subst h9
      rw [vpu_at, vpu_at, hv _ l1, hv _ l2]
      refine ⟨rfl, ?_⟩
      have b1 := hB _ l1
      have b2 := hB _ l2
      rw [sub_toInt (by omega) (by omega)]
      omega
    · rw [vpu_ne h9, vpu_ne h9]
      refine ih (by omega) t ⟨k, ?_, he⟩
      rcases Nat.lt_or_ge k i with h8 | h8
      · exact h8
      · rw [show k = i by omega] at he; exact absurd he.symm h9
theorem wi_abs {v : Int64} {B : Nat} {lo hi : Int64} (h1 : lo.toInt = -(B : Int)) (h2 : hi.toInt = (B : Int)) : wi v lo hi = decide (v.toInt.natAbs ≤ B) := by
  unfold wi
  rw [← Bool.decide_and, decide_eq_decide, Int64.le_iff_toInt_le, Int64.le_iff_toInt_le, h1, h2]
  omega
theorem szl_le {v : Int64} {B : Nat} {hi : Int64} (h0 : v.toInt ≠ -2 ^ 63) (h2 : hi.toInt = (B : Int)) : decide (szl v ≤ hi) = decide (v.toInt.natAbs ≤ B) := by
  rw [decide_eq_decide, Int64.le_iff_toInt_le, szl_abs h0, h2]
  omega
section SH
variable {c : cx} {X : nX} {Y : nY}
theorem st_bend (h : Rel X Y) (w i q : Int32) : stL c mX7_bend mX8_bend [.int w, .int i, .int q] X Y := by
  obtain ⟨n, m, b, r, ⟨hn, hm, a6, a7, b6, b7, hcd⟩, ho, hs, hw⟩ := id h
  cases hi : ix w m with
  | false => exact mkL (c_bend_u hm a7 hi) (r_bend_u hm b7 hi) rfl h
  | true =>
    obtain ⟨j, hj, rfl⟩ := ix_t hi (by omega)
    obtain ⟨hv, hB, hv0⟩ := rl_w_v (hw j hj)
    obtain ⟨hse, hth⟩ := rl_w_b (hw j hj)
    have hR2 := low_rlv (R := Y 99) (R' := srw Y 99 (rlow (Y (3 + 7 * j)) (rl0 (Y 99) (Y (3 + 7 * j)) n) (2 ^ n)) 124) hn hv
    have hRb : ∀ k, k ≤ n → (rlow (Y (3 + 7 * j)) (rl0 (Y 99) (Y (3 + 7 * j)) n) (2 ^ n) k).toInt.natAbs ≤ 1000000000000 := fun k hk => by
      rw [low_eq hn hk, lvo_cg hv]
      exact lvo_bd hB
    have hS : scr X (xtn (up2 X 98 2 (nI n)) (tno (rlow (Y (3 + 7 * j)) (rl0 (Y 99) (Y (3 + 7 * j)) n) (2 ^ n)) n) (bcn (rlow (Y (3 + 7 * j)) (rl0 (Y 99) (Y (3 + 7 * j)) n) (2 ^ n)) n)) Y (srw Y 99 (rlow (Y (3 + 7 * j)) (rl0 (Y 99) (Y (3 + 7 * j)) n) (2 ^ n))) := scr_t scr_low scr_xtn
    rw [← scr_vr hS j] at hR2
    have u2 := fun hi => c_bend_u2 (c := c) (d := 4) (X := X) (Y := Y) hn a6 hm a7 hj hse hth (i := i) (q := q) hi
    have u3 := fun i hi (hq : ix q 4 = false) => c_bend_o (c := c) (d := 4) (X := X) (Y := Y) hn a6 hm a7 hj hse hth (i := i) hi hq
    have k0 := fun i hi => c_bend_0 (c := c) (d := 4) (X := X) (Y := Y) hn a6 hm a7 hj hse hth (i := i) hi
    have k1 := fun i hi => c_bend_1 (c := c) (d := 4) (X := X) (Y := Y) hn a6 hm a7 hj hse hth (i := i) hi
    have k2 := fun i hi => c_bend_2 (c := c) (d := 4) (X := X) (Y := Y) hn a6 hm a7 hj hse hth (i := i) hi
    have k3 := fun i hi => c_bend_3 (c := c) (d := 4) (X := X) (Y := Y) hn a6 hm a7 hj hse hth (i := i) hi
    generalize rlow (Y (3 + 7 * j)) (rl0 (Y 99) (Y (3 + 7 * j)) n) (2 ^ n) = R at hR2 hRb hS u2 u3 k0 k1 k2 k3
    have e6 : xtn (up2 X 98 2 (nI n)) (tno R n) (bcn R n) 105 0 = nI n := by rw [hS.1 105 (by omega) (by omega) (by omega) (by omega) (by omega) (by omega)]; exact b6
    have e7 : xtn (up2 X 98 2 (nI n)) (tno R n) (bcn R n) 105 1 = nI m := by rw [hS.1 105 (by omega) (by omega) (by omega) (by omega) (by omega) (by omega)]; exact b7
    have hR := Rel_scr hS h
    generalize hX1 : xtn (up2 X 98 2 (nI n)) (tno R n) (bcn R n) = X1 at e6 e7 u2 u3 k0 k1 k2 k3 hR
    generalize hY1 : srw Y 99 R = Y1 at hR2 u2 u3 k0 k1 k2 k3 hR
    have v2 := fun hi => r_bend_u2 (c := c) (d := 5) (X := X1) (Y := Y1) hn e6 hm e7 hj (i := i) (q := q) hi
    have v3 := fun i hi (hq : ix q 4 = false) => r_bend_o (c := c) (d := 5) (X := X1) (Y := Y1) hn e6 hm e7 hj (i := i) hi hq
    have l0 := fun i hi => r_bend_0 (c := c) (d := 5) (X := X1) (Y := Y1) hn e6 hm e7 hj (i := i) hi
    have l1 := fun i hi => r_bend_1 (c := c) (d := 5) (X := X1) (Y := Y1) hn e6 hm e7 hj (i := i) hi
    have l2 := fun i hi => r_bend_2 (c := c) (d := 5) (X := X1) (Y := Y1) hn e6 hm e7 hj (i := i) hi
    have l3 := fun i hi => r_bend_3 (c := c) (d := 5) (X := X1) (Y := Y1) hn e6 hm e7 hj (i := i) hi
    have hS2 : Rel (xcn X1 (tno (rlv (Y1 124) (vr Y1 j) n) n) (bcn (rlv (Y1 124) (vr Y1 j) n) n)) (srw Y1 124 (rlv (Y1 124) (vr Y1 j) n)) := Rel_scr scr_xcn hR
    generalize rlv (Y1 124) (vr Y1 j) n = R2 at hR2 v2 v3 l0 l1 l2 l3 hS2
    rw [← bcn_cg hR2] at v2 v3 l0 l1 l2 l3 hS2
    cases hk : ix i (bcn R n) with
    | false => exact mkL (u2 hk) (v2 hk) rfl hS2
    | true =>
      have hbl := bcn_le R n
      obtain ⟨e, he, rfl⟩ := ix_t hk (by omega)
      cases hq : ix q 4 with
      | false => exact mkL (u3 e he hq) (v3 e he hq) rfl hS2
      | true =>
        obtain ⟨k, hk4, rfl⟩ := ix_t hq (by omega)
        have t1 := tno_lt he
        have t2 := tno_le R t1
        have t3 : tno R n e < tno R n (e + 1) := by
          have := (nxt_in R (tno R n e) (n - (tno R n e + 1))).1
          exact this
        have c1 := tno_cg hR2 e
        have c2 := tno_cg hR2 (e + 1)
        have d1 : R2 (tno R n (e + 1)) = R (tno R n (e + 1)) := (hR2 _ t2).symm
        have d2 : R2 (tno R n e) = R (tno R n e) := (hR2 _ (by omega)).symm
        have hC : (R (tno R n (e + 1)) - R (tno R n e)).toInt ≠ -2 ^ 63 := by
          have g1 := hRb _ t2
          have g2 := hRb (tno R n e) (by omega)
          rw [sub_toInt (by omega) (by omega)]
          omega
        have hcm := cdv_eq (W := tno R n (e + 1) - tno R n e) hC (by omega) (by omega)
        have hcv := cdv_in (tno R n (e + 1) - tno R n e) (R (tno R n (e + 1)) - R (tno R n e)) (tno R n (e + 1) - tno R n e)
        have hk5 : k = 0 ∨ k = 1 ∨ k = 2 ∨ k = 3 := by omega
        rcases hk5 with h9 | h9 | h9 | h9 <;> subst h9
        · have z := l0 e he
          rw [← c1, ← c2, d1, d2, hcm] at z
          exact mkL (k0 e he) (z (lN_ne0 hcv.1 (by omega))) rfl hS2
        · have z := l1 e he
          rw [← c1, ← c2, d1, d2, hcm] at z
          exact mkL (k1 e he) (z (lN_ne0 hcv.1 (by omega))) (lN_div (by omega) (by omega)).symm hS2
        · have z := l2 e he
          rw [← c1] at z
          exact mkL (k2 e he) z rfl hS2
        · have z := l3 e he
          rw [← c2] at z
          exact mkL (k3 e he) z rfl hS2
/-- the order's row, moved -/
def mrn (r : Nat → Nat) (b q t : Nat) : Nat → Nat := fun k => if k = q then t else if b ≤ k ∧ k < q then r (k + 1) else if q < k ∧ k ≤ b then r (k - 1) else r k
theorem mrw_n {R : Nat → Int32} {r : Nat → Nat} {b q t n k : Nat} (hR : ∀ k, k < n → R k = nI (r k)) (hb : b < n) (hq : q < n) (hk : k < n) : mrw R b q (nI t) k = nI (mrn r b q t k) := by
  unfold mrw mrn
  by_cases h1 : k = q
  · rw [if_pos h1, if_pos h1]
  · rw [if_neg h1, if_neg h1]
    by_cases h2 : b ≤ k ∧ k < q
    · rw [if_pos h2, if_pos h2, hR _ (by omega)]
    · rw [if_neg h2, if_neg h2]
      by_cases h3 : q < k ∧ k ≤ b
      · rw [if_pos h3, if_pos h3, hR _ (by omega)]
      · rw [if_neg h3, if_neg h3, hR k hk]
theorem mrn_lt {r : Nat → Nat} {b q t n k : Nat} (hr : ∀ k, k < n → r k < n) (ht : t < n) (hb : b < n) (hq : q < n) (hk : k < n) : mrn r b q t k < n := by
  unfold mrn
  split
  · exact ht
  · split
    · exact hr _ (by omega)
    · split
      · exact hr _ (by omega)
      · exact hr k hk
theorem mrn_on {r : Nat → Nat} {b q t n : Nat} (ho : ∀ u, u < n → ∃ k, k < n ∧ r k = u) (hb : b < n) (hq : q < n) (hbt : r b = t) {u : Nat} (hu : u < n) : ∃ k, k < n ∧ mrn r b q t k = u := by
  by_cases h0 : u = t
  · exact ⟨q, hq, by unfold mrn; rw [if_pos rfl, h0]⟩
  · obtain ⟨k, hk, he⟩ := ho u hu
    have hkb : k ≠ b := fun h9 => h0 (by rw [← he, h9, hbt])
    by_cases h1 : b < k ∧ k ≤ q
    · refine ⟨k - 1, by omega, ?_⟩
      unfold mrn
      rw [if_neg (by omega), if_pos (by omega), show k - 1 + 1 = k by omega, he]
    · by_cases h2 : q ≤ k ∧ k < b
      · refine ⟨k + 1, by omega, ?_⟩
        unfold mrn
        rw [if_neg (by omega), if_neg (by omega), if_pos (by omega), show k + 1 - 1 = k by omega, he]
      · refine ⟨k, hk, ?_⟩
        unfold mrn
        rw [if_neg (by omega), if_neg (by omega), if_neg (by omega), he]
theorem Rel_os {X' : nX} {Y' : nY} {n m b : Nat} {r : Nat → Nat} (hh : rl_h X n m) (hs : ∀ s, s < 4 → rl_s1 X Y s) (hw : ∀ w, w < m → rl_w X Y n w) (hX : ∀ a, a ≠ 101 → a ≠ 102 → a ≠ 117 → X' a = X a) (hY : ∀ a, a ≠ 103 → a ≠ 104 → a ≠ 105 → a ≠ 118 → a ≠ 125 → Y' a = Y a) (ho : rl_o X' Y' n b r) : Rel X' Y' := by
  have hn := hh.1
  have hm := hh.2.1
  have hvr : ∀ w, vr Y' w = vr Y w := fun w => by unfold vr; rw [hY 108 (by omega) (by omega) (by omega) (by omega) (by omega)]
  refine ⟨n, m, b, r, ?_, ho, fun s hs4 => rl_s_f (hX _ (by omega) (by omega) (by omega)) (hX _ (by omega) (by omega) (by omega)) (hX _ (by omega) (by omega) (by omega)) (hY _ (by omega) (by omega) (by omega) (by omega) (by omega)) (hY _ (by omega) (by omega) (by omega) (by omega) (by omega)) (hs s hs4), fun w hw2 => ?_⟩
  · unfold rl_h at hh ⊢
    rw [hX 0 (by omega) (by omega) (by omega), hX 105 (by omega) (by omega) (by omega)]
    exact hh
  · refine rl_w_f (by omega) hn ⟨fun f _ => by rw [hX _ (by omega) (by omega) (by omega)], hX _ (by omega) (by omega) (by omega), hX _ (by omega) (by omega) (by omega), hX _ (by omega) (by omega) (by omega), hY _ (by omega) (by omega) (by omega) (by omega) (by omega), by rw [hX _ (by omega) (by omega) (by omega)], by rw [hX _ (by omega) (by omega) (by omega)], fun k hk => ⟨by rw [hX _ (by omega) (by omega) (by omega)], by rw [hX _ (by omega) (by omega) (by omega)], by rw [hX _ (by omega) (by omega) (by omega)]⟩, fun k hk => by rw [hX _ (by omega) (by omega) (by omega)], fun k hk => by rw [hX _ (by omega) (by omega) (by omega)], fun s hs => by rw [hvr]⟩ (fun q hq hh => ⟨by rw [hX _ (by omega) (by omega) (by omega)]; exact hh, fun s hs => by rw [hvr]⟩) ?_ (hw w hw2)
    obtain ⟨kd, P, hd, ⟨b1, b2, b3, b4, b5, -⟩, -⟩ := hw w hw2
    exact ⟨hd, by rw [hX _ (by omega) (by omega) (by omega)]; exact b4, by rw [hX _ (by omega) (by omega) (by omega)]; exact b5⟩
theorem st_order (h : Rel X Y) (t i : Int32) : stI c mX7_order mX8_order [.int t, .int i] X Y := by
  obtain ⟨n, m, b, r, ⟨hn, hm, a6, a7, b6, b7, hcd⟩, ho, hs, hw⟩ := id h
  obtain ⟨o1, o2, o3, o4, o5, o6, o7⟩ := ho
  cases hi : ix t n with
  | false => exact mkI (c_order_u hn a6 hi) (r_order_u hn b6 hi) rfl h
  | true =>
    cases hk : ix i n with
    | false => exact mkI (c_order_o hn a6 hi hk) (r_order_o hn b6 hi hk) rfl h
    | true =>
      obtain ⟨u, hu, rfl⟩ := ix_t hi (by omega)
      obtain ⟨q, hq, rfl⟩ := ix_t hk (by omega)
      cases hf : ffind (p_plc X (nI u)) n with
      | none =>
        obtain ⟨k, hk9, hr9⟩ := o6 u hu
        have := ff_none.mp hf k hk9
        unfold p_plc at this
        rw [(o5 k hk9).1, hr9] at this
        simp at this
      | some e =>
        obtain ⟨f1, f2, f3⟩ := ff_spec hf
        unfold p_plc at f2 f3
        have f4 : X 102 e = nI u := by simpa using f2
        have f5 : r e = u := by
          have := (o5 e f1).1
          rw [f4] at this
          have h9 := (nI_eq (by omega) (by have := (o5 e f1).2.2; omega)).mp this
          omega
        have h1 := c_order_k (c := c) (d := 6) (X := X) (Y := Y) hn a6 hu hq o1
        rw [hf] at h1
        have e117 : xmv X e q (nI u) 117 = X 117 := by unfold xmv; rw [if_neg (by omega)]
        refine mkI h1 (r_order_k (b := e) hn (by show xmv X e q (nI u) 105 0 = nI n; unfold xmv; rw [if_neg (by omega)]; exact b6) hu hq (by omega) (by show xmv X e q (nI u) 117 e = nI u; rw [e117, (o5 e f1).2.1, f5]) (fun k hk9 => ?_)) rfl ?_
        · show ¬ xmv X e q (nI u) 117 k = nI u
          rw [e117, (o5 k (by omega)).2.1, ← (o5 k (by omega)).1]
          simpa using f3 k hk9
        · refine Rel_os (X := X) (Y := Y) (b := b) (r := mrn r e q u) ⟨hn, hm, a6, a7, b6, b7, hcd⟩ hs hw (fun a g1 g2 g3 => ?_) (fun a _ _ _ _ _ => rfl) ⟨?_, ?_, o3, o4, fun k hk9 => ⟨?_, ?_, ?_⟩, fun u2 hu2 => mrn_on o6 f1 hq f5 hu2, o7⟩
          · show ymv (xmv X e q (nI u)) e q (nI u) a = X a
            unfold ymv xmv
            rw [if_neg g3, if_neg g2]
          · show ymv (xmv X e q (nI u)) e q (nI u) 101 3 = nI n
            unfold ymv xmv
            rw [if_neg (by omega), if_neg (by omega)]; exact o1
          · show ymv (xmv X e q (nI u)) e q (nI u) 101 4 = nI b
            unfold ymv xmv
            rw [if_neg (by omega), if_neg (by omega)]; exact o2
          · show ymv (xmv X e q (nI u)) e q (nI u) 102 k = _
            unfold ymv
            rw [if_neg (by omega)]
            unfold xmv
            rw [if_pos rfl]
            exact mrw_n (fun k hk => (o5 k hk).1) f1 hq hk9
          · show ymv (xmv X e q (nI u)) e q (nI u) 117 k = _
            unfold ymv
            rw [if_pos rfl, e117]
            exact mrw_n (fun k hk => (o5 k hk).2.1) f1 hq hk9
          · exact mrn_lt (fun k hk => (o5 k hk).2.2) hu f1 hq hk9
theorem st_share (h : Rel X Y) (t : Int32) (v : Int64) : stL c mX7_share mX8_share [.int t, .long v] X Y := by
  obtain ⟨n, m, b, r, ⟨hn, hm, a6, a7, b6, b7, hcd⟩, ho, hs, hw⟩ := id h
  obtain ⟨o1, o2, o3, o4, o5, o6, o7⟩ := ho
  cases hi : ix t n with
  | false => exact mkL (c_share_u hn a6 hi) (r_share_u hn b6 hi) rfl h
  | true =>
    cases hk : wi v (-1000000000000) 1000000000000 with
    | false => exact mkL (c_share_o hn a6 hi hk) (r_share_o hn b6 hi hk) rfl h
    | true =>
      obtain ⟨u, hu, rfl⟩ := ix_t hi (by omega)
      have hvb : v.toInt.natAbs ≤ 1000000000000 := by
        rw [wi_abs (B := 1000000000000) rfl rfl] at hk
        simpa using hk
      refine mkL (c_share_k hn a6 hu hk) (r_share_k hn b6 hu hk) ?_ ?_
      · rw [(o7 u hu).1]
        show Y 118 u = upl Y 103 u v 118 u
        rw [upl_ne _ (by omega)]
      · refine Rel_os (X := X) (Y := Y) (b := b) (r := r) ⟨hn, hm, a6, a7, b6, b7, hcd⟩ hs hw (fun a _ _ _ => rfl) (fun a g1 _ _ g2 _ => by rw [upl_ne _ g2, upl_ne _ g1]) ⟨o1, o2, ?_, o4, o5, o6, fun k hk9 => ?_⟩
        · rw [upl_ne _ (by omega), upl_ne _ (by omega)]; exact o3
        · have e1 : upl (upl Y 103 u v) 118 u v 103 k = if k = u then v else Y 103 k := by
            rw [upl_ne _ (by omega), upl_at]
            by_cases h9 : k = u
            · rw [if_pos ⟨rfl, h9⟩, if_pos h9]
            · rw [if_neg (fun h8 => h9 h8.2), if_neg h9]
          have e2 : upl (upl Y 103 u v) 118 u v 118 k = if k = u then v else Y 118 k := by
            rw [upl_at]
            by_cases h9 : k = u
            · rw [if_pos ⟨rfl, h9⟩, if_pos h9]
            · rw [if_neg (fun h8 => h9 h8.2), if_neg h9, upl_ne _ (by omega)]
          rw [e1, e2]
          by_cases h9 : k = u
          · rw [if_pos h9, if_pos h9]; exact ⟨rfl, by omega⟩
          · rw [if_neg h9, if_neg h9]; exact o7 k hk9
end SH
