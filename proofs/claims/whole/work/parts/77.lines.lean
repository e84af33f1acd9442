/-! lines, spots, rises -/
theorem mo_ne {X : nX} {w P : Nat} {a b e : Int32} {q : Nat} (h : q ≠ 109 ∧ q ≠ 110 ∧ q ≠ 111 ∧ q ≠ 112) : x_mo X w P a b e q = X q := by
  unfold x_mo
  rw [up2_ne _ h.1, up2_ne _ h.2.2.2, up2_ne _ h.2.2.1, up2_ne _ h.2.1]
theorem mo_109 {X : nX} {w P : Nat} {a b e : Int32} {q : Nat} : x_mo X w P a b e 109 q = if q = w then nI (P + 1) else X 109 q := by
  unfold x_mo
  rw [up2_at]
  by_cases h : q = w
  · rw [if_pos ⟨rfl, h⟩, if_pos h]
  · rw [if_neg (fun h9 => h h9.2), if_neg h, up2_ne _ (by omega), up2_ne _ (by omega), up2_ne _ (by omega)]
theorem mo_110 {X : nX} {w P : Nat} {a b e : Int32} {k : Nat} : x_mo X w P a b e 110 (24 * w + k) = if k = P then a else X 110 (24 * w + k) := by
  unfold x_mo
  rw [up2_ne _ (by omega), up2_ne _ (by omega), up2_ne _ (by omega), up2_at]
  by_cases h : k = P
  · rw [if_pos ⟨rfl, by omega⟩, if_pos h]
  · rw [if_neg (by omega), if_neg h]
theorem mo_111 {X : nX} {w P : Nat} {a b e : Int32} {k : Nat} : x_mo X w P a b e 111 (24 * w + k) = if k = P then b else X 111 (24 * w + k) := by
  unfold x_mo
  rw [up2_ne _ (by omega), up2_ne _ (by omega), up2_at]
  by_cases h : k = P
  · rw [if_pos ⟨rfl, by omega⟩, if_pos h]
  · rw [if_neg (by omega), if_neg h, up2_ne _ (by omega)]
theorem mo_112 {X : nX} {w P : Nat} {a b e : Int32} {k : Nat} : x_mo X w P a b e 112 (24 * w + k) = if k = P then e else X 112 (24 * w + k) := by
  unfold x_mo
  rw [up2_ne _ (by omega), up2_at]
  by_cases h : k = P
  · rw [if_pos ⟨rfl, by omega⟩, if_pos h]
  · rw [if_neg (by omega), if_neg h, up2_ne _ (by omega), up2_ne _ (by omega)]
theorem wfr_mo {X : nX} {Y : nY} {w j P : Nat} {a b e : Int32} (hw : w < 12) (h : w ≠ j) (hP : P < 24) : wfr X (x_mo X j P a b e) Y Y w := by
  unfold x_mo
  exact wfr_t (wfr_t (wfr_t (wfr_up2 (by omega)) (wfr_up2 (by omega))) (wfr_up2 (by omega))) (wfr_up2 (by omega))
theorem oX_mo {X : nX} {j P : Nat} {a b e : Int32} : oX X (x_mo X j P a b e) := by
  unfold x_mo
  exact oX_t (oX_t (oX_t (oX_up2 (by omega)) (oX_up2 (by omega))) (oX_up2 (by omega))) (oX_up2 (by omega))
theorem lct_cg2 {a b a' b' : Nat → Nat} {W W' : Nat → Int32} {s : Nat} : ∀ {P : Nat}, (∀ k, k < P → a k = a' k ∧ b k = b' k ∧ W k = W' k) → lct a b W s P = lct a' b' W' s P := by
  intro P
  induction P with
  | zero => intro _; rfl
  | succ P ih =>
    intro h
    obtain ⟨h1, h2, h3⟩ := h P (by omega)
    show lct a b W s P + (if hb s (a P) = true ∧ hb s (b P) = false then (W P).toInt64 else 0) = lct a' b' W' s P + (if hb s (a' P) = true ∧ hb s (b' P) = false then (W' P).toInt64 else 0)
    rw [ih (fun k hk => h k (by omega)), h1, h2, h3]
theorem lcv_cg2 {b b' : Nat → Nat} {W W' : Nat → Int32} {s : Nat} : ∀ {P : Nat}, (∀ k, k < P → b k = b' k ∧ W k = W' k) → lcv W b s P = lcv W' b' s P := by
  intro P
  induction P with
  | zero => intro _; rfl
  | succ P ih =>
    intro h
    obtain ⟨h2, h3⟩ := h P (by omega)
    show lcv W b s P + (if b P &&& s = 0 then 0 else (W P).toInt64) = lcv W' b' s P + (if b' P &&& s = 0 then 0 else (W' P).toInt64)
    rw [ih (fun k hk => h k (by omega)), h2, h3]
theorem lct_s (a b : Nat → Nat) (W : Nat → Int32) (s P : Nat) : lct a b W s (P + 1) = lct a b W s P + (if hb s (a P) = true ∧ hb s (b P) = false then (W P).toInt64 else 0) := rfl
theorem lcv_s (W : Nat → Int32) (b : Nat → Nat) (s P : Nat) : lcv W b s (P + 1) = lcv W b s P + (if b P &&& s = 0 then 0 else (W P).toInt64) := rfl
theorem acc_bd {x y : Int64} {P : Nat} (hP : P ≤ 100) (hx : x.toInt.natAbs ≤ 10000 * P) (hy : y.toInt.natAbs ≤ 10000) : (x + y).toInt.natAbs ≤ 10000 * (P + 1) := by
  rw [add_toInt (by omega) (by omega)]
  omega
theorem lct_bd {a b : Nat → Nat} {W : Nat → Int32} {s : Nat} : ∀ {P : Nat}, P ≤ 100 → (∀ k, k < P → (W k).toInt.natAbs ≤ 10000) → (lct a b W s P).toInt.natAbs ≤ 10000 * P := by
  intro P
  induction P with
  | zero => intro _ _; show (0 : Int64).toInt.natAbs ≤ _; decide
  | succ P ih =>
    intro hP h
    rw [lct_s]
    refine acc_bd (by omega) (ih (by omega) (fun k hk => h k (by omega))) ?_
    split
    · rw [Int32.toInt_toInt64]; exact h P (by omega)
    · decide
theorem lcv_bd {b : Nat → Nat} {W : Nat → Int32} {s : Nat} : ∀ {P : Nat}, P ≤ 100 → (∀ k, k < P → (W k).toInt.natAbs ≤ 10000) → (lcv W b s P).toInt.natAbs ≤ 10000 * P := by
  intro P
  induction P with
  | zero => intro _ _; show (0 : Int64).toInt.natAbs ≤ _; decide
  | succ P ih =>
    intro hP h
    rw [lcv_s]
    refine acc_bd (by omega) (ih (by omega) (fun k hk => h k (by omega))) ?_
    split
    · decide
    · rw [Int32.toInt_toInt64]; exact h P (by omega)
theorem lsr_bd {W : Nat → Int32} : ∀ {P : Nat}, P ≤ 100 → (∀ k, k < P → (W k).toInt.natAbs ≤ 10000) → (lsr W P).toInt.natAbs ≤ 10000 * P := by
  intro P
  induction P with
  | zero => intro _ _; show (0 : Int64).toInt.natAbs ≤ _; decide
  | succ P ih =>
    intro hP h
    rw [lsr_s]
    exact acc_bd (by omega) (ih (by omega) (fun k hk => h k (by omega))) (by rw [Int32.toInt_toInt64]; exact h P (by omega))
theorem lct_z {a b : Nat → Nat} {W : Nat → Int32} : ∀ {P : Nat}, lct a b W 0 P = 0 := by
  intro P
  induction P with
  | zero => rfl
  | succ P ih =>
    rw [lct_s, ih, if_neg (by rw [hb_0]; simp)]
    rfl
theorem lcv_z {b : Nat → Nat} {W : Nat → Int32} : ∀ {P : Nat}, lcv W b 0 P = 0 := by
  intro P
  induction P with
  | zero => rfl
  | succ P ih =>
    rw [lcv_s, ih, if_pos (Nat.and_zero _)]
    rfl
theorem ix_abs {v : Int32} {B : Nat} (h : ix v (B + 1) = true) : v.toInt.natAbs ≤ B := by
  unfold ix at h
  have := of_decide_eq_true h
  omega
section LN
variable {c : cx} {X : nX} {Y : nY}
/-- one piece more: of both, the worth j's part of it -/
theorem Rel_mo {Z : nX} {n m b j kd P : Nat} {r : Nat → Nat} {A B E : Int32} {G F T : Nat → Int64} (hh : rl_h X n m) (ho : rl_o X Y n b r) (hs : ∀ s, s < 4 → rl_s1 X Y s) (hw : ∀ w, w < m → rl_w X Y n w) (hj : j < m) (hb : rl_b X n j kd P false) (hP : P < 24)
    (hZ : ∀ a, a ≠ 0 → a ≠ 2 + 7 * j → a ≠ 7 + 7 * j → Z a = X a) (hZ0 : ∀ k, Z 0 k = if k = 8 then nI 0 else X 0 k) (hZj : ∀ k, Z (2 + 7 * j) k = if k = 8 then nI (P + 1) else X (2 + 7 * j) k)
    (hG : ∀ i, i < 2 ^ n → G i = F i) (hF : ∀ i, i < 2 ^ n → (F i).toInt.natAbs ≤ 1000000000000) (hF0 : F 0 = 0) (hk : rl_k (x_mo (up2 Z 105 19 (nI 0)) j P A B E) (ywk (mpl Y (3 + 7 * j) 0 (2 ^ n) G) j F T (2 ^ n)) n j kd (P + 1)) :
    Rel (x_mo (up2 Z 105 19 (nI 0)) j P A B E) (ywk (mpl Y (3 + 7 * j) 0 (2 ^ n) G) j F T (2 ^ n)) := by
  obtain ⟨hn, hm, a6, a7, b6, b7, hcd⟩ := id hh
  have h2n := p2_le hn
  obtain ⟨q1, q2, q3, q4, q5, q6, q7, q8, q9⟩ := hb
  have eX : ∀ a, a ≠ 0 → a ≠ 2 + 7 * j → a ≠ 7 + 7 * j → a ≠ 105 → (a ≠ 109 ∧ a ≠ 110 ∧ a ≠ 111 ∧ a ≠ 112) → x_mo (up2 Z 105 19 (nI 0)) j P A B E a = X a := fun a g1 g2 g3 g4 g5 => by rw [mo_ne g5, up2_ne _ g4, hZ a g1 g2 g3]
  have e0 : ∀ k, x_mo (up2 Z 105 19 (nI 0)) j P A B E 0 k = if k = 8 then nI 0 else X 0 k := fun k => by rw [mo_ne (by omega), up2_ne _ (by omega), hZ0]
  have ej : ∀ k, x_mo (up2 Z 105 19 (nI 0)) j P A B E (2 + 7 * j) k = if k = 8 then nI (P + 1) else X (2 + 7 * j) k := fun k => by rw [mo_ne (by omega), up2_ne _ (by omega), hZj]
  have e105 : ∀ k, x_mo (up2 Z 105 19 (nI 0)) j P A B E 105 k = if k = 19 then nI 0 else X 105 k := fun k => by
    rw [mo_ne (by omega), up2_at]
    by_cases h9 : k = 19
    · rw [if_pos ⟨rfl, h9⟩, if_pos h9]
    · rw [if_neg (fun h8 => h9 h8.2), if_neg h9, hZ _ (by omega) (by omega) (by omega)]
  have wZ : ∀ w, w < m → w ≠ j → wfr X (x_mo (up2 Z 105 19 (nI 0)) j P A B E) Y Y w := fun w hw2 hwj => by
    refine wfr_t (wfr_t ?_ (wfr_up2 (X := Z) (by omega))) (wfr_mo (by omega) hwj hP)
    refine ⟨fun f _ => by rw [hZ _ (by omega) (by omega) (by omega)], hZ _ (by omega) (by omega) (by omega), hZ _ (by omega) (by omega) (by omega), hZ _ (by omega) (by omega) (by omega), rfl, by rw [hZ _ (by omega) (by omega) (by omega)], by rw [hZ _ (by omega) (by omega) (by omega)], fun k hk => ⟨by rw [hZ _ (by omega) (by omega) (by omega)], by rw [hZ _ (by omega) (by omega) (by omega)], by rw [hZ _ (by omega) (by omega) (by omega)]⟩, fun k hk => by rw [hZ _ (by omega) (by omega) (by omega)], fun k hk => by rw [hZ _ (by omega) (by omega) (by omega)], fun s hs => rfl⟩
  refine Rel_j ho hs hw hj q5 (fun a ha => eX a (by omega) (by omega) (by omega) (by omega) (by omega)) (oY_t (oY_mpl (by omega)) oY_ywk) ⟨hn, hm, ?_, ?_, ?_, ?_, ?_⟩ (fun w hw2 hwj => wfr_t (wfr_t (wZ w hw2 hwj) (wfr_mpl (by omega))) (wfr_ywk hwj (by omega) (by omega))) (fun q => by rw [eX _ (by omega) (by omega) (by omega) (by omega) (by omega)]) (fun w hw2 hwj => by rw [eX _ (by omega) (by omega) (by omega) (by omega) (by omega)]) ⟨kd, P + 1, false, ⟨?_, ?_, q3, ?_, ?_, ?_, ?_, ?_, ?_⟩, ⟨fun k hk => ?_, fun k hk => ?_, ?_⟩, hk⟩
  · rw [e0, if_neg (by omega)]; exact a6
  · rw [e0, if_neg (by omega)]; exact a7
  · rw [e105, if_neg (by omega)]; exact b6
  · rw [e105, if_neg (by omega)]; exact b7
  · rw [e0, if_pos rfl, e105, if_pos rfl]
  · rw [ej, if_neg (by omega)]; exact q1
  · rw [eX _ (by omega) (by omega) (by omega) (by omega) (by omega)]; exact q2
  · rw [ej, if_neg (by omega)]; exact q4
  · rw [eX _ (by omega) (by omega) (by omega) (by omega) (by omega)]; exact q5
  · rw [ej, if_neg (by omega)]; exact q6
  · rw [ej, if_neg (by omega)]; exact q7
  · rw [ej, if_pos rfl]
  · rw [mo_109, if_pos rfl]
  · rw [ywk_own hk]
    unfold ywk
    rw [srw_ne (by omega), mpl_ne (by omega), mpl_lt (by omega) hk]
    exact hG k hk
  · rw [ywk_own hk]; exact hF k hk
  · rw [ywk_own (by have := p2_1 (n := n); omega)]; exact hF0
theorem Z_ne {j P a : Nat} (h1 : a ≠ 0) (h2 : a ≠ 2 + 7 * j) : up2 (up2 X 0 8 (nI 0)) (2 + 7 * j) 8 (nI (P + 1)) a = X a := by rw [up2_ne _ h2, up2_ne _ h1]
theorem Z_0 {j P k : Nat} : up2 (up2 X 0 8 (nI 0)) (2 + 7 * j) 8 (nI (P + 1)) 0 k = if k = 8 then nI 0 else X 0 k := by
  rw [up2_ne _ (by omega), up2_at]
  by_cases h9 : k = 8
  · rw [if_pos ⟨rfl, h9⟩, if_pos h9]
  · rw [if_neg (fun h8 => h9 h8.2), if_neg h9]
theorem Z_j {j P k : Nat} : up2 (up2 X 0 8 (nI 0)) (2 + 7 * j) 8 (nI (P + 1)) (2 + 7 * j) k = if k = 8 then nI (P + 1) else X (2 + 7 * j) k := by
  rw [up2_at]
  by_cases h9 : k = 8
  · rw [if_pos ⟨rfl, h9⟩, if_pos h9]
  · rw [if_neg (fun h8 => h9 h8.2), if_neg h9, up2_ne _ (by omega)]
theorem st_line (h : Rel X Y) (w a b' v : Int32) : stI c mX7_line mX8_line [.int w, .int a, .int b', .int v] X Y := by
  obtain ⟨n, m, b, r, hh, ho, hs, hw⟩ := id h
  obtain ⟨hn, hm, a6, a7, b6, b7, hcd⟩ := id hh
  have h2n := p2_le hn
  cases hi : ix w m with
  | false => exact mkI (c_line_u hn a6 hm a7 (Or.inl hi)) (r_line_u hn b6 hm b7 (Or.inl hi)) rfl h
  | true =>
    cases hi2 : ix a n with
    | false => exact mkI (c_line_u hn a6 hm a7 (Or.inr (Or.inl hi2))) (r_line_u hn b6 hm b7 (Or.inr (Or.inl hi2))) rfl h
    | true =>
      cases hi3 : ix b' n with
      | false => exact mkI (c_line_u hn a6 hm a7 (Or.inr (Or.inr hi3))) (r_line_u hn b6 hm b7 (Or.inr (Or.inr hi3))) rfl h
      | true =>
        obtain ⟨j, hj, rfl⟩ := ix_t hi (by omega)
        obtain ⟨p, hp, rfl⟩ := ix_t hi2 (by omega)
        obtain ⟨q, hq, rfl⟩ := ix_t hi3 (by omega)
        cases hv : ix v 10001 with
        | false => exact mkI (c_line_o hn a6 hm a7 hj hp hq hv) (r_line_o hn b6 hm b7 hj hp hq hv) rfl h
        | true =>
          obtain ⟨kd, P, hd, hbb, ⟨v1, v2, v3⟩, hkk⟩ := hw j hj
          obtain ⟨q1, q2, q3, q4, q5, q6, q7, q8, q9⟩ := id hbb
          cases hd with
          | true => exact mkI (c_line_n1 hn a6 hm a7 hj hp hq hv q4) (r_line_n1 hn b6 hm b7 hj hp hq hv q5) rfl h
          | false =>
            by_cases hab : p = q
            · exact mkI (c_line_n2 hn a6 hm a7 hj hp hq hv q4 hab) (r_line_n2 hn b6 hm b7 hj hp hq hv q5 hab) rfl h
            · have eX : ∀ (k : Int32) a, a ≠ 0 → up2 X 0 8 k a = X a := fun k a q => up2_ne a q
              by_cases hk1 : kd = 1
              · subst hk1
                obtain ⟨p1, A, B, p2, p3⟩ := hkk.1 rfl
                rcases Nat.lt_or_ge P 24 with hP | hP
                · have z1 := c_line_k (c := c) (d := 6) (X := X) (Y := Y) hn a6 hm a7 hj hp hq hv q4 hab q1 q8 hP q6
                  generalize hZ : up2 (up2 X 0 8 (nI 0)) (2 + 7 * j) 8 (nI (P + 1)) = Z at z1
                  generalize hGG : f_line Y j p q v = G at z1
                  have zne : ∀ a, a ≠ 0 → a ≠ 2 + 7 * j → Z a = X a := fun a g1 g2 => by rw [← hZ]; exact Z_ne g1 g2
                  -- the pieces
                  have m110 : ∀ k, k < P + 1 → x_mo (up2 Z 105 19 (nI 0)) j P (nI p) (nI q) v 110 (24 * j + k) = nI (if k = P then p else A k) := fun k hk => by
                    rw [mo_110, up2_ne _ (by omega), zne _ (by omega) (by omega)]
                    by_cases h9 : k = P
                    · rw [if_pos h9, if_pos h9]
                    · rw [if_neg h9, if_neg h9]; exact (p2 k (by omega)).1
                  have m111 : ∀ k, k < P + 1 → x_mo (up2 Z 105 19 (nI 0)) j P (nI p) (nI q) v 111 (24 * j + k) = nI (if k = P then q else B k) := fun k hk => by
                    rw [mo_111, up2_ne _ (by omega), zne _ (by omega) (by omega)]
                    by_cases h9 : k = P
                    · rw [if_pos h9, if_pos h9]
                    · rw [if_neg h9, if_neg h9]; exact (p2 k (by omega)).2.1
                  have m112 : ∀ k, x_mo (up2 Z 105 19 (nI 0)) j P (nI p) (nI q) v 112 (24 * j + k) = if k = P then v else X 112 (24 * j + k) := fun k => by
                    rw [mo_112, up2_ne _ (by omega), zne _ (by omega) (by omega)]
                  have ha2 : ∀ k, k < P + 1 → (if k = P then p else A k) < n := fun k hk => by
                    split
                    · exact hp
                    · exact (p2 k (by omega)).2.2.1
                  have hb2 : ∀ k, k < P + 1 → (if k = P then q else B k) < n := fun k hk => by
                    split
                    · exact hq
                    · exact (p2 k (by omega)).2.2.2.1
                  have m6 : x_mo (up2 Z 105 19 (nI 0)) j P (nI p) (nI q) v 105 0 = nI n := by rw [mo_ne (by omega), up2_at, if_neg (by omega), zne _ (by omega) (by omega)]; exact b6
                  have mk : x_mo (up2 Z 105 19 (nI 0)) j P (nI p) (nI q) v 106 j = nI 1 := by rw [mo_ne (by omega), up2_ne _ (by omega), zne _ (by omega) (by omega)]; exact q2
                  have my : x_mo (up2 Z 105 19 (nI 0)) j P (nI p) (nI q) v 109 j = nI (P + 1) := by rw [mo_109, if_pos rfl]
                  have hwk := work_c (c := c) (d := 2) (Y := mpl Y (3 + 7 * j) 0 (2 ^ n) G) (w := j) (F := fun s => lct (fun k => if k = P then p else A k) (fun k => if k = P then q else B k) (fun k => x_mo (up2 Z 105 19 (nI 0)) j P (nI p) (nI q) v 112 (24 * j + k)) s (P + 1)) (by omega) hn m6 mk (by omega) (by omega) (fun i hi => m_worked1 (by omega) (P := P + 1) (by omega) my m110 m111 (fun k hk => by have := ha2 k hk; omega) (fun k hk => by have := hb2 k hk; omega) (by omega) mk)
                  have z2 := r_line_k (c := c) (d := 2) (X := Z) (Y := mpl Y (3 + 7 * j) 0 (2 ^ n) G) hn (by rw [zne _ (by omega) (by omega)]; exact b6) hm (by rw [zne _ (by omega) (by omega)]; exact b7) hj hp hq hv (by rw [zne _ (by omega) (by omega)]; exact q5) hab (by rw [zne _ (by omega) (by omega)]; exact q2) (by rw [zne _ (by omega) (by omega)]; exact q9) hP hwk
                  have hWb : ∀ k, k < P + 1 → (x_mo (up2 Z 105 19 (nI 0)) j P (nI p) (nI q) v 112 (24 * j + k)).toInt.natAbs ≤ 10000 := fun k hk => by
                    rw [m112]
                    split
                    · exact ix_abs hv
                    · exact (p2 k (by omega)).2.2.2.2
                  have hval : ∀ i, i < 2 ^ n → G i = lct (fun k => if k = P then p else A k) (fun k => if k = P then q else B k) (fun k => x_mo (up2 Z 105 19 (nI 0)) j P (nI p) (nI q) v 112 (24 * j + k)) i (P + 1) := fun i hi => by
                    have e1 : lct (fun k => if k = P then p else A k) (fun k => if k = P then q else B k) (fun k => x_mo (up2 Z 105 19 (nI 0)) j P (nI p) (nI q) v 112 (24 * j + k)) i P = vr Y j i := by
                      rw [p3 i hi]
                      refine lct_cg2 (fun k hk => ⟨if_neg (by omega), if_neg (by omega), ?_⟩)
                      rw [m112, if_neg (by omega)]
                    rw [lct_s, e1]
                    show G i = vr Y j i + (if hb i (if P = P then p else A P) = true ∧ hb i (if P = P then q else B P) = false then (x_mo (up2 Z 105 19 (nI 0)) j P (nI p) (nI q) v 112 (24 * j + P)).toInt64 else 0)
                    rw [m112, if_pos rfl, if_pos rfl, if_pos rfl, ← hGG]
                    unfold f_line
                    rw [v1 i hi]
                    by_cases h9 : hb i p = true ∧ hb i q = false
                    · rw [if_pos h9, if_pos h9]
                    · rw [if_neg h9, if_neg h9, Int64.add_zero]
                  refine mkI z1 z2 rfl ?_
                  refine Rel_mo hh ho hs hw hj hbb hP (fun a g1 g2 _ => zne a g1 g2) (fun k => by rw [← hZ]; exact Z_0) (fun k => by rw [← hZ]; exact Z_j) hval (fun i hi => ?_) lct_z ⟨fun _ => ⟨by omega, fun k => if k = P then p else A k, fun k => if k = P then q else B k, fun k hk => ⟨m110 k hk, m111 k hk, ha2 k hk, hb2 k hk, hWb k hk⟩, fun s hs => ?_⟩, fun e => by omega, fun e => by omega, fun e => by omega, fun e => by omega⟩
                  · have := lct_bd (a := fun k => if k = P then p else A k) (b := fun k => if k = P then q else B k) (s := i) (show P + 1 ≤ 100 by omega) hWb
                    omega
                  · rw [ywk_own hs]
                · have hPP : P = 24 := by omega
                  have z2 := r_line_f (c := c) (d := 2) (X := X) (Y := Y) hn b6 hm b7 hj hp hq hv q5 hab q2 q9 hPP
                  rw [up2_back] at z2
                  exact mkI (c_line_f hn a6 hm a7 hj hp hq hv q4 hab q1 q8 hPP) z2 rfl h
              · have n1 : ¬ X (2 + 7 * j) 5 = nI 1 := fun h9 => by rw [q1] at h9; exact hk1 ((nI_eq (by omega) (by decide)).mp h9)
                have n2 : ¬ up2 X 0 8 (nI 5) 106 j = nI 1 := fun h9 => by rw [eX _ _ (by omega), q2] at h9; exact hk1 ((nI_eq (by omega) (by decide)).mp h9)
                exact mkI (c_line_c hn a6 hm a7 hj hp hq hv q4 hab n1) (r_line_c hn (by rw [eX _ _ (by omega)]; exact b6) hm (by rw [eX _ _ (by omega)]; exact b7) hj hp hq hv (by rw [eX _ _ (by omega)]; exact q5) hab n2) rfl (Rel_code _ h)
theorem st_spot (h : Rel X Y) (w v s : Int32) : stI c mX7_spot mX8_spot [.int w, .int v, .int s] X Y := by
  obtain ⟨n, m, b, r, hh, ho, hs, hw⟩ := id h
  obtain ⟨hn, hm, a6, a7, b6, b7, hcd⟩ := id hh
  have h2n := p2_le hn
  cases hi : ix w m with
  | false => exact mkI (c_spot_u hn a6 hm a7 (Or.inl hi)) (r_spot_u hn b6 hm b7 (Or.inl hi)) rfl h
  | true =>
    cases hi2 : ix s (2 ^ n) with
    | false => exact mkI (c_spot_u hn a6 hm a7 (Or.inr hi2)) (r_spot_u hn b6 hm b7 (Or.inr hi2)) rfl h
    | true =>
      obtain ⟨j, hj, rfl⟩ := ix_t hi (by omega)
      obtain ⟨q, hq, rfl⟩ := ix_t hi2 (by omega)
      cases hv : ix v 10001 with
      | false => exact mkI (c_spot_o hn a6 hm a7 hj hq hv) (r_spot_o hn b6 hm b7 hj hq hv) rfl h
      | true =>
        obtain ⟨kd, P, hd, hbb, ⟨v1, v2, v3⟩, hkk⟩ := hw j hj
        obtain ⟨q1, q2, q3, q4, q5, q6, q7, q8, q9⟩ := id hbb
        cases hd with
        | true => exact mkI (c_spot_n hn a6 hm a7 hj hq hv q4) (r_spot_n hn b6 hm b7 hj hq hv q5) rfl h
        | false =>
          have eX : ∀ (k : Int32) a, a ≠ 0 → up2 X 0 8 k a = X a := fun k a q => up2_ne a q
          by_cases hk1 : kd = 2
          · subst hk1
            obtain ⟨p1, B, p2, p3⟩ := hkk.2.1 rfl
            rcases Nat.lt_or_ge P 24 with hP | hP
            · have z1 := c_spot_k (c := c) (d := 6) (X := X) (Y := Y) hn a6 hm a7 hj hq hv q4 q1 q8 hP q6
              generalize hZ : up2 (up2 X 0 8 (nI 0)) (2 + 7 * j) 8 (nI (P + 1)) = Z at z1
              generalize hGG : f_spot Y j v q = G at z1
              have zne : ∀ a, a ≠ 0 → a ≠ 2 + 7 * j → Z a = X a := fun a g1 g2 => by rw [← hZ]; exact Z_ne g1 g2
              have m110 : ∀ k, x_mo (up2 Z 105 19 (nI 0)) j P v (nI q) (nI 0) 110 (24 * j + k) = if k = P then v else X 110 (24 * j + k) := fun k => by
                rw [mo_110, up2_ne _ (by omega), zne _ (by omega) (by omega)]
              have m111 : ∀ k, k < P + 1 → x_mo (up2 Z 105 19 (nI 0)) j P v (nI q) (nI 0) 111 (24 * j + k) = nI (if k = P then q else B k) := fun k hk => by
                rw [mo_111, up2_ne _ (by omega), zne _ (by omega) (by omega)]
                by_cases h9 : k = P
                · rw [if_pos h9, if_pos h9]
                · rw [if_neg h9, if_neg h9]; exact (p2 k (by omega)).1
              have hb2 : ∀ k, k < P + 1 → (if k = P then q else B k) < 2 ^ n := fun k hk => by
                split
                · exact hq
                · exact (p2 k (by omega)).2.1
              have m6 : x_mo (up2 Z 105 19 (nI 0)) j P v (nI q) (nI 0) 105 0 = nI n := by rw [mo_ne (by omega), up2_at, if_neg (by omega), zne _ (by omega) (by omega)]; exact b6
              have mk : x_mo (up2 Z 105 19 (nI 0)) j P v (nI q) (nI 0) 106 j = nI 2 := by rw [mo_ne (by omega), up2_ne _ (by omega), zne _ (by omega) (by omega)]; exact q2
              have my : x_mo (up2 Z 105 19 (nI 0)) j P v (nI q) (nI 0) 109 j = nI (P + 1) := by rw [mo_109, if_pos rfl]
              have hwk := work_c (c := c) (d := 2) (Y := mpl Y (3 + 7 * j) 0 (2 ^ n) G) (w := j) (F := fun s => lcv (fun k => x_mo (up2 Z 105 19 (nI 0)) j P v (nI q) (nI 0) 110 (24 * j + k)) (fun k => if k = P then q else B k) s (P + 1)) (by omega) hn m6 mk (by omega) (by omega) (fun i hi => m_worked2 (by omega) (P := P + 1) (by omega) my m111 (fun k hk => by have := hb2 k hk; omega) (by omega) mk)
              have z2 := r_spot_k (c := c) (d := 2) (X := Z) (Y := mpl Y (3 + 7 * j) 0 (2 ^ n) G) hn (by rw [zne _ (by omega) (by omega)]; exact b6) hm (by rw [zne _ (by omega) (by omega)]; exact b7) hj hq hv (by rw [zne _ (by omega) (by omega)]; exact q5) (by rw [zne _ (by omega) (by omega)]; exact q2) (by rw [zne _ (by omega) (by omega)]; exact q9) hP hwk
              have hWb : ∀ k, k < P + 1 → (x_mo (up2 Z 105 19 (nI 0)) j P v (nI q) (nI 0) 110 (24 * j + k)).toInt.natAbs ≤ 10000 := fun k hk => by
                rw [m110]
                split
                · exact ix_abs hv
                · exact (p2 k (by omega)).2.2
              have hval : ∀ i, i < 2 ^ n → G i = lcv (fun k => x_mo (up2 Z 105 19 (nI 0)) j P v (nI q) (nI 0) 110 (24 * j + k)) (fun k => if k = P then q else B k) i (P + 1) := fun i hi => by
                have e1 : lcv (fun k => x_mo (up2 Z 105 19 (nI 0)) j P v (nI q) (nI 0) 110 (24 * j + k)) (fun k => if k = P then q else B k) i P = vr Y j i := by
                  rw [p3 i hi]
                  refine lcv_cg2 (fun k hk => ⟨if_neg (by omega), ?_⟩)
                  rw [m110, if_neg (by omega)]
                rw [lcv_s, e1]
                show G i = vr Y j i + (if (if P = P then q else B P) &&& i = 0 then 0 else (x_mo (up2 Z 105 19 (nI 0)) j P v (nI q) (nI 0) 110 (24 * j + P)).toInt64)
                rw [m110, if_pos rfl, if_pos rfl, ← hGG, Nat.and_comm]
                unfold f_spot
                rw [v1 i hi]
                by_cases h9 : i &&& q = 0
                · rw [if_pos h9, if_pos h9, Int64.add_zero]
                · rw [if_neg h9, if_neg h9]
              refine mkI z1 z2 rfl ?_
              refine Rel_mo hh ho hs hw hj hbb hP (fun a g1 g2 _ => zne a g1 g2) (fun k => by rw [← hZ]; exact Z_0) (fun k => by rw [← hZ]; exact Z_j) hval (fun i hi => ?_) lcv_z ⟨fun e => by omega, fun _ => ⟨by omega, fun k => if k = P then q else B k, fun k hk => ⟨m111 k hk, hb2 k hk, hWb k hk⟩, fun s hs => ?_⟩, fun e => by omega, fun e => by omega, fun e => by omega⟩
              · have := lcv_bd (b := fun k => if k = P then q else B k) (s := i) (show P + 1 ≤ 100 by omega) hWb
                omega
              · rw [ywk_own hs]
            · have hPP : P = 24 := by omega
              have z2 := r_spot_f (c := c) (d := 2) (X := X) (Y := Y) hn b6 hm b7 hj hq hv q5 q2 q9 hPP
              rw [up2_back] at z2
              exact mkI (c_spot_f hn a6 hm a7 hj hq hv q4 q1 q8 hPP) z2 rfl h
          · have n1 : ¬ X (2 + 7 * j) 5 = nI 2 := fun h9 => by rw [q1] at h9; exact hk1 ((nI_eq (by omega) (by decide)).mp h9)
            have n2 : ¬ up2 X 0 8 (nI 5) 106 j = nI 2 := fun h9 => by rw [eX _ _ (by omega), q2] at h9; exact hk1 ((nI_eq (by omega) (by decide)).mp h9)
            exact mkI (c_spot_c hn a6 hm a7 hj hq hv q4 n1) (r_spot_c hn (by rw [eX _ _ (by omega)]; exact b6) hm (by rw [eX _ _ (by omega)]; exact b7) hj hq hv (by rw [eX _ _ (by omega)]; exact q5) n2) rfl (Rel_code _ h)
theorem st_rise (h : Rel X Y) (w v : Int32) : stI c mX7_rise mX8_rise [.int w, .int v] X Y := by
  obtain ⟨n, m, b, r, hh, ho, hs, hw⟩ := id h
  obtain ⟨hn, hm, a6, a7, b6, b7, hcd⟩ := id hh
  have h2n := p2_le hn
  cases hi : ix w m with
  | false => exact mkI (c_rise_u hm a7 hi) (r_rise_u hm b7 hi) rfl h
  | true =>
    obtain ⟨j, hj, rfl⟩ := ix_t hi (by omega)
    cases hv : wi v.toInt64 (-10000) 10000 with
    | false => exact mkI (c_rise_o hm a7 hj hv) (r_rise_o hm b7 hj hv) rfl h
    | true =>
      have hvb : v.toInt.natAbs ≤ 10000 := by
        rw [wi_abs (B := 10000) rfl rfl, Int32.toInt_toInt64] at hv
        simpa using hv
      obtain ⟨kd, P, hd, hbb, ⟨v1, v2, v3⟩, hkk⟩ := hw j hj
      obtain ⟨q1, q2, q3, q4, q5, q6, q7, q8, q9⟩ := id hbb
      cases hd with
      | true => exact mkI (c_rise_n1 hn a6 hm a7 hj hv q4) (r_rise_n1 hn b6 hm b7 hj hv q5) rfl h
      | false =>
        have eX : ∀ (k : Int32) a, a ≠ 0 → up2 X 0 8 k a = X a := fun k a q => up2_ne a q
        by_cases hk1 : kd = 4
        · subst hk1
          obtain ⟨p1, p2⟩ := hkk.2.2.2.1 rfl
          rcases Nat.lt_or_ge P 10 with hP | hP
          · -- what both make of it
            have hZne : ∀ a, a ≠ 0 → a ≠ 2 + 7 * j → a ≠ 7 + 7 * j → x_rise (up2 X 0 8 (nI 0)) j P v a = X a := fun a g1 g2 g3 => by
              unfold x_rise
              rw [up2_ne _ g2]; funext k; rw [mpx_ne g3, up2_ne _ g1]
            have hZ0 : ∀ k, x_rise (up2 X 0 8 (nI 0)) j P v 0 k = if k = 8 then nI 0 else X 0 k := fun k => by
              unfold x_rise
              rw [up2_ne _ (by omega), mpx_ne (by omega), up2_at]
              by_cases h9 : k = 8
              · rw [if_pos ⟨rfl, h9⟩, if_pos h9]
              · rw [if_neg (fun h8 => h9 h8.2), if_neg h9]
            have hZj : ∀ k, x_rise (up2 X 0 8 (nI 0)) j P v (2 + 7 * j) k = if k = 8 then nI (P + 1) else X (2 + 7 * j) k := fun k => by
              unfold x_rise
              rw [up2_at]
              by_cases h9 : k = 8
              · rw [if_pos ⟨rfl, h9⟩, if_pos h9]
              · rw [if_neg (fun h8 => h9 h8.2), if_neg h9, mpx_ne (by omega), up2_ne _ (by omega)]
            have hZ7 : ∀ k, k < 10 → x_rise (up2 X 0 8 (nI 0)) j P v (7 + 7 * j) k = if P ≤ k then v else X (7 + 7 * j) k := fun k hk => by
              unfold x_rise
              rw [up2_ne _ (by omega), mpx_def]
              by_cases h9 : P ≤ k
              · rw [if_pos ⟨rfl, h9, hk⟩, if_pos h9]
              · rw [if_neg (fun h8 => h9 h8.2.1), if_neg h9, up2_ne _ (by omega)]
            have ck0 := fun hP0 => c_rise_k0 (c := c) (d := 6) (X := X) (Y := Y) hn a6 hm a7 hj hv q4 q1 q8 hP0 q6
            have ck1 := fun hP0 hvr => c_rise_k1 (c := c) (d := 6) (X := X) (Y := Y) hn a6 hm a7 hj hv q4 q1 q8 hP hP0 hvr q6
            generalize hGG : f_rise (x_rise (up2 X 0 8 (nI 0)) j P v) j = G at ck0 ck1
            generalize hZZ : x_rise (up2 X 0 8 (nI 0)) j P v = Z at ck0 ck1 hZne hZ0 hZj hZ7 hGG
            have m110 : ∀ k, x_mo (up2 Z 105 19 (nI 0)) j P v (nI 0) (nI 0) 110 (24 * j + k) = if k = P then v else X 110 (24 * j + k) := fun k => by
              rw [mo_110, up2_ne _ (by omega), hZne _ (by omega) (by omega) (by omega)]
            have m6 : x_mo (up2 Z 105 19 (nI 0)) j P v (nI 0) (nI 0) 105 0 = nI n := by rw [mo_ne (by omega), up2_at, if_neg (by omega), hZne _ (by omega) (by omega) (by omega)]; exact b6
            have mk : x_mo (up2 Z 105 19 (nI 0)) j P v (nI 0) (nI 0) 106 j = nI 4 := by rw [mo_ne (by omega), up2_ne _ (by omega), hZne _ (by omega) (by omega) (by omega)]; exact q2
            have my : x_mo (up2 Z 105 19 (nI 0)) j P v (nI 0) (nI 0) 109 j = nI (P + 1) := by rw [mo_109, if_pos rfl]
            have hwk := work_c (c := c) (d := 2) (Y := mpl Y (3 + 7 * j) 0 (2 ^ n) G) (w := j) (F := fun s => lsr (fun k => if k < P then X 110 (24 * j + k) else v) (cnt s 10)) (by omega) hn m6 mk (by omega) (by omega) (fun i hi => m_worked4 (by omega) (P := P + 1) (by omega) my (by omega) (W := fun k => if k < P then X 110 (24 * j + k) else v) (fun k hk => by
              rw [m110]
              by_cases h9 : k = P
              · rw [if_pos h9, if_neg (by omega)]
              · rw [if_neg h9, if_pos (by omega)]) (fun k hk => by
              rw [show P + 1 - 1 = P by omega, m110, if_pos rfl, if_neg (by omega)]) (by omega) mk)
            have hval : ∀ i, i < 2 ^ n → G i = lsr (fun k => if k < P then X 110 (24 * j + k) else v) (cnt i 10) := fun i hi => by
              rw [← hGG]
              unfold f_rise
              have hcl := cnt_le i 10
              refine lsr_cg (fun k hk => ?_)
              rw [hZ7 k (by omega)]
              by_cases h9 : P ≤ k
              · rw [if_pos h9, if_neg (by omega)]
              · rw [if_neg h9, if_pos (by omega)]; exact (p2 k (by omega)).1
            have hWb : ∀ k, (if k < P then X 110 (24 * j + k) else v).toInt.natAbs ≤ 10000 := fun k => by
              split
              · exact (p2 k (by omega)).2
              · exact hvb
            have hfin : Rel (x_mo (up2 Z 105 19 (nI 0)) j P v (nI 0) (nI 0)) (ywk (mpl Y (3 + 7 * j) 0 (2 ^ n) G) j (fun s => lsr (fun k => if k < P then X 110 (24 * j + k) else v) (cnt s 10)) (mpl Y (3 + 7 * j) 0 (2 ^ n) G 122) (2 ^ n)) := by
              refine Rel_mo hh ho hs hw hj hbb (by omega) hZne hZ0 hZj hval (fun i hi => ?_) (by show lsr _ (cnt 0 10) = 0; rw [show cnt 0 10 = 0 from by decide]; rfl) ⟨fun e => by omega, fun e => by omega, fun e => by omega, fun _ => ⟨by omega, fun k hk => ⟨?_, ?_⟩⟩, fun e => by omega⟩
              · have hcl := cnt_le i 10
                have := lsr_bd (W := fun k => if k < P then X 110 (24 * j + k) else v) (P := cnt i 10) (by omega) (fun k _ => hWb k)
                omega
              · rw [mo_ne (by omega), up2_ne _ (by omega), hZ7 k (by omega), m110]
                by_cases h9 : k = P
                · rw [if_pos (by omega), if_pos h9]
                · rw [if_neg (by omega), if_neg h9]; exact (p2 k (by omega)).1
              · rw [m110]
                split
                · exact hvb
                · exact (p2 k (by omega)).2
            by_cases hP0 : P = 0
            · exact mkI (ck0 hP0) (r_rise_k0 (d := 2) hn (by rw [hZne _ (by omega) (by omega) (by omega)]; exact b6) hm (by rw [hZne _ (by omega) (by omega) (by omega)]; exact b7) hj hv (by rw [hZne _ (by omega) (by omega) (by omega)]; exact q5) (by rw [hZne _ (by omega) (by omega) (by omega)]; exact q2) (by rw [hZne _ (by omega) (by omega) (by omega)]; exact q9) hP0 hwk) rfl hfin
            · have e1 : X (7 + 7 * j) (P - 1) = X 110 (24 * j + P - 1) := by rw [(p2 (P - 1) (by omega)).1, show 24 * j + (P - 1) = 24 * j + P - 1 by omega]
              by_cases hvr : v ≤ X (7 + 7 * j) (P - 1)
              · exact mkI (ck1 (by omega) hvr) (r_rise_k1 (d := 2) hn (by rw [hZne _ (by omega) (by omega) (by omega)]; exact b6) hm (by rw [hZne _ (by omega) (by omega) (by omega)]; exact b7) hj hv (by rw [hZne _ (by omega) (by omega) (by omega)]; exact q5) (by rw [hZne _ (by omega) (by omega) (by omega)]; exact q2) (by rw [hZne _ (by omega) (by omega) (by omega)]; exact q9) hP (by omega) (by rw [hZne _ (by omega) (by omega) (by omega), ← e1]; exact hvr) hwk) rfl hfin
              · have z2 := r_rise_n2 (c := c) (d := 2) (X := X) (Y := Y) hn b6 hm b7 hj hv q5 q2 q9 hP (by omega) (by rw [← e1]; exact hvr)
                rw [up2_back] at z2
                exact mkI (c_rise_n2 hn a6 hm a7 hj hv q4 q1 q8 hP (by omega) hvr) z2 rfl h
          · have hPP : P = 10 := by omega
            have z2 := r_rise_f (c := c) (d := 2) (X := X) (Y := Y) hn b6 hm b7 hj hv q5 q2 q9 hPP
            rw [up2_back] at z2
            exact mkI (c_rise_f hn a6 hm a7 hj hv q4 q1 q8 hPP) z2 rfl h
        · have n1 : ¬ X (2 + 7 * j) 5 = nI 4 := fun h9 => by rw [q1] at h9; exact hk1 ((nI_eq (by omega) (by decide)).mp h9)
          have n2 : ¬ up2 X 0 8 (nI 5) 106 j = nI 4 := fun h9 => by rw [eX _ _ (by omega), q2] at h9; exact hk1 ((nI_eq (by omega) (by decide)).mp h9)
          exact mkI (c_rise_c hn a6 hm a7 hj hv q4 n1) (r_rise_c hn (by rw [eX _ _ (by omega)]; exact b6) hm (by rw [eX _ _ (by omega)]; exact b7) hj hv (by rw [eX _ _ (by omega)]; exact q5) n2) rfl (Rel_code _ h)
end LN
