/-! values alike on the sets give answers alike -/
theorem lmn_cg {V V' : Nat → Int64} : ∀ {S : Nat}, (∀ s, s < S → V s = V' s) → lmn V S = lmn V' S := by
  intro S
  induction S with
  | zero => intro _; rfl
  | succ S ih =>
    intro h
    show (if V S < lmn V S then V S else lmn V S) = (if V' S < lmn V' S then V' S else lmn V' S)
    rw [ih (fun s hs => h s (by omega)), h S (by omega)]
theorem lmx_cg {p : Nat → Bool} {V V' : Nat → Int64} : ∀ {S : Nat}, (∀ s, s < S → V s = V' s) → lmx p V S = lmx p V' S := by
  intro S
  induction S with
  | zero => intro _; rfl
  | succ S ih =>
    intro h
    show (if p S = true then (if V S < lmx p V S then lmx p V S else V S) else lmx p V S) = (if p S = true then (if V' S < lmx p V' S then lmx p V' S else V' S) else lmx p V' S)
    rw [ih (fun s hs => h s (by omega)), h S (by omega)]
theorem lcn_cg {P P' : Nat → Bool} : ∀ {n : Nat}, (∀ k, k < n → P k = P' k) → lcn P n = lcn P' n := by
  intro n
  induction n with
  | zero => intro _; rfl
  | succ n ih =>
    intro h
    show (if P n = true then lcn P n + 1 else lcn P n) = (if P' n = true then lcn P' n + 1 else lcn P' n)
    rw [ih (fun s hs => h s (by omega)), h n (by omega)]
theorem lal_cg {P P' : Nat → Bool} {l : Nat} : ∀ {n : Nat}, (∀ k, k < n → P k = P' k) → lal P l n = lal P' l n := by
  intro n
  induction n with
  | zero => intro _; rfl
  | succ n ih =>
    intro h
    show (if P n = true then lal P l n &&& n else lal P l n) = (if P' n = true then lal P' l n &&& n else lal P' l n)
    rw [ih (fun s hs => h s (by omega)), h n (by omega)]
theorem lso_cg {P P' : Nat → Bool} : ∀ {n : Nat}, (∀ k, k < n → P k = P' k) → lso P n = lso P' n := by
  intro n
  induction n with
  | zero => intro _; rfl
  | succ n ih =>
    intro h
    show (if P n = true then lso P n ||| n else lso P n) = (if P' n = true then lso P' n ||| n else lso P' n)
    rw [ih (fun s hs => h s (by omega)), h n (by omega)]
theorem ccm_cg {P P' : Nat → Bool} {l : Nat} : ∀ {n : Nat}, (∀ k, k < n → P k = P' k) → ccm P l n = ccm P' l n := by
  intro n
  induction n with
  | zero => intro _; rfl
  | succ n ih =>
    intro h
    show (if P n = true then cmx (ccm P l n) n 10 else ccm P l n) = (if P' n = true then cmx (ccm P' l n) n 10 else ccm P' l n)
    rw [ih (fun s hs => h s (by omega)), h n (by omega)]
theorem p_low_cg {V V' : Nat → Int64} {S : Nat} (h : ∀ s, s < S → V s = V' s) : ∀ k, k < S → p_low V S k = p_low V' S k := fun k hk => by unfold p_low; rw [h k hk, lmn_cg h]
theorem p_one_cg {V V' : Nat → Int64} {S : Nat} {q : Int32} (h : ∀ s, s < S → V s = V' s) : ∀ k, k < S → p_one V S q k = p_one V' S q k := fun k hk => by
  unfold p_one
  rw [p_low_cg h k hk, lcn_cg (P := p_low V S) (P' := p_low V' S) (fun j hj => p_low_cg h j (by omega))]
theorem lsm_cg {T T' : Nat → Int64} {s : Nat} : ∀ {n : Nat}, (∀ t, t < n → T t = T' t) → lsm T s n = lsm T' s n := by
  intro n
  induction n with
  | zero => intro _; rfl
  | succ n ih =>
    intro h
    show (if hb s n = true then lsm T s n + T n else lsm T s n) = (if hb s n = true then lsm T' s n + T' n else lsm T' s n)
    rw [ih (fun s hs => h s (by omega)), h n (by omega)]
theorem lbl_cg {T T' : Nat → Int64} : ∀ {n : Nat}, (∀ t, t < n → T t = T' t) → lbl T n = lbl T' n := by
  intro n
  induction n with
  | zero => intro _; rfl
  | succ n ih =>
    intro h
    show lbl T n + (if 0 < T n then 0 else T n) = lbl T' n + (if 0 < T' n then 0 else T' n)
    rw [ih (fun s hs => h s (by omega)), h n (by omega)]
theorem fIn_cg {V V' T T' : Nat → Int64} {n S : Nat} {e : Int64} (hS : 1 ≤ S) (h : ∀ s, s < S → V s = V' s) (ht : ∀ t, t < n → T t = T' t) : fIn V T n S e = fIn V' T' n S e := by
  unfold fIn
  rw [ff_congr (R := p_in V' T' n e) (fun k hk => by unfold p_in; rw [h k hk, lsm_cg ht]), lsm_cg ht, h (S - 1) (by omega)]
theorem fIn_neg {V T : Nat → Int64} {n S : Nat} {e : Int64} (hS : 1 ≤ S) (h3 : S ≤ 1024) : decide (fIn V T n S e < 0) = decide (fIn V T n S e = -1) := by
  have hp : ∀ k, k < 1024 → ¬ nI k < 0 := fun k hk h9 => by
    rw [Int32.lt_iff_toInt_lt, nI_toInt (by omega), show (0 : Int32).toInt = 0 from rfl] at h9
    omega
  unfold fIn
  cases h : ffind (p_in V T n e) S with
  | some s =>
    have h1 := (ff_spec h).1
    show decide (nI s < 0) = decide (nI s = -1)
    rw [decide_eq_false (hp s (by omega)), decide_eq_false (nI_nm1 (by omega))]
  | none =>
    show decide ((if lsm T (S - 1) n < V (S - 1) * e then nI (S - 1) else -1) < (0 : Int32)) = decide ((if lsm T (S - 1) n < V (S - 1) * e then nI (S - 1) else -1) = (-1 : Int32))
    by_cases h9 : lsm T (S - 1) n < V (S - 1) * e
    · rw [if_pos h9, decide_eq_false (hp (S - 1) (by omega)), decide_eq_false (nI_nm1 (by omega))]
    · rw [if_neg h9]; decide
theorem ggs_cg {G G' : Nat → Int64} : ∀ {n : Nat}, (∀ t, t < n → G t = G' t) → ggs G n = ggs G' n := by
  intro n
  induction n with
  | zero => intro _; rfl
  | succ n ih => intro h; rw [ggs_s, ggs_s, ih (fun s hs => h s (by omega)), h n (by omega)]
theorem gset_s (V : Nat → Int64) (n k : Nat) : gset V n (k + 1) = if (ggs (fun t => V (gset V n k ||| 2 ^ t) - V (gset V n k)) n).1 = -1 then gset V n k else gset V n k ||| 2 ^ (ggs (fun t => V (gset V n k ||| 2 ^ t) - V (gset V n k)) n).1.toNatClampNeg := rfl
theorem gset_cg {V V' : Nat → Int64} {n : Nat} (hn : n ≤ 10) (h : ∀ s, s < 2 ^ n → V s = V' s) : ∀ k, gset V n k = gset V' n k := by
  intro k
  induction k with
  | zero => rfl
  | succ k ih =>
    have hl := gset_lt V' n (by omega) k
    rw [gset_s, gset_s, ih, ggs_cg (G := fun t => V (gset V' n k ||| 2 ^ t) - V (gset V' n k)) (G' := fun t => V' (gset V' n k ||| 2 ^ t) - V' (gset V' n k)) (fun t ht => by rw [h _ (xb_or hl ht), h _ hl])]
theorem ggs_pos (G : Nat → Int64) (n : Nat) : 0 ≤ (ggs G n).2.toInt ∧ ((ggs G n).1 = -1 ∨ ∃ t, t < n ∧ (ggs G n).1 = nI t ∧ 0 < (G t).toInt) := by
  induction n with
  | zero => exact ⟨by show 0 ≤ (0 : Int64).toInt; decide, Or.inl rfl⟩
  | succ n ih =>
    rw [ggs_s]
    by_cases h : G n ≤ (ggs G n).2
    · rw [if_pos h]
      refine ⟨ih.1, ?_⟩
      rcases ih.2 with h1 | ⟨t, h1, h2⟩
      · exact Or.inl h1
      · exact Or.inr ⟨t, by omega, h2⟩
    · rw [if_neg h]
      rw [Int64.le_iff_toInt_le] at h
      have := ih.1
      exact ⟨by show 0 ≤ (G n).toInt; omega, Or.inr ⟨n, by omega, rfl, by omega⟩⟩
theorem cnt_or {s t : Nat} (h : hb s t = false) : ∀ m, cnt (s ||| 2 ^ t) m = cnt s m + (decide (t < m)).toNat := by
  intro m
  induction m with
  | zero => rfl
  | succ m ih =>
    rw [cnt_s, cnt_s, ih, hb_or, hb_p]
    by_cases h1 : t = m
    · subst h1
      rw [h]
      simp
    · have : decide (t < m + 1) = decide (t < m) := by
        by_cases h2 : t < m
        · rw [decide_eq_true h2, decide_eq_true (by omega)]
        · rw [decide_eq_false h2, decide_eq_false (by omega)]
      rw [this]
      simp [h1]
      omega
theorem cnt_gset {V : Nat → Int64} {n : Nat} (hn : n ≤ 10) : ∀ i, (∀ j, j < i → ¬ (ggs (fun t => V (gset V n j ||| 2 ^ t) - V (gset V n j)) n).1 = -1) → cnt (gset V n i) 10 = i := by
  intro i
  induction i with
  | zero => intro _; show cnt 0 10 = 0; decide
  | succ i ih =>
    intro h
    have h1 := ih (fun j hj => h j (by omega))
    have h2 := h i (by omega)
    rw [gset_s, if_neg h2]
    rcases (ggs_pos (fun t => V (gset V n i ||| 2 ^ t) - V (gset V n i)) n).2 with h3 | ⟨t, h3, h4, h5⟩
    · exact absurd h3 h2
    · rw [h4, nI_clamp (by omega)]
      have h6 : hb (gset V n i) t = false := by
        cases h7 : hb (gset V n i) t with
        | false => rfl
        | true =>
          have e : gset V n i ||| 2 ^ t = gset V n i := hb_eq (fun u => by
            rw [hb_or, hb_p]
            by_cases h8 : t = u
            · subst h8; rw [h7]; rfl
            · simp [h8])
          rw [e, Int64.sub_self] at h5
          exact absurd h5 (by decide)
      rw [cnt_or h6, h1, decide_eq_true (by omega)]
      rfl
/-! levels -/
theorem cnt_low : ∀ k, k ≤ 10 → cnt (2 ^ k - 1) 10 = k := by decide
theorem rlow_lvo {V R : Nat → Int64} {n k : Nat} (hn : n ≤ 10) (hk : k ≤ n) : ∀ i, i ≤ 2 ^ n → ((lvo V k i).1 = false → rlow V (rl0 R V n) i k = V (2 ^ k - 1) ∧ ∀ s, s < i → cnt s 10 ≠ k) ∧ ((lvo V k i).1 = true → (rlow V (rl0 R V n) i k = if (V (2 ^ k - 1)) < (lvo V k i).2 then V (2 ^ k - 1) else (lvo V k i).2) ∧ ∀ s, s < i → cnt s 10 = k → (lvo V k i).2.toInt ≤ (V s).toInt) := by
  intro i
  induction i with
  | zero => intro _; exact ⟨fun _ => ⟨by show (if k < n + 1 then _ else _) = _; rw [if_pos (by omega)], fun s hs => absurd hs (Nat.not_lt_zero _)⟩, fun h => absurd (show false = true from h) (by decide)⟩
  | succ i ih =>
    intro hi
    obtain ⟨h1, h2⟩ := ih (by omega)
    have e : rlow V (rl0 R V n) (i + 1) = vp_updL (rlow V (rl0 R V n) i) (cnt i 10) (if V i < rlow V (rl0 R V n) i (cnt i 10) then V i else rlow V (rl0 R V n) i (cnt i 10)) := rfl
    rw [e, lvo_s]
    by_cases hc : cnt i 10 = k
    · rw [hc, vpu_at]
      cases hb0 : (lvo V k i).1 with
      | false =>
        obtain ⟨a1, a2⟩ := h1 hb0
        rw [if_pos (c := k = k ∧ _) ⟨rfl, Or.inl rfl⟩, a1]
        refine ⟨fun h => absurd h (by simp), fun _ => ⟨?_, fun s hs hcs => ?_⟩⟩
        · by_cases h9 : V i < V (2 ^ k - 1)
          · rw [if_pos h9]
            show _ = if V (2 ^ k - 1) < V i then _ else V i
            rw [if_neg (by rw [Int64.lt_iff_toInt_lt] at h9 ⊢; omega)]
          · rw [if_neg h9]
            show _ = if V (2 ^ k - 1) < V i then _ else V i
            by_cases h8 : V (2 ^ k - 1) < V i
            · rw [if_pos h8]
            · rw [if_neg h8]
              apply Int64.toInt_inj.mp
              rw [Int64.lt_iff_toInt_lt] at h9 h8
              omega
        · rcases Nat.lt_or_ge s i with h9 | h9
          · exact absurd hcs (a2 s h9)
          · rw [show s = i by omega]; exact Int.le_refl _
      | true =>
        obtain ⟨a1, a2⟩ := h2 hb0
        rw [a1]
        by_cases h9 : V i < (lvo V k i).2
        · rw [if_pos (c := k = k ∧ _) ⟨rfl, Or.inr h9⟩]
          refine ⟨fun h => absurd h (by simp), fun _ => ⟨?_, fun s hs hcs => ?_⟩⟩
          · show _ = if V (2 ^ k - 1) < V i then _ else V i
            apply Int64.toInt_inj.mp
            rw [Int64.lt_iff_toInt_lt] at h9
            by_cases g1 : V (2 ^ k - 1) < (lvo V k i).2
            · rw [if_pos g1]
              rw [Int64.lt_iff_toInt_lt] at g1
              by_cases g2 : V i < V (2 ^ k - 1)
              · rw [if_pos g2, if_neg (by rw [Int64.lt_iff_toInt_lt] at g2 ⊢; omega)]
              · rw [if_neg g2]
                rw [Int64.lt_iff_toInt_lt] at g2
                by_cases g3 : V (2 ^ k - 1) < V i
                · rw [if_pos g3]
                · rw [if_neg g3]
                  rw [Int64.lt_iff_toInt_lt] at g3
                  omega
            · rw [if_neg g1]
              rw [Int64.lt_iff_toInt_lt] at g1
              rw [if_pos (by rw [Int64.lt_iff_toInt_lt]; omega), if_neg (by rw [Int64.lt_iff_toInt_lt]; omega)]
          · show (V i).toInt ≤ _
            rw [Int64.lt_iff_toInt_lt] at h9
            rcases Nat.lt_or_ge s i with h8 | h8
            · have := a2 s h8 hcs
              omega
            · rw [show s = i by omega]; exact Int.le_refl _
        · rw [if_neg (c := k = k ∧ _) (by
            intro h8
            rcases h8.2 with h7 | h7
            · cases h7
            · exact h9 h7)]
          rw [hb0]
          refine ⟨fun h => absurd h (by simp), fun _ => ⟨?_, fun s hs hcs => ?_⟩⟩
          · apply Int64.toInt_inj.mp
            rw [Int64.lt_iff_toInt_lt] at h9
            by_cases g1 : V (2 ^ k - 1) < (lvo V k i).2
            · rw [if_pos g1]
              rw [Int64.lt_iff_toInt_lt] at g1
              rw [if_neg (by rw [Int64.lt_iff_toInt_lt]; omega)]
            · rw [if_neg g1]
              rw [if_neg (by rw [Int64.lt_iff_toInt_lt]; omega)]
          · rcases Nat.lt_or_ge s i with h8 | h8
            · exact a2 s h8 hcs
            · rw [show s = i by omega]
              rw [Int64.lt_iff_toInt_lt] at h9
              omega
    · rw [vpu_ne (fun h => hc h.symm), if_neg (c := cnt i 10 = k ∧ _) (fun h => hc h.1)]
      refine ⟨fun h => ⟨(h1 h).1, fun s hs => ?_⟩, fun h => ⟨(h2 h).1, fun s hs hcs => ?_⟩⟩
      · rcases Nat.lt_or_ge s i with h8 | h8
        · exact (h1 h).2 s h8
        · rw [show s = i by omega]; exact hc
      · rcases Nat.lt_or_ge s i with h8 | h8
        · exact (h2 h).2 s h8 hcs
        · rw [show s = i by omega] at hcs; exact absurd hcs hc
theorem low_eq {V R : Nat → Int64} {n k : Nat} (hn : n ≤ 10) (hk : k ≤ n) : rlow V (rl0 R V n) (2 ^ n) k = (lvo V k (2 ^ n)).2 := by
  obtain ⟨h1, h2⟩ := rlow_lvo (V := V) (R := R) hn hk (2 ^ n) (Nat.le_refl _)
  have h3 : 2 ^ k - 1 < 2 ^ n := by
    have a := Nat.pow_le_pow_right (n := 2) (by decide) hk
    have b := Nat.one_le_two_pow (n := k)
    omega
  have h4 := cnt_low k (by omega)
  cases hb0 : (lvo V k (2 ^ n)).1 with
  | false => exact absurd h4 ((h1 hb0).2 _ h3)
  | true =>
    obtain ⟨a1, a2⟩ := h2 hb0
    rw [a1, if_neg]
    have := a2 _ h3 h4
    rw [Int64.lt_iff_toInt_lt]
    omega
theorem lvo_cg {V V' : Nat → Int64} {k : Nat} : ∀ {S : Nat}, (∀ s, s < S → V s = V' s) → lvo V k S = lvo V' k S := by
  intro S
  induction S with
  | zero => intro _; rfl
  | succ S ih => intro h; rw [lvo_s, lvo_s, ih (fun s hs => h s (by omega)), h S (by omega)]
theorem nxt_cg {R R' : Nat → Int64} {n a : Nat} (h : ∀ k, k ≤ n → R k = R' k) : ∀ j, a + 1 + j ≤ n → nxt R a j = nxt R' a j := by
  intro j
  induction j with
  | zero => intro _; rfl
  | succ j ih =>
    intro hj
    have h1 := nxt_in R' a j
    rw [nxt_s, nxt_s, ih (by omega), h _ (by omega), h a (by omega), h _ (show nxt R' a j ≤ n by omega)]
theorem tno_cg {R R' : Nat → Int64} {n : Nat} (h : ∀ k, k ≤ n → R k = R' k) : ∀ i, tno R n i = tno R' n i := by
  intro i
  induction i with
  | zero => rfl
  | succ i ih =>
    show nxt R (tno R n i) (n - (tno R n i + 1)) = nxt R' (tno R' n i) (n - (tno R' n i + 1))
    rw [ih]
    rcases Nat.lt_or_ge (tno R' n i) n with h9 | h9
    · exact nxt_cg h _ (by omega)
    · rw [show n - (tno R' n i + 1) = 0 by omega]
      rfl
theorem bcn_cg {R R' : Nat → Int64} {n : Nat} (h : ∀ k, k ≤ n → R k = R' k) : bcn R n = bcn R' n := by
  unfold bcn
  rw [ff_congr (R := fun i => decide (n ≤ tno R' n i)) (fun k _ => by rw [tno_cg h])]
/-! the common divisor -/
theorem cmf_gcd : ∀ (f : Nat) (x y : Int64) (a b : Nat), x.toInt = (a : Int) → y.toInt = (b : Int) → b ≤ f → (cmf f x y).toInt = ((Nat.gcd a b : Nat) : Int) := by
  intro f
  induction f with
  | zero =>
    intro x y a b hx hy hb0
    have : b = 0 := by omega
    subst this
    rw [Nat.gcd_zero_right]
    exact hx
  | succ f ih =>
    intro x y a b hx hy hb0
    rw [cmf_s]
    by_cases h0 : y = 0
    · rw [if_pos h0]
      have : b = 0 := by
        rw [h0] at hy
        have h9 : (0 : Int64).toInt = 0 := rfl
        omega
      subst this
      rw [Nat.gcd_zero_right]
      exact hx
    · rw [if_neg h0]
      have hb1 : b ≠ 0 := fun h9 => h0 (Int64.toInt_inj.mp (by rw [hy, h9]; rfl))
      have e : (x - x / y * y).toInt = ((a % b : Nat) : Int) := by
        rw [rml_toInt x y h0, hx, hy]
        exact (Int.ofNat_tmod a b).symm
      have hl := Nat.mod_lt a (show 0 < b by omega)
      rw [ih y (x - x / y * y) b (a % b) hy e (by omega), Nat.gcd_comm a b, Nat.gcd_rec b a, Nat.gcd_comm b]
theorem szl_abs {v : Int64} (h : v.toInt ≠ -2 ^ 63) : (szl v).toInt = (v.toInt.natAbs : Int) := by
  unfold szl
  have h2 := v.toInt_lt
  have h3 := v.le_toInt
  by_cases h0 : 0 ≤ v
  · rw [if_pos h0]
    rw [Int64.le_iff_toInt_le, show (0 : Int64).toInt = 0 from rfl] at h0
    omega
  · rw [if_neg h0, Int64.toInt_neg]
    rw [Int64.le_iff_toInt_le, show (0 : Int64).toInt = 0 from rfl] at h0
    rw [Int.bmod_eq_of_le (by omega) (by omega)]
    omega
theorem cmn_gcd {C : Int64} {W : Nat} (hC : C.toInt ≠ -2 ^ 63) (hW : W < 2 ^ 31) : (cmn C (lN W)).toInt = ((Nat.gcd C.toInt.natAbs W : Nat) : Int) := by
  unfold cmn
  have e : (szl (lN W)).toInt = (W : Int) := by
    rw [szl_abs (by rw [lN_toInt hW]; omega), lN_toInt hW]
    omega
  exact cmf_gcd _ _ _ _ _ (szl_abs hC) e (by rw [e]; omega)
theorem cdv_gcd {C : Int64} {W : Nat} (hW : 1 ≤ W) : ∀ e, e ≤ 100 → Nat.gcd C.toInt.natAbs W ≤ e → cdv W C e = Nat.gcd C.toInt.natAbs W := by
  have hg1 : 1 ≤ Nat.gcd C.toInt.natAbs W := Nat.gcd_pos_of_pos_right _ (by omega)
  intro e
  induction e with
  | zero => intro _ h; omega
  | succ e ih =>
    intro he h
    show (if e = 0 then 1 else if W % (e + 1) = 0 ∧ C - C / lN (e + 1) * lN (e + 1) = 0 then e + 1 else cdv W C e) = _
    by_cases h0 : e = 0
    · rw [if_pos h0]; omega
    · rw [if_neg h0]
      have hd : (C - C / lN (e + 1) * lN (e + 1) = 0) ↔ (e + 1) ∣ C.toInt.natAbs := by
        have hne : ¬ lN (e + 1) = 0 := fun h9 => by
          have := congrArg Int64.toInt h9
          rw [lN_toInt (by omega), show (0 : Int64).toInt = 0 from rfl] at this
          omega
        have h1 := rml_toInt C (lN (e + 1)) hne
        rw [lN_toInt (by omega)] at h1
        refine ⟨fun h9 => ?_, fun h9 => ?_⟩
        · rw [h9, show (0 : Int64).toInt = 0 from rfl] at h1
          have h2 := Int.dvd_of_tmod_eq_zero h1.symm
          exact Int.ofNat_dvd_left.mp h2
        · apply Int64.toInt_inj.mp
          rw [h1, show (0 : Int64).toInt = 0 from rfl]
          exact Int.tmod_eq_zero_of_dvd (Int.ofNat_dvd_left.mpr h9)
      by_cases h1 : W % (e + 1) = 0 ∧ C - C / lN (e + 1) * lN (e + 1) = 0
      · rw [if_pos h1]
        have h2 := Nat.dvd_gcd (hd.mp h1.2) (Nat.dvd_of_mod_eq_zero h1.1)
        have h3 := Nat.le_of_dvd (by omega) h2
        omega
      · rw [if_neg h1]
        refine ih (by omega) ?_
        have h2 : Nat.gcd C.toInt.natAbs W ≠ e + 1 := fun h9 => h1 ⟨Nat.mod_eq_zero_of_dvd (by rw [← h9]; exact Nat.gcd_dvd_right _ _), hd.mpr (by rw [← h9]; exact Nat.gcd_dvd_left _ _)⟩
        omega
theorem cdv_eq {C : Int64} {W : Nat} (hC : C.toInt ≠ -2 ^ 63) (hW : 1 ≤ W) (hW2 : W ≤ 100) : cmn C (lN W) = lN (cdv W C W) := by
  have h1 := Nat.gcd_le_right (n := W) C.toInt.natAbs (by omega)
  apply Int64.toInt_inj.mp
  rw [cmn_gcd hC (by omega), cdv_gcd hW W hW2 h1, lN_toInt (by omega)]
theorem lN_div {a b : Nat} (ha : a < 2 ^ 31) (hb : b < 2 ^ 31) : lN a / lN b = lN (a / b) := by
  have := Nat.div_le_self a b
  apply Int64.toInt_inj.mp
  rw [Int64.toInt_div_of_ne_left _ _ (fun h9 => by
    have h8 := congrArg Int64.toInt h9
    rw [lN_toInt ha] at h8
    have h7 : Int64.minValue.toInt = -2 ^ 63 := rfl
    omega), lN_toInt ha, lN_toInt hb, lN_toInt (by omega)]
  exact (Int.ofNat_tdiv a b).symm
