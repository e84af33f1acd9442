/-! what does not fall -/
theorem q_sec_in {V : Nat → Int64} {s a b : Nat} (h : hb s a = true ∨ hb s b = true) : q_sec V s a b = false := by
  unfold q_sec
  have : decide (s &&& (2 ^ a ||| 2 ^ b) = 0) = false := by
    apply decide_eq_false
    intro h9
    rcases h with h | h
    · have h8 : hb (s &&& (2 ^ a ||| 2 ^ b)) a = true := by rw [hb_and, hb_or, hb_p, h]; simp
      rw [h9, hb_0] at h8; cases h8
    · have h8 : hb (s &&& (2 ^ a ||| 2 ^ b)) b = true := by rw [hb_and, hb_or, hb_p, hb_p, h]; simp
      rw [h9, hb_0] at h8; cases h8
  rw [this]
  simp
theorem sub_toInt {x y : Int64} (hx : x.toInt.natAbs ≤ 1000000000000000000) (hy : y.toInt.natAbs ≤ 1000000000000000000) : (x - y).toInt = x.toInt - y.toInt := by
  rw [Int64.toInt_sub]
  apply Int.bmod_eq_of_le <;> omega
theorem add_toInt {x y : Int64} (hx : x.toInt.natAbs ≤ 4000000000000000000) (hy : y.toInt.natAbs ≤ 4000000000000000000) : (x + y).toInt = x.toInt + y.toInt := by
  rw [Int64.toInt_add]
  apply Int.bmod_eq_of_le <;> omega
theorem mul_toInt {x y : Int64} {A B : Nat} (hx : x.toInt.natAbs ≤ A) (hy : y.toInt.natAbs ≤ B) (h : A * B < 2 ^ 63) : (x * y).toInt = x.toInt * y.toInt ∧ (x * y).toInt.natAbs ≤ A * B := by
  have h1 := bmx hx hy
  have e : (x * y).toInt = x.toInt * y.toInt := by
    rw [Int64.toInt_mul]
    generalize x.toInt * y.toInt = p at h1 ⊢
    apply Int.bmod_eq_of_le <;> omega
  exact ⟨e, by rw [e]; exact h1⟩
def bdV (V : Nat → Int64) (S : Nat) : Prop := ∀ s, s < S → (V s).toInt.natAbs ≤ 1000000000000
theorem sec_eq {V V' : Nat → Int64} {n s a b : Nat} (hV : ∀ s, s < 2 ^ n → V s = V' s) (hB : bdV V' (2 ^ n)) (hs : s < 2 ^ n) (ha : a < n) (hb0 : b < n) (hsa : hb s a = false) : p_sec V s a b = q_sec V' s a b := by
  have l1 := xb_or hs ha
  have l2 := xb_or hs hb0
  have l3 := xb_or l1 hb0
  cases hsb : hb s b with
  | true =>
    rw [q_sec_in (Or.inr hsb)]
    unfold p_sec
    have e1 : s ||| 2 ^ b = s := hb_eq (fun u => by
      rw [hb_or, hb_p]
      by_cases h : b = u
      · subst h; rw [hsb]; rfl
      · simp [h])
    have e2 : s ||| 2 ^ a ||| 2 ^ b = s ||| 2 ^ a := hb_eq (fun u => by
      rw [hb_or, hb_or, hb_p, hb_p]
      by_cases h : b = u
      · subst h; rw [hsb]; simp
      · simp [h])
    rw [e1, e2, Int64.sub_self, Int64.sub_self]
    simp
  | false =>
    unfold p_sec q_sec
    have e0 : decide (s &&& (2 ^ a ||| 2 ^ b) = 0) = true := decide_eq_true (hb_eq (fun u => by
      rw [hb_and, hb_or, hb_p, hb_p, hb_0]
      by_cases h : a = u
      · subst h; rw [hsa]; rfl
      · by_cases h2 : b = u
        · subst h2; rw [hsb]; rfl
        · simp [h, h2]))
    rw [e0, Bool.true_and, ← Nat.or_assoc, hV _ l1, hV _ l2, hV _ l3, hV _ hs]
    congr 1
    have b0 := hB _ hs
    have b1 := hB _ l1
    have b2 := hB _ l2
    have b3 := hB _ l3
    rw [decide_eq_decide, Int64.lt_iff_toInt_lt, Int64.lt_iff_toInt_lt, sub_toInt (by omega) (by omega), sub_toInt (by omega) (by omega), add_toInt (by omega) (by omega), add_toInt (by omega) (by omega)]
    omega
theorem fst_eq {V V' : Nat → Int64} {n s a : Nat} (hV : ∀ s, s < 2 ^ n → V s = V' s) (hB : bdV V' (2 ^ n)) (hs : s < 2 ^ n) (ha : a < n) : p_fst V n s a = q_fst V' n s a := by
  unfold p_fst q_fst
  cases hsa : hb s a with
  | true =>
    rw [ff_none.mpr (fun b _ => q_sec_in (Or.inl hsa))]
    rfl
  | false =>
    rw [ff_congr (R := q_sec V' s a) (fun b hb0 => sec_eq hV hB hs ha hb0 hsa)]
    rfl
theorem brk_eq {V V' : Nat → Int64} {n s : Nat} (hV : ∀ s, s < 2 ^ n → V s = V' s) (hB : bdV V' (2 ^ n)) (hs : s < 2 ^ n) : p_brk V n s = q_brk V' n s := by
  unfold p_brk q_brk
  rw [ff_congr (R := q_fst V' n s) (fun a ha => fst_eq hV hB hs ha)]
theorem wrg_none {V V' : Nat → Int64} {n : Nat} (hV : ∀ s, s < 2 ^ n → V s = V' s) (hB : bdV V' (2 ^ n)) (h : ffind (p_brk V n) (2 ^ n) = none) : wrg V' n (2 ^ n) = -1 := by
  unfold wrg
  rw [← ff_congr (P := p_brk V n) (fun s hs => brk_eq hV hB hs), h]
theorem wrg_some {V V' : Nat → Int64} {n s : Nat} (hn : n ≤ 10) (hV : ∀ s, s < 2 ^ n → V s = V' s) (hB : bdV V' (2 ^ n)) (h : ffind (p_brk V n) (2 ^ n) = some s) : ∃ a b, s < 2 ^ n ∧ a < n ∧ b < n ∧ wrg V' n (2 ^ n) = nI (100 * s + 10 * a + b) ∧ ∀ X : nX, x_brk X V n (2 ^ n) 95 0 = nI s ∧ x_brk X V n (2 ^ n) 95 1 = nI a ∧ x_brk X V n (2 ^ n) 95 2 = nI b := by
  obtain ⟨h1, h2, -⟩ := ff_spec h
  have h3 : (ffind (p_fst V n s) n).isSome = true := h2
  cases h4 : ffind (p_fst V n s) n with
  | none => rw [h4] at h3; cases h3
  | some a =>
    obtain ⟨h5, h6, -⟩ := ff_spec h4
    unfold p_fst at h6
    have h7 := Bool.and_eq_true_iff.mp h6
    cases h8 : ffind (p_sec V s a) n with
    | none => rw [h8] at h7; exact absurd h7.2 (by decide)
    | some b =>
      have h9 := (ff_spec h8).1
      have hsa : hb s a = false := by simpa using h7.1
      refine ⟨a, b, h1, h5, h9, ?_, fun X => ?_⟩
      · apply wrg_at
        · rw [← ff_congr (P := p_brk V n) (fun s hs => brk_eq hV hB hs)]; exact h
        · rw [← ff_congr (P := p_fst V n s) (fun a ha => fst_eq hV hB h1 ha)]; exact h4
        · rw [← ff_congr (P := p_sec V s a) (fun b hb0 => sec_eq hV hB h1 h5 hb0 hsa)]; exact h8
      · have e : x_brk X V n (2 ^ n) = up2 (up2 (up2 X 95 0 (nI s)) 95 1 (nI a)) 95 2 (nI b) := by
          unfold x_brk
          rw [h]
          simp only [h4, h8]
          rfl
        rw [e]
        refine ⟨?_, ?_, ?_⟩ <;> simp [up2_at]
