/-! what loops look for -/
def ffind (P : Nat → Bool) : Nat → Option Nat
  | 0 => none
  | n + 1 => match ffind P n with
    | some k => some k
    | none => if P n = true then some n else none
theorem ff_step {P : Nat → Bool} {i : Nat} (h : ffind P i = none) (hp : P i = false) : ffind P (i + 1) = none := by
  simp [ffind, h, hp]
theorem ff_here {P : Nat → Bool} {i : Nat} (h : ffind P i = none) (hp : P i = true) : ffind P (i + 1) = some i := by
  simp [ffind, h, hp]
theorem ff_more {P : Nat → Bool} {i k : Nat} (h : ffind P i = some k) : ∀ n, ffind P (i + n) = some k := by
  intro n
  induction n with
  | zero => exact h
  | succ n ih => 
    show ffind P (i + n + 1) = some k
    simp [ffind, ih]
theorem ff_some {P : Nat → Bool} {i S : Nat} (h : ffind P i = none) (hp : P i = true) (hi : i < S) : ffind P S = some i := by
  have := ff_more (ff_here h hp) (S - (i + 1))
  rwa [show i + 1 + (S - (i + 1)) = S by omega] at this
theorem ff_none {P : Nat → Bool} {n : Nat} : ffind P n = none ↔ ∀ k, k < n → P k = false := by
  induction n with
  | zero => simp [ffind]
  | succ n ih =>
    constructor
    · intro h k hk
      cases h9 : ffind P n with
      | some q => simp [ffind, h9] at h
      | none =>
        have h1 := ih.mp h9
        by_cases h2 : k = n
        · subst h2
          simp [ffind, h9] at h
          exact h
        · exact h1 k (by omega)
    · intro h
      have h1 := ih.mpr (fun k hk => h k (by omega))
      exact ff_step h1 (h n (by omega))
theorem ff_spec {P : Nat → Bool} {n k : Nat} (h : ffind P n = some k) : k < n ∧ P k = true ∧ ∀ j, j < k → P j = false := by
  induction n with
  | zero => simp [ffind] at h
  | succ n ih =>
    cases h9 : ffind P n with
    | some q =>
      simp [ffind, h9] at h
      subst h
      have := ih h9
      exact ⟨by omega, this.2⟩
    | none =>
      simp [ffind, h9] at h
      obtain ⟨h1, rfl⟩ := h
      exact ⟨by omega, h1, ff_none.mp h9⟩
theorem ff_congr {P R : Nat → Bool} {n : Nat} (h : ∀ k, k < n → P k = R k) : ffind P n = ffind R n := by
  induction n with
  | zero => rfl
  | succ n ih => simp [ffind, ih (fun k hk => h k (by omega)), h n (by omega)]
def lany (P : Nat → Bool) (n : Nat) : Bool := (ffind P n).isSome
theorem lany_f {P : Nat → Bool} {n : Nat} (h : ffind P n = none) : lany P n = false := by simp [lany, h]
theorem lany_t {P : Nat → Bool} {i S : Nat} (h : ffind P i = none) (hp : P i = true) (hi : i < S) : lany P S = true := by simp [lany, ff_some h hp hi]
def fI (r : Option Nat) : Int32 := match r with
  | some k => nI k
  | none => -1
/-- how many of the first are such -/
def lcn (P : Nat → Bool) : Nat → Nat
  | 0 => 0
  | n + 1 => if P n = true then lcn P n + 1 else lcn P n
theorem lcn_le (P : Nat → Bool) (n : Nat) : lcn P n ≤ n := by
  induction n with
  | zero => exact Nat.le_refl 0
  | succ n ih =>
    unfold lcn
    split <;> omega
def lsr (R : Nat → Int32) : Nat → Int64
  | 0 => 0
  | n + 1 => lsr R n + (R n).toInt64
/-- the greatest gain: which, how much -/
def ggs (G : Nat → Int64) : Nat → Int32 × Int64
  | 0 => (-1, 0)
  | n + 1 => if G n ≤ (ggs G n).2 then ggs G n else (nI n, G n)
theorem ggs_in (G : Nat → Int64) (n : Nat) : (ggs G n).1 = -1 ∨ ∃ t, t < n ∧ (ggs G n).1 = nI t := by
  induction n with
  | zero => exact Or.inl rfl
  | succ n ih =>
    unfold ggs
    split
    · rcases ih with h | ⟨t, h1, h2⟩
      · exact Or.inl h
      · exact Or.inr ⟨t, by omega, h2⟩
    · exact Or.inr ⟨n, by omega, rfl⟩
/-- what greed comes to: V the values, n the things -/
def gset (V : Nat → Int64) (n : Nat) : Nat → Nat
  | 0 => 0
  | k + 1 => if (ggs (fun t => V (gset V n k ||| 2 ^ t) - V (gset V n k)) n).1 = -1 then gset V n k else gset V n k ||| 2 ^ (ggs (fun t => V (gset V n k ||| 2 ^ t) - V (gset V n k)) n).1.toNatClampNeg
theorem gset_lt (V : Nat → Int64) (n : Nat) (hn : n < 2 ^ 31) : ∀ k, gset V n k < 2 ^ n := by
  intro k
  induction k with
  | zero => exact Nat.two_pow_pos n
  | succ k ih =>
    unfold gset
    split
    · exact ih
    · rename_i h
      rcases ggs_in (fun t => V (gset V n k ||| 2 ^ t) - V (gset V n k)) n with h2 | ⟨t, h1, h2⟩
      · exact absurd h2 h
      · rw [h2, nI_clamp (by omega)]
        exact xb_or ih h1
theorem gset_stop {V : Nat → Int64} {n k : Nat} (h : (ggs (fun t => V (gset V n k ||| 2 ^ t) - V (gset V n k)) n).1 = -1) : ∀ j, gset V n (k + j) = gset V n k := by
  intro j
  induction j with
  | zero => rfl
  | succ j ih =>
    have e : gset V n (k + j + 1) = if (ggs (fun t => V (gset V n (k + j) ||| 2 ^ t) - V (gset V n (k + j))) n).1 = -1 then gset V n (k + j) else gset V n (k + j) ||| 2 ^ (ggs (fun t => V (gset V n (k + j) ||| 2 ^ t) - V (gset V n (k + j))) n).1.toNatClampNeg := rfl
    rw [show k + (j + 1) = k + j + 1 from rfl, e, ih, if_pos h]
