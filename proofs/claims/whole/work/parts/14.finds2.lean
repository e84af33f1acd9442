/-! words for the answers of the smaller classes -/
def cnt (s : Nat) : Nat → Nat
  | 0 => 0
  | n + 1 => cnt s n + (hb s n).toNat
theorem cnt_le (s n : Nat) : cnt s n ≤ n := by
  induction n with
  | zero => exact Nat.le_refl 0
  | succ n ih => 
    show cnt s n + (hb s n).toNat ≤ n + 1
    have : (hb s n).toNat ≤ 1 := Bool.toNat_le _
    omega
def p_sec (V : Nat → Int64) (s a : Nat) : Nat → Bool := fun b => decide (a < b) && decide (V (s ||| 2 ^ b) - V s < V (s ||| 2 ^ a ||| 2 ^ b) - V (s ||| 2 ^ a))
def p_fst (V : Nat → Int64) (n s : Nat) : Nat → Bool := fun a => !hb s a && (ffind (p_sec V s a) n).isSome
def p_brk (V : Nat → Int64) (n : Nat) : Nat → Bool := fun s => (ffind (p_fst V n s) n).isSome
def x_sec (X : nX) (s a : Nat) (r : Option Nat) : nX := match r with
  | some b => up2 (up2 (up2 X 95 0 (nI s)) 95 1 (nI a)) 95 2 (nI b)
  | none => X
theorem x_sec_none {X : nX} {s a : Nat} {r : Option Nat} (h : r.isSome = false) : x_sec X s a r = X := by
  cases r with
  | none => rfl
  | some b => cases h
def x_brk (X : nX) (V : Nat → Int64) (n S : Nat) : nX := match ffind (p_brk V n) S with
  | none => X
  | some s => match ffind (p_fst V n s) n with
    | none => X
    | some a => x_sec X s a (ffind (p_sec V s a) n)
/-- the least sets gathered -/
def lal (P : Nat → Bool) (l : Nat) : Nat → Nat
  | 0 => l
  | n + 1 => if P n = true then lal P l n &&& n else lal P l n
def lso (P : Nat → Bool) : Nat → Nat
  | 0 => 0
  | n + 1 => if P n = true then lso P n ||| n else lso P n
theorem lal_le (P : Nat → Bool) (l n : Nat) : lal P l n ≤ l := by
  induction n with
  | zero => exact Nat.le_refl _
  | succ n ih =>
    unfold lal
    split
    · exact Nat.le_trans Nat.and_le_left ih
    · exact ih
theorem lso_lt (P : Nat → Bool) {m n : Nat} (h : n ≤ 2 ^ m) : lso P n < 2 ^ m := by
  induction n with
  | zero => exact Nat.two_pow_pos m
  | succ n ih =>
    unfold lso
    split
    · exact Nat.or_lt_two_pow (ih (by omega)) (by omega)
    · exact ih (by omega)
def xls (X : nX) (h a b : Nat) (C : Nat → Nat) : nX := fun i k => if i = 96 ∧ k = 1 then nI h else if i = 96 ∧ k = 2 then nI a else if i = 96 ∧ k = 3 then nI b else if i = 97 ∧ k < 10 then nI (C k) else X i k
theorem xls_1 {X : nX} {h a b : Nat} {C : Nat → Nat} {v : Nat} : up2 (xls X h a b C) 96 1 (nI v) = xls X v a b C := by
  funext i k
  rw [up2_at]
  unfold xls
  by_cases h1 : i = 96 ∧ k = 1 <;> simp [h1]
theorem xls_2 {X : nX} {h a b : Nat} {C : Nat → Nat} {v : Nat} : up2 (xls X h a b C) 96 2 (nI v) = xls X h v b C := by
  funext i k
  rw [up2_at]
  unfold xls
  by_cases h1 : i = 96 <;> by_cases h2 : k = 2 <;> simp [h1, h2]
theorem xls_3 {X : nX} {h a b : Nat} {C : Nat → Nat} {v : Nat} : up2 (xls X h a b C) 96 3 (nI v) = xls X h a v C := by
  funext i k
  rw [up2_at]
  unfold xls
  by_cases h1 : i = 96 <;> by_cases h2 : k = 3 <;> simp [h1, h2]
theorem xls_c {X : nX} {h a b : Nat} {C : Nat → Nat} {t v : Nat} (ht : t < 10) : up2 (xls X h a b C) 97 t (nI v) = xls X h a b (fun k => if k = t then v else C k) := by
  funext i k
  rw [up2_at]
  unfold xls
  by_cases h1 : i = 97 <;> by_cases h2 : k = t <;> simp [h1, h2, ht]
theorem xls_at1 {X : nX} {h a b : Nat} {C : Nat → Nat} : xls X h a b C 96 1 = nI h := by simp [xls]
theorem xls_at2 {X : nX} {h a b : Nat} {C : Nat → Nat} : xls X h a b C 96 2 = nI a := by simp [xls]
theorem xls_at3 {X : nX} {h a b : Nat} {C : Nat → Nat} : xls X h a b C 96 3 = nI b := by simp [xls]
theorem xls_atc {X : nX} {h a b : Nat} {C : Nat → Nat} {t : Nat} (ht : t < 10) : xls X h a b C 97 t = nI (C t) := by simp [xls, ht]
theorem xls_ne {X : nX} {h a b : Nat} {C : Nat → Nat} {i k : Nat} (h1 : i ≠ 96) (h2 : i ≠ 97) : xls X h a b C i k = X i k := by simp [xls, h1, h2]
/-- what is in a is in k -/
def sbs (a k : Nat) : Bool := decide (a &&& k = a)
theorem i_sbs {a k : Nat} (ha : a < 2 ^ 31) (hk : k < 2 ^ 31) : nI a &&& (nI k ^^^ (-1)) = 0 ↔ sbs a k = true := by
  unfold sbs
  rw [decide_eq_true_iff, ← Int32.toBitVec_inj]
  show BitVec.ofNat 32 a &&& (BitVec.ofNat 32 k ^^^ BitVec.allOnes 32) = 0#32 ↔ _
  have e : ∀ i, i < 32 → (BitVec.ofNat 32 a &&& (BitVec.ofNat 32 k ^^^ BitVec.allOnes 32)).getLsbD i = (a.testBit i && !k.testBit i) := by
    intro i hi
    rw [BitVec.getLsbD_and, BitVec.getLsbD_xor, BitVec.getLsbD_ofNat, BitVec.getLsbD_ofNat, BitVec.getLsbD_allOnes]
    simp only [hi, decide_true, Bool.true_and, Bool.xor_true]
  constructor
  · intro h
    apply Nat.eq_of_testBit_eq
    intro i
    rw [Nat.testBit_and]
    by_cases hi : i < 32
    · have h2 := e i hi
      rw [h, BitVec.getLsbD_zero] at h2
      revert h2
      cases a.testBit i <;> cases k.testBit i <;> simp
    · have : a.testBit i = false := Nat.testBit_lt_two_pow (Nat.lt_of_lt_of_le ha (Nat.pow_le_pow_right (by decide) (by omega)))
      rw [this, Bool.false_and]
  · intro h
    apply BitVec.eq_of_getLsbD_eq
    intro i hi
    rw [e i hi, BitVec.getLsbD_zero]
    have h2 := congrArg (fun v => v.testBit i) h
    simp only [Nat.testBit_and] at h2
    revert h2
    cases a.testBit i <;> cases k.testBit i <;> simp
def p_com (C : Nat → Nat) (k : Nat) : Nat → Bool := fun t => hb k t && !(sbs (C t) k)
def p_fam (a b : Nat) (C : Nat → Nat) : Nat → Bool := fun k => sbs a k && (sbs k b && !(lany (p_com C k) 10))
/-- levels -/
def rlow (V : Nat → Int64) (R0 : Nat → Int64) : Nat → (Nat → Int64)
  | 0 => R0
  | i + 1 => vp_updL (rlow V R0 i) (cnt i 10) (if V i < rlow V R0 i (cnt i 10) then V i else rlow V R0 i (cnt i 10))
def nxt (R : Nat → Int64) (a : Nat) : Nat → Nat
  | 0 => a + 1
  | j + 1 => if (R (a + 2 + j) - R a) * lN (nxt R a j - a) ≤ (R (nxt R a j) - R a) * lN (a + 2 + j - a) then a + 2 + j else nxt R a j
theorem nxt_in (R : Nat → Int64) (a j : Nat) : a + 1 ≤ nxt R a j ∧ nxt R a j ≤ a + 1 + j := by
  induction j with
  | zero => exact ⟨Nat.le_refl _, Nat.le_refl _⟩
  | succ j ih =>
    unfold nxt
    split <;> omega
def tno (R : Nat → Int64) (n : Nat) : Nat → Nat
  | 0 => 0
  | i + 1 => nxt R (tno R n i) (n - (tno R n i + 1))
theorem tno_ge (R : Nat → Int64) (n i : Nat) : i ≤ tno R n i := by
  induction i with
  | zero => exact Nat.zero_le _
  | succ i ih =>
    have := (nxt_in R (tno R n i) (n - (tno R n i + 1))).1
    show i + 1 ≤ nxt R (tno R n i) (n - (tno R n i + 1))
    omega
theorem tno_le (R : Nat → Int64) {n i : Nat} (h : tno R n i < n) : tno R n (i + 1) ≤ n := by
  have := (nxt_in R (tno R n i) (n - (tno R n i + 1))).2
  show nxt R (tno R n i) (n - (tno R n i + 1)) ≤ n
  omega
def cdv (W : Nat) (C : Int64) : Nat → Nat
  | 0 => 1
  | e + 1 => if e = 0 then 1 else if W % (e + 1) = 0 ∧ C - C / lN (e + 1) * lN (e + 1) = 0 then e + 1 else cdv W C e
theorem cdv_in (W : Nat) (C : Int64) (e : Nat) : 1 ≤ cdv W C e ∧ (cdv W C e = 1 ∨ cdv W C e ≤ e) := by
  induction e with
  | zero => exact ⟨Nat.le_refl _, Or.inl rfl⟩
  | succ e ih =>
    unfold cdv
    split
    · exact ⟨Nat.le_refl _, Or.inl rfl⟩
    · split
      · exact ⟨by omega, Or.inr (Nat.le_refl _)⟩
      · exact ⟨ih.1, by omega⟩
/-- shares -/
def ahd (r : Nat → Nat) : Nat → Nat
  | 0 => 0
  | i + 1 => ahd r i ||| 2 ^ r i
theorem ahd_lt {r : Nat → Nat} {n m : Nat} (h : ∀ i, i < n → r i < m) : ∀ i, i ≤ n → ahd r i < 2 ^ m := by
  intro i
  induction i with
  | zero => exact fun _ => Nat.two_pow_pos m
  | succ i ih => 
    intro hi
    exact xb_or (ih (by omega)) (h i (by omega))
def cor (V : Nat → Int64) (r : Nat → Nat) (R0 : Nat → Int64) : Nat → (Nat → Int64)
  | 0 => R0
  | i + 1 => vp_updL (cor V r R0 i) (r i) (V (ahd r i ||| 2 ^ r i) - V (ahd r i))
def srw (Y : nY) (a : Nat) (R : Nat → Int64) : nY := fun b => if b = a then R else Y b
theorem srw_up {Y : nY} {a k : Nat} {R : Nat → Int64} {v : Int64} : upl (srw Y a R) a k v = srw Y a (vp_updL R k v) := by
  funext b
  unfold upl srw
  by_cases h : b = a <;> simp [h]
theorem srw_self {Y : nY} {a : Nat} : srw Y a (Y a) = Y := by
  funext b
  unfold srw
  by_cases h : b = a <;> simp [h]
theorem srw_at {Y : nY} {a : Nat} {R : Nat → Int64} : srw Y a R a = R := by simp [srw]
theorem srw_ne {Y : nY} {a b : Nat} {R : Nat → Int64} (h : b ≠ a) : srw Y a R b = Y b := by simp [srw, h]
def lsm (T : Nat → Int64) (s : Nat) : Nat → Int64
  | 0 => 0
  | t + 1 => if hb s t = true then lsm T s t + T t else lsm T s t
def lbl (T : Nat → Int64) : Nat → Int64
  | 0 => 0
  | t + 1 => lbl T t + (if 0 < T t then 0 else T t)
def p_in (V T : Nat → Int64) (n : Nat) (e : Int64) : Nat → Bool := fun s => decide (V s * e < lsm T s n)
def fIn (V T : Nat → Int64) (n S : Nat) (e : Int64) : Int32 := match ffind (p_in V T n e) S with
  | some s => nI s
  | none => if lsm T (S - 1) n < V (S - 1) * e then nI (S - 1) else -1
def mrw (R : Nat → Int32) (b q : Nat) (t : Int32) : Nat → Int32 := fun k => if k = q then t else if b ≤ k ∧ k < q then R (k + 1) else if q < k ∧ k ≤ b then R (k - 1) else R k
theorem mpx_d {X : nX} {a i hi : Nat} {F : Nat → Int32} {v : Int32} (h : i < hi) (hv : v = F i) : up2 (mpx X a (i + 1) hi F) a i v = mpx X a i hi F := by
  funext b k
  rw [up2_at]
  unfold mpx
  subst hv
  by_cases h1 : b = a <;> by_cases h2 : k = i
  · subst h2; simp [h1, h]
  · simp only [h1, h2, and_false, if_false, true_and]
    by_cases h3 : i + 1 ≤ k ∧ k < hi
    · rw [if_pos h3, if_pos ⟨by omega, h3.2⟩]
    · rw [if_neg h3, if_neg (by omega)]
  · simp [h1]
  · simp [h1]
theorem mpx_out {X : nX} {a lo hi k : Nat} {F : Nat → Int32} (h : k < lo ∨ hi ≤ k) : mpx X a lo hi F a k = X a k := by
  unfold mpx
  rw [if_neg (by omega)]
