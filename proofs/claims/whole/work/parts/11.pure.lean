/-! plain rows: truths of bounds, bits -/
theorem cvi {Q : Option Value → nX → nY → Prop} {X : nX} {Y : nY} {a b : Int32} (h : a = b) (hq : Q (some (.int b)) X Y) : Q (some (.int a)) X Y := h ▸ hq
theorem cvl {Q : Option Value → nX → nY → Prop} {X : nX} {Y : nY} {a b : Int64} (h : a = b) (hq : Q (some (.long b)) X Y) : Q (some (.long a)) X Y := h ▸ hq
theorem cvx {Q : Option Value → nX → nY → Prop} {r r' : Option Value} {X X' : nX} {Y Y' : nY} (h : r = r') (hx : X = X') (hy : Y = Y') (hq : Q r' X' Y') : Q r X Y := by subst h; subst hx; subst hy; exact hq
def wi (v lo hi : Int64) : Bool := decide (lo ≤ v) && decide (v ≤ hi)
/-- a number is the place of one of n things -/
def ix (w : Int32) (n : Nat) : Bool := decide (0 ≤ w.toInt ∧ w.toInt < n)
theorem ix_t {w : Int32} {n : Nat} (h : ix w n = true) (hn : n < 2 ^ 31) : ∃ j : Nat, j < n ∧ w = nI j := by
  unfold ix at h
  have h := of_decide_eq_true h
  refine ⟨w.toInt.toNat, by omega, ?_⟩
  apply Int32.toInt_inj.mp
  rw [nI_toInt (by omega)]
  omega
theorem ix_nI {j n : Nat} (hj : j < 2 ^ 31) : ix (nI j) n = decide (j < n) := by
  unfold ix
  rw [nI_toInt hj]
  by_cases h : j < n
  · simp [h]
  · simp [h]
theorem ix_of {j n : Nat} (h : j < n) (hn : n < 2 ^ 31) : ix (nI j) n = true := by rw [ix_nI (by omega)]; simp [h]
/-- between two numbers -/
def bw (v : Int32) (lo hi : Int) : Bool := decide (lo ≤ v.toInt ∧ v.toInt ≤ hi)
theorem wi_bw {v : Int32} {lo hi : Int64} {a b : Int} (ha : lo.toInt = a) (hb : hi.toInt = b) : wi v.toInt64 lo hi = bw v a b := by
  unfold wi bw
  rw [Bool.eq_iff_iff]
  simp only [Bool.and_eq_true, decide_eq_true_eq, Int64.le_iff_toInt_le, Int32.toInt_toInt64, ha, hb]
theorem wi_ix {v : Int32} {hi : Int64} {n : Nat} (hb : hi.toInt = (n : Int) - 1) : wi v.toInt64 0 hi = ix v n := by
  unfold wi ix
  rw [Bool.eq_iff_iff]
  simp only [Bool.and_eq_true, decide_eq_true_eq, Int64.le_iff_toInt_le, Int32.toInt_toInt64, hb, show (0 : Int64).toInt = 0 from rfl]
  omega
theorem wi_tt {v lo hi : Int64} (h1 : ¬ v < lo) (h2 : ¬ hi < v) : wi v lo hi = true := by
  unfold wi
  rw [Int64.lt_iff_toInt_lt] at h1 h2
  simp [Int64.le_iff_toInt_le]
  omega
theorem wi_f1 {v lo hi : Int64} (h1 : v < lo) : wi v lo hi = false := by
  unfold wi
  rw [Int64.lt_iff_toInt_lt] at h1
  simp [Int64.le_iff_toInt_le]
  omega
theorem wi_f2 {v lo hi : Int64} (h2 : hi < v) : wi v lo hi = false := by
  unfold wi
  rw [Int64.lt_iff_toInt_lt] at h2
  simp [Int64.le_iff_toInt_le]
  omega
theorem nI_s1 {n : Nat} (h : n < 2 ^ 30) : (nI n - nI 1).toInt = (n : Int) - 1 := pk_sub_toInt h (by decide)
theorem nI_s1l {n : Nat} (h : n < 2 ^ 30) : (nI n - nI 1).toInt64.toInt = (n : Int) - 1 := by rw [Int32.toInt_toInt64, nI_s1 h]
/-- bits -/
def hb (s t : Nat) : Bool := s.testBit t
theorem xb_lt {b : Nat} (h : b < 31) : 1 * 2 ^ b < 2 ^ 32 := by
  rw [Nat.one_mul]
  exact Nat.pow_lt_pow_right (by decide) (by omega)
theorem xb_p10 {t : Nat} (h : t < 10) : 2 ^ t < 1024 := by
  have : 2 ^ t < 2 ^ 10 := Nat.pow_lt_pow_right (by decide) h
  simpa using this
theorem xb_or {s t n : Nat} (hs : s < 2 ^ n) (ht : t < n) : s ||| 2 ^ t < 2 ^ n := Nat.or_lt_two_pow hs (Nat.pow_lt_pow_right (by decide) ht)
theorem xb_or10 {s t : Nat} (hs : s < 1024) (ht : t < 1024) : s ||| t < 1024 := Nat.or_lt_two_pow (n := 10) hs ht
theorem xb_and10 {s t : Nat} (hs : s < 1024) : s &&& t < 1024 := Nat.lt_of_le_of_lt Nat.and_le_left hs
theorem xb_xor10 {s t : Nat} (hs : s < 1024) (ht : t < 1024) : s ^^^ t < 1024 := Nat.xor_lt_two_pow (n := 10) hs ht
theorem xb_bit (s t : Nat) : s >>> t &&& 1 = (hb s t).toNat := by
  unfold hb
  rw [Nat.and_one_is_mod, Nat.shiftRight_eq_div_pow, Nat.testBit_eq_decide_div_mod_eq]
  have : s / 2 ^ t % 2 = 0 ∨ s / 2 ^ t % 2 = 1 := by omega
  rcases this with h | h <;> simp [h]
theorem xb_bit1 (s t : Nat) : s >>> t &&& 1 = 1 ↔ hb s t = true := by rw [xb_bit]; cases hb s t <;> simp
section SNB
variable {c : cx} {M : sm_M} {d : Nat} {Q : Option Value → nX → nY → Prop} {pc : Nat} {lv : List (Nat × Value)} {st : List Value} {X : nX} {Y : nY}
theorem sz_shl1 {b : Nat} (hd : decode M.2.1 pc = .ok (.ishl, 1)) (hb : b < 31) (k : ss c M d Q (pc + 1) lv (.int (nI (2 ^ b)) :: st) X Y) : ss c M d Q pc lv (.int (nI b) :: .int (nI 1) :: st) X Y := sz_ishl hd (by omega) (xb_lt hb) (by rw [Nat.one_shiftLeft]; exact k)
end SNB
