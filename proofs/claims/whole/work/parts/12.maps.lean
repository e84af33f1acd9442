/-! rows of a cell changed from place lo to place i -/
def mpl (Y : nY) (a lo i : Nat) (F : Nat → Int64) : nY := fun b k => if b = a ∧ lo ≤ k ∧ k < i then F k else Y b k
def mpx (X : nX) (a lo i : Nat) (F : Nat → Int32) : nX := fun b k => if b = a ∧ lo ≤ k ∧ k < i then F k else X b k
theorem mpl_0 {Y : nY} {a lo : Nat} {F : Nat → Int64} : mpl Y a lo lo F = Y := by
  funext b k
  unfold mpl
  rw [if_neg (by omega)]
theorem mpx_0 {X : nX} {a lo : Nat} {F : Nat → Int32} : mpx X a lo lo F = X := by
  funext b k
  unfold mpx
  rw [if_neg (by omega)]
theorem mpl_s {Y : nY} {a lo i : Nat} {F : Nat → Int64} {v : Int64} (h : lo ≤ i) (hv : v = F i) : upl (mpl Y a lo i F) a i v = mpl Y a lo (i + 1) F := by
  funext b k
  rw [upl_at]
  unfold mpl
  subst hv
  by_cases h1 : b = a <;> by_cases h2 : k = i
  · subst h2; simp [h1, h]
  · simp only [h1, h2, and_false, if_false, true_and]
    by_cases h3 : lo ≤ k ∧ k < i
    · rw [if_pos h3, if_pos ⟨h3.1, by omega⟩]
    · rw [if_neg h3, if_neg (by omega)]
  · simp [h1]
  · simp [h1]
theorem mpx_s {X : nX} {a lo i : Nat} {F : Nat → Int32} {v : Int32} (h : lo ≤ i) (hv : v = F i) : up2 (mpx X a lo i F) a i v = mpx X a lo (i + 1) F := by
  funext b k
  rw [up2_at]
  unfold mpx
  subst hv
  by_cases h1 : b = a <;> by_cases h2 : k = i
  · subst h2; simp [h1, h]
  · simp only [h1, h2, and_false, if_false, true_and]
    by_cases h3 : lo ≤ k ∧ k < i
    · rw [if_pos h3, if_pos ⟨h3.1, by omega⟩]
    · rw [if_neg h3, if_neg (by omega)]
  · simp [h1]
  · simp [h1]
theorem mpl_k {Y : nY} {a lo i : Nat} {F : Nat → Int64} (hv : F i = Y a i) : mpl Y a lo i F = mpl Y a lo (i + 1) F := by
  funext b k
  unfold mpl
  by_cases h1 : b = a ∧ lo ≤ k ∧ k < i
  · rw [if_pos h1, if_pos ⟨h1.1, h1.2.1, by omega⟩]
  · rw [if_neg h1]
    by_cases h2 : b = a ∧ lo ≤ k ∧ k < i + 1
    · have : k = i := by omega
      subst this
      rw [if_pos h2, hv, h2.1]
    · rw [if_neg h2]
theorem mpl_at {Y : nY} {a lo i : Nat} {F : Nat → Int64} : mpl Y a lo i F a i = Y a i := by
  unfold mpl
  rw [if_neg (by omega)]
theorem mpx_at {X : nX} {a lo i : Nat} {F : Nat → Int32} : mpx X a lo i F a i = X a i := by
  unfold mpx
  rw [if_neg (by omega)]
theorem mpl_ge {Y : nY} {a lo i k : Nat} {F : Nat → Int64} (h : i ≤ k) : mpl Y a lo i F a k = Y a k := by
  unfold mpl
  rw [if_neg (by omega)]
theorem mpl_lt {Y : nY} {a lo i k : Nat} {F : Nat → Int64} (h0 : lo ≤ k) (h : k < i) : mpl Y a lo i F a k = F k := by
  unfold mpl
  rw [if_pos ⟨rfl, h0, h⟩]
theorem mpx_lt {X : nX} {a lo i k : Nat} {F : Nat → Int32} (h0 : lo ≤ k) (h : k < i) : mpx X a lo i F a k = F k := by
  unfold mpx
  rw [if_pos ⟨rfl, h0, h⟩]
theorem mpl_ne {Y : nY} {a lo i b k : Nat} {F : Nat → Int64} (h : b ≠ a) : mpl Y a lo i F b k = Y b k := by
  unfold mpl
  rw [if_neg (by omega)]
theorem mpx_ne {X : nX} {a lo i b k : Nat} {F : Nat → Int32} (h : b ≠ a) : mpx X a lo i F b k = X b k := by
  unfold mpx
  rw [if_neg (by omega)]
theorem mpl_def (Y : nY) (a lo i : Nat) (F : Nat → Int64) (b k : Nat) : mpl Y a lo i F b k = if b = a ∧ lo ≤ k ∧ k < i then F k else Y b k := rfl
theorem mpx_def (X : nX) (a lo i : Nat) (F : Nat → Int32) (b k : Nat) : mpx X a lo i F b k = if b = a ∧ lo ≤ k ∧ k < i then F k else X b k := rfl
section SEQ
variable {c : cx} {M : sm_M} {d : Nat} {Q : Option Value → nX → nY → Prop} {pc : Nat} {lv lv' : List (Nat × Value)} {st st' : List Value} {X X' : nX} {Y Y' : nY}
theorem ss_eY (h : Y = Y') (k : ss c M d Q pc lv st X Y') : ss c M d Q pc lv st X Y := by subst h; exact k
theorem ss_eX (h : X = X') (k : ss c M d Q pc lv st X' Y) : ss c M d Q pc lv st X Y := by subst h; exact k
theorem ss_eL (h : lv = lv') (k : ss c M d Q pc lv' st X Y) : ss c M d Q pc lv st X Y := by subst h; exact k
theorem ss_eS (h : st = st') (k : ss c M d Q pc lv st' X Y) : ss c M d Q pc lv st X Y := by subst h; exact k
theorem ss_tI {a b : Int32} (h : a = b) (k : ss c M d Q pc lv (.int b :: st) X Y) : ss c M d Q pc lv (.int a :: st) X Y := by subst h; exact k
theorem ss_tJ {a b : Int64} (h : a = b) (k : ss c M d Q pc lv (.long b :: st) X Y) : ss c M d Q pc lv (.long a :: st) X Y := by subst h; exact k
end SEQ
/-- what a row holds behind some steps -/
def lmn (V : Nat → Int64) : Nat → Int64
  | 0 => 0
  | n + 1 => if V n < lmn V n then V n else lmn V n
def lmx (p : Nat → Bool) (V : Nat → Int64) : Nat → Int64
  | 0 => 0
  | n + 1 => if p n = true then (if V n < lmx p V n then lmx p V n else V n) else lmx p V n
