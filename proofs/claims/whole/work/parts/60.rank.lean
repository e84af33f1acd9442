/-! plain mathematics: sums, a kernel of more unknowns than equations, the rank of rows of four numbers -/
def zs (f : Nat → Int) : Nat → Int
  | 0 => 0
  | k + 1 => zs f k + f k
theorem zs_s (f : Nat → Int) (k : Nat) : zs f (k + 1) = zs f k + f k := rfl
theorem zs_c {f g : Nat → Int} {k : Nat} (h : ∀ j, j < k → f j = g j) : zs f k = zs g k := by
  induction k with
  | zero => rfl
  | succ k ih => rw [zs_s, zs_s, ih (fun j hj => h j (by omega)), h k (by omega)]
theorem zs_0 {f : Nat → Int} {k : Nat} (h : ∀ j, j < k → f j = 0) : zs f k = 0 := by
  induction k with
  | zero => rfl
  | succ k ih => rw [zs_s, ih (fun j hj => h j (by omega)), h k (by omega)]; rfl
theorem zs_lin (a b : Int) (f g : Nat → Int) (k : Nat) : zs (fun j => a * f j - b * g j) k = a * zs f k - b * zs g k := by
  induction k with
  | zero => simp [zs]
  | succ k ih => rw [zs_s, zs_s, zs_s, ih, Int.mul_add, Int.mul_add]; omega
theorem zs_one {f : Nat → Int} {k i : Nat} (hi : i < k) (h : ∀ j, j < k → j ≠ i → f j = 0) : zs f k = f i := by
  induction k with
  | zero => omega
  | succ k ih =>
    rw [zs_s]
    by_cases h1 : i = k
    · subst h1
      rw [zs_0 (fun j hj => h j (by omega) (by omega))]
      omega
    · rw [ih (by omega) (fun j hj hji => h j (by omega) hji), h k (by omega) (by omega)]
      omega
theorem zker : ∀ (k m : Nat) (A : Nat → Nat → Int), m < k → ∃ y : Nat → Int, (∃ j, j < k ∧ y j ≠ 0) ∧ ∀ i, i < m → zs (fun j => A i j * y j) k = 0 := by
  intro k
  induction k with
  | zero => intro m A hm; omega
  | succ k ih =>
    intro m A hm
    by_cases h : ∀ i, i < m → A i k = 0
    · refine ⟨fun j => if j = k then 1 else 0, ⟨k, by omega, by simp⟩, fun i hi => ?_⟩
      rw [zs_s, zs_0 (fun j hj => by show A i j * (if j = k then (1 : Int) else 0) = 0; rw [if_neg (by omega), Int.mul_zero])]
      simp [h i hi]
    · obtain ⟨i0, h0⟩ := Classical.not_forall.mp h
      obtain ⟨hi0, ha⟩ := Classical.not_imp.mp h0
      obtain ⟨y, ⟨j0, hj0, hy⟩, hs⟩ := ih (m - 1) (fun i j => A i0 k * A (if i = i0 then m - 1 else i) j - A (if i = i0 then m - 1 else i) k * A i0 j) (by omega)
      refine ⟨fun j => if j = k then - zs (fun j => A i0 j * y j) k else A i0 k * y j, ⟨j0, by omega, ?_⟩, ?_⟩
      · show (if j0 = k then _ else _) ≠ 0
        rw [if_neg (by omega)]
        exact Int.mul_ne_zero ha hy
      · intro i hi
        have e1 : zs (fun j => A i j * (if j = k then - zs (fun j => A i0 j * y j) k else A i0 k * y j)) k = A i0 k * zs (fun j => A i j * y j) k := by
          have := zs_lin (A i0 k) 0 (fun j => A i j * y j) (fun _ => 0) k
          simp only [Int.zero_mul, Int.sub_zero] at this
          rw [← this]
          apply zs_c
          intro j hj
          rw [if_neg (by omega), Int.mul_left_comm]
        rw [zs_s, e1]
        show _ + A i k * (if k = k then _ else _) = 0
        rw [if_pos rfl]
        by_cases h1 : i = i0
        · subst h1
          rw [Int.mul_neg]
          omega
        · have h2 := hs (if i = m - 1 then i0 else i) (by split <;> omega)
          have e2 : (if (if i = m - 1 then i0 else i) = i0 then m - 1 else (if i = m - 1 then i0 else i)) = i := by
            by_cases h3 : i = m - 1
            · rw [if_pos h3, if_pos rfl, h3]
            · rw [if_neg h3, if_neg h1]
          rw [e2] at h2
          have e3 := zs_lin (A i0 k) (A i k) (fun j => A i j * y j) (fun j => A i0 j * y j) k
          rw [← zs_c (f := fun j => (A i0 k * A i j - A i k * A i0 j) * y j) (fun j _ => by simp only [Int.sub_mul, Int.mul_assoc]), h2] at e3
          rw [Int.mul_neg]
          omega
def dt (u x : Nat → Int) : Int := u 0 * x 0 + u 1 * x 1 + u 2 * x 2 + u 3 * x 3
theorem dt_lin (a b : Int) (u w x : Nat → Int) : dt (fun c => u c * a - w c * b) x = a * dt u x - b * dt w x := by
  simp only [dt, Int.sub_mul, Int.mul_add, Int.mul_comm _ a, Int.mul_comm _ b, Int.mul_assoc]
  omega
theorem dt_c {u w x : Nat → Int} (h : ∀ c, c < 4 → u c = w c) : dt u x = dt w x := by
  simp only [dt, h 0 (by omega), h 1 (by omega), h 2 (by omega), h 3 (by omega)]
theorem dt_mul (a : Int) (u x : Nat → Int) : dt (fun c => a * u c) x = a * dt u x := by
  simp only [dt, Int.mul_add, Int.mul_assoc]
theorem dt_0 {u x : Nat → Int} (h : ∀ c, c < 4 → u c = 0) : dt u x = 0 := by
  simp only [dt, h 0 (by omega), h 1 (by omega), h 2 (by omega), h 3 (by omega), Int.zero_mul]
  rfl
def xpt (y : Nat → Int) (p : Nat → Nat) : Nat → (Nat → Int)
  | 0 => fun _ => 0
  | k + 1 => fun c => xpt y p k c + (if c = p k then y k else 0)
theorem dt_pt (u x : Nat → Int) (q : Nat) (v : Int) (h : q < 4) : dt u (fun c => x c + (if c = q then v else 0)) = dt u x + u q * v := by
  have hq : q = 0 ∨ q = 1 ∨ q = 2 ∨ q = 3 := by omega
  rcases hq with h1 | h1 | h1 | h1 <;> subst h1 <;> simp [dt, Int.mul_add] <;> omega
theorem dt_xpt (u y : Nat → Int) (p : Nat → Nat) (k : Nat) (h : ∀ j, j < k → p j < 4) : dt u (xpt y p k) = zs (fun j => u (p j) * y j) k := by
  induction k with
  | zero => simp [dt, xpt, zs]
  | succ k ih => rw [zs_s, ← ih (fun j hj => h j (by omega))]; exact dt_pt u _ (p k) (y k) (h k (by omega))
/-- rows with pivots: each later row is 0 at the earlier pivots -/
def ech (E : Nat → Nat → Int) (p : Nat → Nat) (r : Nat) : Prop := (∀ i, i < r → p i < 4 ∧ E i (p i) ≠ 0) ∧ ∀ i j, i < r → j < i → E i (p j) = 0
theorem z_uniq {E F : Nat → Nat → Int} {p : Nat → Nat} {r1 r2 : Nat} (hF : ech F p r2) (h : ∀ x, (∀ i, i < r1 → dt (E i) x = 0) → ∀ i, i < r2 → dt (F i) x = 0) : r2 ≤ r1 := by
  rcases Nat.lt_or_ge r1 r2 with hlt | hge
  · exfalso
    obtain ⟨y, ⟨j0, hj0, hy⟩, hs⟩ := zker r2 r1 (fun i j => E i (p j)) hlt
    have h4 : ∀ j, j < r2 → p j < 4 := fun j hj => (hF.1 j hj).1
    have h5 := h (xpt y p r2) (fun i hi => by rw [dt_xpt _ _ _ _ h4]; exact hs i hi)
    have h6 : ∀ e, e ≤ r2 → ∀ j, r2 - e ≤ j → j < r2 → y j = 0 := by
      intro e
      induction e with
      | zero => intro _ j hj hj2; omega
      | succ e ih =>
        intro he j hj hj2
        rcases Nat.lt_or_ge j (r2 - e) with h7 | h7
        · have h8 := h5 j hj2
          rw [dt_xpt _ _ _ _ h4, zs_one hj2 (fun j' hj' hne => by
            rcases Nat.lt_or_ge j' j with h9 | h9
            · rw [hF.2 j j' hj2 h9, Int.zero_mul]
            · rw [ih (by omega) j' (by omega) hj', Int.mul_zero])] at h8
          rcases Int.mul_eq_zero.mp h8 with h9 | h9
          · exact absurd h9 (hF.1 j hj2).2
          · exact h9
        · exact ih (by omega) j h7 hj2
    exact hy (h6 r2 (Nat.le_refl _) j0 (by omega) hj0)
  · exact hge
def nul (v : Nat → Nat → Int) (s n : Nat) (x : Nat → Int) : Prop := ∀ t, t < n → hb s t = true → dt (v t) x = 0
def rkOf (v : Nat → Nat → Int) (s n r : Nat) : Prop := ∃ (E : Nat → Nat → Int) (p : Nat → Nat), ech E p r ∧ ∀ x, (∀ i, i < r → dt (E i) x = 0) ↔ nul v s n x
theorem rk_mono {v v' : Nat → Nat → Int} {s s' n n' r r' : Nat} (h : rkOf v s n r) (h' : rkOf v' s' n' r') (hx : ∀ x, nul v s n x → nul v' s' n' x) : r' ≤ r := by
  obtain ⟨E, p, h1, h2⟩ := h
  obtain ⟨F, q, h3, h4⟩ := h'
  exact z_uniq h3 (fun x h5 => (h4 x).mpr (hx x ((h2 x).mp h5)))
theorem rk_uniq {v v' : Nat → Nat → Int} {s s' n n' r r' : Nat} (h : rkOf v s n r) (h' : rkOf v' s' n' r') (hx : ∀ x, nul v s n x ↔ nul v' s' n' x) : r = r' :=
  Nat.le_antisymm (rk_mono h' h (fun x => (hx x).mpr)) (rk_mono h h' (fun x => (hx x).mp))
theorem ech_le {E : Nat → Nat → Int} {p : Nat → Nat} {r : Nat} (h : ech E p r) : r ≤ 4 := by
  apply z_uniq (E := fun i c => if c = i then 1 else 0) h
  intro x hx i hi
  have h0 := hx 0 (by omega)
  have h1 := hx 1 (by omega)
  have h2 := hx 2 (by omega)
  have h3 := hx 3 (by omega)
  simp [dt] at h0 h1 h2 h3
  simp [dt, h0, h1, h2, h3]
theorem rk_le {v : Nat → Nat → Int} {s n r : Nat} (h : rkOf v s n r) : r ≤ 4 := by
  obtain ⟨E, p, h1, _⟩ := h
  exact ech_le h1
theorem ech_inj {E : Nat → Nat → Int} {p : Nat → Nat} {r i j : Nat} (h : ech E p r) (hi : i < r) (hj : j < i) : p j ≠ p i := by
  intro h9
  have h1 := h.2 i j hi hj
  rw [h9] at h1
  exact (h.1 i hi).2 h1
theorem ech_all {E : Nat → Nat → Int} {p : Nat → Nat} (h : ech E p 4) {c : Nat} (hc : c < 4) : ∃ j, j < 4 ∧ p j = c := by
  have a0 := (h.1 0 (by omega)).1
  have a1 := (h.1 1 (by omega)).1
  have a2 := (h.1 2 (by omega)).1
  have a3 := (h.1 3 (by omega)).1
  have b1 := ech_inj h (i := 1) (j := 0) (by omega) (by omega)
  have b2 := ech_inj h (i := 2) (j := 0) (by omega) (by omega)
  have b3 := ech_inj h (i := 2) (j := 1) (by omega) (by omega)
  have b4 := ech_inj h (i := 3) (j := 0) (by omega) (by omega)
  have b5 := ech_inj h (i := 3) (j := 1) (by omega) (by omega)
  have b6 := ech_inj h (i := 3) (j := 2) (by omega) (by omega)
  by_cases c0 : p 0 = c
  · exact ⟨0, by omega, c0⟩
  by_cases c1 : p 1 = c
  · exact ⟨1, by omega, c1⟩
  by_cases c2 : p 2 = c
  · exact ⟨2, by omega, c2⟩
  exact ⟨3, by omega, by omega⟩
/-- the bounds of the numbers while rows are freed -/
def bbd : Nat → Nat
  | 0 => 99
  | k + 1 => 2 * (bbd k * bbd k)
theorem bbd_s (k : Nat) : bbd (k + 1) = 2 * (bbd k * bbd k) := rfl
theorem bbd_3 : bbd 3 < 2 ^ 63 := by decide
theorem bbd_m (k : Nat) : bbd k ≤ bbd (k + 1) ∧ 1 ≤ bbd k := by
  have h1 : 1 ≤ bbd k := by
    induction k with
    | zero => decide
    | succ k ih =>
      have := Nat.mul_le_mul ih ih
      rw [bbd_s]
      omega
  have := Nat.mul_le_mul_left (bbd k) h1
  rw [bbd_s]
  exact ⟨by omega, h1⟩
theorem bmx {x y : Int} {A B : Nat} (hx : x.natAbs ≤ A) (hy : y.natAbs ≤ B) : (x * y).natAbs ≤ A * B := by
  rw [Int.natAbs_mul]
  exact Nat.mul_le_mul hx hy
theorem ms_toInt {a b c d : Int64} {A : Nat} (ha : a.toInt.natAbs ≤ A) (hb : b.toInt.natAbs ≤ A) (hc : c.toInt.natAbs ≤ A) (hd : d.toInt.natAbs ≤ A) (hA : 2 * (A * A) < 2 ^ 63) : (a * b - c * d).toInt = a.toInt * b.toInt - c.toInt * d.toInt ∧ (a * b - c * d).toInt.natAbs ≤ 2 * (A * A) := by
  have h1 := bmx ha hb
  have h2 := bmx hc hd
  have e : (a * b - c * d).toInt = a.toInt * b.toInt - c.toInt * d.toInt := by
    rw [Int64.toInt_sub, Int64.toInt_mul, Int64.toInt_mul]
    generalize a.toInt * b.toInt = p at h1 ⊢
    generalize c.toInt * d.toInt = q at h2 ⊢
    rw [Int.bmod_eq_of_le (n := p) (by omega) (by omega), Int.bmod_eq_of_le (n := q) (by omega) (by omega)]
    apply Int.bmod_eq_of_le <;> omega
  refine ⟨e, ?_⟩
  rw [e]
  generalize a.toInt * b.toInt = p at h1 ⊢
  generalize c.toInt * d.toInt = q at h2 ⊢
  omega
theorem cmf_dvd : ∀ (f : Nat) (x y : Int64), y.toInt.natAbs ≤ f → (cmf f x y).toInt ∣ x.toInt ∧ (cmf f x y).toInt ∣ y.toInt := by
  intro f
  induction f with
  | zero =>
    intro x y h
    have h0 : y.toInt = 0 := by omega
    rw [h0]
    exact ⟨Int.dvd_refl _, Int.dvd_zero _⟩
  | succ f ih =>
    intro x y h
    rw [cmf_s]
    by_cases h0 : y = 0
    · rw [if_pos h0, h0]
      exact ⟨Int.dvd_refl _, Int.dvd_zero _⟩
    · rw [if_neg h0]
      have h1 := rml_lt x y h0
      have h2 := ih y (x - x / y * y) (by omega)
      rw [rml_toInt x y h0] at h2
      refine ⟨?_, h2.1⟩
      have h3 := Int.tmod_add_mul_tdiv x.toInt y.toInt
      rw [← h3]
      exact Int.dvd_add h2.2 (Int.dvd_mul_of_dvd_left h2.1)
theorem szl_dvd {g : Int} {v : Int64} (h : g ∣ (szl v).toInt) : g ∣ v.toInt := by
  unfold szl at h
  by_cases h0 : 0 ≤ v
  · rw [if_pos h0] at h
    exact h
  · rw [if_neg h0, Int64.toInt_neg] at h
    have h2 := v.toInt_lt
    have h3 := v.le_toInt
    by_cases h4 : v.toInt = -2 ^ 63
    · rw [h4] at h ⊢
      exact h
    · rw [Int.bmod_eq_of_le (by omega) (by omega)] at h
      exact Int.dvd_neg.mp h
theorem cmn_dvd (a b : Int64) : (cmn a b).toInt ∣ a.toInt ∧ (cmn a b).toInt ∣ b.toInt := by
  have h := cmf_dvd (szl b).toInt.natAbs (szl a) (szl b) (Nat.le_refl _)
  exact ⟨szl_dvd h.1, szl_dvd h.2⟩
