/-! plain mathematics: least sets closed, levels, the common divisor, greed, what does not fall -/
theorem hb_or {a b t : Nat} : hb (a ||| b) t = (hb a t || hb b t) := Nat.testBit_or a b t
theorem hb_and {a b t : Nat} : hb (a &&& b) t = (hb a t && hb b t) := Nat.testBit_and a b t
theorem hb_eq {a b : Nat} (h : ∀ t, hb a t = hb b t) : a = b := Nat.eq_of_testBit_eq h
theorem hb_last {n t : Nat} : hb (2 ^ n - 1) t = decide (t < n) := Nat.testBit_two_pow_sub_one n t
theorem hb_0 {t : Nat} : hb 0 t = false := Nat.zero_testBit t
theorem hb_p {t u : Nat} : hb (2 ^ t) u = decide (t = u) := Nat.testBit_two_pow
def sub (a k : Nat) : Prop := ∀ t, hb a t = true → hb k t = true
theorem sbs_sub {a k : Nat} : sbs a k = true ↔ sub a k := by
  unfold sbs
  rw [decide_eq_true_eq]
  refine ⟨fun h t ht => ?_, fun h => hb_eq (fun t => ?_)⟩
  · rw [← h, hb_and] at ht
    exact (Bool.and_eq_true_iff.mp ht).2
  · rw [hb_and]
    cases h1 : hb a t with
    | false => rfl
    | true => rw [h t h1]; rfl
theorem lal_sub {P : Nat → Bool} {l : Nat} : ∀ n t, hb (lal P l n) t = true ↔ hb l t = true ∧ ∀ k, k < n → P k = true → hb k t = true := by
  intro n
  induction n with
  | zero => intro t; exact ⟨fun h => ⟨h, fun k hk => absurd hk (Nat.not_lt_zero _)⟩, fun h => h.1⟩
  | succ n ih =>
    intro t
    cases hp : P n with
    | true =>
      rw [lal_t hp, hb_and, Bool.and_eq_true_iff, ih t]
      refine ⟨fun h => ⟨h.1.1, fun k hk hk2 => ?_⟩, fun h => ⟨⟨h.1, fun k hk => h.2 k (by omega)⟩, h.2 n (by omega) hp⟩⟩
      rcases Nat.lt_or_ge k n with h9 | h9
      · exact h.1.2 k h9 hk2
      · rw [show k = n by omega]; exact h.2
    | false =>
      rw [lal_f hp, ih t]
      refine ⟨fun h => ⟨h.1, fun k hk hk2 => ?_⟩, fun h => ⟨h.1, fun k hk => h.2 k (by omega)⟩⟩
      rcases Nat.lt_or_ge k n with h9 | h9
      · exact h.2 k h9 hk2
      · rw [show k = n by omega, hp] at hk2; cases hk2
theorem lso_sub {P : Nat → Bool} : ∀ n t, hb (lso P n) t = true ↔ ∃ k, k < n ∧ P k = true ∧ hb k t = true := by
  intro n
  induction n with
  | zero => intro t; refine ⟨fun h => ?_, fun h => ?_⟩; rw [show lso P 0 = 0 from rfl, hb_0] at h; cases h; obtain ⟨k, hk, _⟩ := h; exact absurd hk (Nat.not_lt_zero _)
  | succ n ih =>
    intro t
    cases hp : P n with
    | true =>
      rw [lso_t hp, hb_or, Bool.or_eq_true_iff, ih t]
      refine ⟨fun h => ?_, fun h => ?_⟩
      · rcases h with ⟨k, hk, h2⟩ | h
        · exact ⟨k, by omega, h2⟩
        · exact ⟨n, by omega, hp, h⟩
      · obtain ⟨k, hk, h2, h3⟩ := h
        rcases Nat.lt_or_ge k n with h9 | h9
        · exact Or.inl ⟨k, h9, h2, h3⟩
        · rw [show k = n by omega] at h3; exact Or.inr h3
    | false =>
      rw [lso_f hp, ih t]
      refine ⟨fun ⟨k, hk, h2⟩ => ⟨k, by omega, h2⟩, fun ⟨k, hk, h2, h3⟩ => ?_⟩
      rcases Nat.lt_or_ge k n with h9 | h9
      · exact ⟨k, h9, h2, h3⟩
      · rw [show k = n by omega, hp] at h2; cases h2
theorem ccm_sub {P : Nat → Bool} {l : Nat} {t : Nat} (ht : t < 10) : ∀ n u, hb (ccm P l n t) u = true ↔ hb l u = true ∧ ∀ k, k < n → P k = true → hb k t = true → hb k u = true := by
  intro n
  induction n with
  | zero => intro u; exact ⟨fun h => ⟨h, fun k hk => absurd hk (Nat.not_lt_zero _)⟩, fun h => h.1⟩
  | succ n ih =>
    intro u
    have e : ccm P l (n + 1) = if P n = true then cmx (ccm P l n) n 10 else ccm P l n := rfl
    rw [e]
    by_cases hp : P n = true
    · rw [if_pos hp]
      unfold cmx
      by_cases hh : hb n t = true
      · rw [if_pos ⟨ht, hh⟩, hb_and, Bool.and_eq_true_iff, ih u]
        refine ⟨fun h => ⟨h.1.1, fun k hk hk2 hk3 => ?_⟩, fun h => ⟨⟨h.1, fun k hk => h.2 k (by omega)⟩, h.2 n (by omega) hp hh⟩⟩
        rcases Nat.lt_or_ge k n with h9 | h9
        · exact h.1.2 k h9 hk2 hk3
        · rw [show k = n by omega]; exact h.2
      · rw [if_neg (fun h9 => hh h9.2), ih u]
        refine ⟨fun h => ⟨h.1, fun k hk hk2 hk3 => ?_⟩, fun h => ⟨h.1, fun k hk => h.2 k (by omega)⟩⟩
        rcases Nat.lt_or_ge k n with h9 | h9
        · exact h.2 k h9 hk2 hk3
        · rw [show k = n by omega] at hk3; exact absurd hk3 hh
    · rw [if_neg hp, ih u]
      refine ⟨fun h => ⟨h.1, fun k hk hk2 hk3 => ?_⟩, fun h => ⟨h.1, fun k hk => h.2 k (by omega)⟩⟩
      rcases Nat.lt_or_ge k n with h9 | h9
      · exact h.2 k h9 hk2 hk3
      · rw [show k = n by omega] at hk2; exact absurd hk2 hp
theorem lcn_mono {P F : Nat → Bool} {n : Nat} (h : ∀ k, k < n → P k = true → F k = true) : lcn P n ≤ lcn F n := by
  induction n with
  | zero => exact Nat.le_refl _
  | succ n ih =>
    have h1 := ih (fun k hk => h k (by omega))
    cases hp : P n with
    | true => rw [lcn_t hp, lcn_t (h n (by omega) hp)]; omega
    | false =>
      rw [lcn_f hp]
      cases hf : F n with
      | true => rw [lcn_t hf]; omega
      | false => rw [lcn_f hf]; exact h1
theorem lcn_eq {P F : Nat → Bool} {n : Nat} (h : ∀ k, k < n → P k = true → F k = true) : lcn F n = lcn P n ↔ ∀ k, k < n → F k = true → P k = true := by
  induction n with
  | zero => exact ⟨fun _ k hk => absurd hk (Nat.not_lt_zero _), fun _ => rfl⟩
  | succ n ih =>
    have h1 := ih (fun k hk => h k (by omega))
    have h2 := lcn_mono (P := P) (F := F) (n := n) (fun k hk => h k (by omega))
    have go : (∀ k, k < n + 1 → F k = true → P k = true) ↔ (∀ k, k < n → F k = true → P k = true) ∧ (F n = true → P n = true) := by
      refine ⟨fun g => ⟨fun k hk => g k (by omega), g n (by omega)⟩, fun g k hk hk2 => ?_⟩
      rcases Nat.lt_or_ge k n with h9 | h9
      · exact g.1 k h9 hk2
      · rw [show k = n by omega] at hk2 ⊢; exact g.2 hk2
    rw [go, ← h1]
    cases hp : P n with
    | true =>
      rw [lcn_t hp, lcn_t (h n (by omega) hp)]
      simp
    | false =>
      rw [lcn_f hp]
      cases hf : F n with
      | true => rw [lcn_t hf]; simp; omega
      | false => rw [lcn_f hf]; simp
/-- a family of sets that is closed, by its sets that are told: by pairs, or by companions -/
theorem closed_iff {P : Nat → Bool} {n : Nat} (hn : n ≤ 10) (hne : ∃ k, k < 2 ^ n ∧ P k = true) :
    (lcn (p_fam (lal P (2 ^ n - 1) (2 ^ n)) (lso P (2 ^ n)) (ccm P (2 ^ n - 1) (2 ^ n))) (2 ^ n) = lcn P (2 ^ n)) ↔ ∀ s, s < 2 ^ n → ∀ t, t < s → P s = true → P t = true → P (s &&& t) = true ∧ P (s ||| t) = true := by
  have hF : ∀ k, p_fam (lal P (2 ^ n - 1) (2 ^ n)) (lso P (2 ^ n)) (ccm P (2 ^ n - 1) (2 ^ n)) k = true ↔ sub (lal P (2 ^ n - 1) (2 ^ n)) k ∧ sub k (lso P (2 ^ n)) ∧ ∀ t, t < 10 → hb k t = true → sub (ccm P (2 ^ n - 1) (2 ^ n) t) k := fun k => by
    unfold p_fam
    rw [Bool.and_eq_true_iff, Bool.and_eq_true_iff, sbs_sub, sbs_sub]
    refine and_congr_right (fun _ => and_congr_right (fun _ => ?_))
    have e : (!lany (p_com (ccm P (2 ^ n - 1) (2 ^ n)) k) 10) = true ↔ ffind (p_com (ccm P (2 ^ n - 1) (2 ^ n)) k) 10 = none := by
      unfold lany
      cases ffind (p_com (ccm P (2 ^ n - 1) (2 ^ n)) k) 10 <;> simp
    rw [e, ff_none]
    refine ⟨fun h t ht hh => ?_, fun h t ht => ?_⟩
    · have := h t ht
      unfold p_com at this
      rw [hh] at this
      simp at this
      exact sbs_sub.mp this
    · unfold p_com
      cases hh : hb k t with
      | false => rfl
      | true => rw [sbs_sub.mpr (h t ht hh)]; rfl
  have hPF : ∀ k, k < 2 ^ n → P k = true → p_fam (lal P (2 ^ n - 1) (2 ^ n)) (lso P (2 ^ n)) (ccm P (2 ^ n - 1) (2 ^ n)) k = true := fun k hk hp => by
    rw [hF k]
    refine ⟨fun t ht => ((lal_sub _ t).mp ht).2 k hk hp, fun t ht => (lso_sub _ t).mpr ⟨k, hk, hp, ht⟩, fun t ht hh u hu => ((ccm_sub ht _ u).mp hu).2 k hk hp hh⟩
  rw [lcn_eq hPF]
  constructor
  · intro h s hs t hts ps pt
    have fs := (hF s).mp (hPF s hs ps)
    have ft := (hF t).mp (hPF t (by omega) pt)
    refine ⟨h _ (Nat.lt_of_le_of_lt Nat.and_le_left hs) ((hF _).mpr ⟨fun u hu => ?_, fun u hu => ?_, fun u hu hh v hv => ?_⟩), h _ (Nat.or_lt_two_pow hs (by omega)) ((hF _).mpr ⟨fun u hu => ?_, fun u hu => ?_, fun u hu hh v hv => ?_⟩)⟩
    · rw [hb_and, fs.1 u hu, ft.1 u hu]; rfl
    · rw [hb_and] at hu; exact fs.2.1 u (Bool.and_eq_true_iff.mp hu).1
    · rw [hb_and, Bool.and_eq_true_iff] at hh
      rw [hb_and, fs.2.2 u hu hh.1 v hv, ft.2.2 u hu hh.2 v hv]; rfl
    · rw [hb_or, fs.1 u hu]; rfl
    · rw [hb_or, Bool.or_eq_true_iff] at hu
      rcases hu with hu | hu
      · exact fs.2.1 u hu
      · exact ft.2.1 u hu
    · rw [hb_or, Bool.or_eq_true_iff] at hh
      rw [hb_or]
      rcases hh with hh | hh
      · rw [fs.2.2 u hu hh v hv]; rfl
      · rw [ft.2.2 u hu hh v hv]; simp
  · intro h
    -- both ways, and a set with itself
    have hand : ∀ s t, s < 2 ^ n → t < 2 ^ n → P s = true → P t = true → P (s &&& t) = true := fun s t hs ht ps pt => by
      rcases Nat.lt_trichotomy t s with h9 | h9 | h9
      · exact (h s hs t h9 ps pt).1
      · rw [h9, Nat.and_self]; exact ps
      · rw [Nat.and_comm]; exact (h t ht s h9 pt ps).1
    have hor : ∀ s t, s < 2 ^ n → t < 2 ^ n → P s = true → P t = true → P (s ||| t) = true := fun s t hs ht ps pt => by
      rcases Nat.lt_trichotomy t s with h9 | h9 | h9
      · exact (h s hs t h9 ps pt).2
      · rw [h9, Nat.or_self]; exact ps
      · rw [Nat.or_comm]; exact (h t ht s h9 pt ps).2
    -- what all of some sets have, is one of them
    have hall : ∀ (C : Nat → Bool), (∃ k, k < 2 ^ n ∧ P k = true ∧ C k = true) → ∃ g, g < 2 ^ n ∧ P g = true ∧ ∀ u, hb g u = true ↔ hb (2 ^ n - 1) u = true ∧ ∀ k, k < 2 ^ n → P k = true → C k = true → hb k u = true := by
      intro C hex
      have key : ∀ m, m ≤ 2 ^ n → (∀ k, k < m → P k = true → C k = true → False) ∨ ∃ g, g < 2 ^ n ∧ P g = true ∧ ∀ u, hb g u = true ↔ hb (2 ^ n - 1) u = true ∧ ∀ k, k < m → P k = true → C k = true → hb k u = true := by
        intro m
        induction m with
        | zero => intro _; exact Or.inl (fun k hk => absurd hk (Nat.not_lt_zero _))
        | succ m ih =>
          intro hm
          by_cases hc : P m = true ∧ C m = true
          · rcases ih (by omega) with h1 | ⟨g, g1, g2, g3⟩
            · refine Or.inr ⟨m, by omega, hc.1, fun u => ⟨fun hu => ⟨?_, fun k hk k2 k3 => ?_⟩, fun hu => hu.2 m (by omega) hc.1 hc.2⟩⟩
              · rw [hb_last]
                rcases Nat.lt_or_ge u n with h9 | h9
                · exact decide_eq_true h9
                · rw [hb_ge (show m < 2 ^ n by omega) h9] at hu; cases hu
              · rcases Nat.lt_or_ge k m with h9 | h9
                · exact absurd (h1 k h9 k2 k3) id
                · rw [show k = m by omega]; exact hu
            · refine Or.inr ⟨g &&& m, Nat.lt_of_le_of_lt Nat.and_le_left g1, hand g m g1 (by omega) g2 hc.1, fun u => ?_⟩
              rw [hb_and, Bool.and_eq_true_iff, g3 u]
              refine ⟨fun hu => ⟨hu.1.1, fun k hk k2 k3 => ?_⟩, fun hu => ⟨⟨hu.1, fun k hk => hu.2 k (by omega)⟩, hu.2 m (by omega) hc.1 hc.2⟩⟩
              rcases Nat.lt_or_ge k m with h9 | h9
              · exact hu.1.2 k h9 k2 k3
              · rw [show k = m by omega]; exact hu.2
          · rcases ih (by omega) with h1 | ⟨g, g1, g2, g3⟩
            · refine Or.inl (fun k hk k2 k3 => ?_)
              rcases Nat.lt_or_ge k m with h9 | h9
              · exact h1 k h9 k2 k3
              · rw [show k = m by omega] at k2 k3; exact hc ⟨k2, k3⟩
            · refine Or.inr ⟨g, g1, g2, fun u => ?_⟩
              rw [g3 u]
              refine ⟨fun hu => ⟨hu.1, fun k hk k2 k3 => ?_⟩, fun hu => ⟨hu.1, fun k hk => hu.2 k (by omega)⟩⟩
              rcases Nat.lt_or_ge k m with h9 | h9
              · exact hu.2 k h9 k2 k3
              · rw [show k = m by omega] at k2 k3; exact absurd ⟨k2, k3⟩ hc
      rcases key (2 ^ n) (Nat.le_refl _) with h1 | h1
      · obtain ⟨k, k1, k2, k3⟩ := hex
        exact absurd (h1 k k1 k2 k3) id
      · exact h1
    have ha : P (lal P (2 ^ n - 1) (2 ^ n)) = true := by
      obtain ⟨k, k1, k2⟩ := hne
      obtain ⟨g, g1, g2, g3⟩ := hall (fun _ => true) ⟨k, k1, k2, rfl⟩
      have : lal P (2 ^ n - 1) (2 ^ n) = g := hb_eq (fun u => by
        apply Bool.eq_iff_iff.mpr
        rw [lal_sub, g3 u]
        exact ⟨fun q => ⟨q.1, fun k hk k2 _ => q.2 k hk k2⟩, fun q => ⟨q.1, fun k hk k2 => q.2 k hk k2 rfl⟩⟩)
      rw [this]; exact g2
    have hal : lal P (2 ^ n - 1) (2 ^ n) < 2 ^ n := Nat.lt_of_le_of_lt (lal_le P _ _) (by have := Nat.one_le_two_pow (n := n); omega)
    intro k hk hf
    obtain ⟨f1, f2, f3⟩ := (hF k).mp hf
    -- the set is what all have, and the companions of its things
    have key : ∀ m, m ≤ n → ∃ g, g < 2 ^ n ∧ P g = true ∧ ∀ u, hb g u = true ↔ hb (lal P (2 ^ n - 1) (2 ^ n)) u = true ∨ ∃ t, t < m ∧ hb k t = true ∧ hb (ccm P (2 ^ n - 1) (2 ^ n) t) u = true := by
      intro m
      induction m with
      | zero =>
        intro _
        refine ⟨_, hal, ha, fun u => ⟨Or.inl, fun q => ?_⟩⟩
        rcases q with q | ⟨t, ht, _⟩
        · exact q
        · exact absurd ht (Nat.not_lt_zero _)
      | succ m ih =>
        intro hm
        obtain ⟨g, g1, g2, g3⟩ := ih (by omega)
        by_cases hkm : hb k m = true
        · obtain ⟨q, q1, q2, q3⟩ := (lso_sub _ m).mp (f2 m hkm)
          obtain ⟨e, e1, e2, e3⟩ := hall (fun z => hb z m) ⟨q, q1, q2, q3⟩
          have he : ∀ u, hb e u = true ↔ hb (ccm P (2 ^ n - 1) (2 ^ n) m) u = true := fun u => by rw [e3 u, ccm_sub (by omega) _ u]
          refine ⟨g ||| e, Nat.or_lt_two_pow g1 e1, hor g e g1 e1 g2 e2, fun u => ?_⟩
          rw [hb_or, Bool.or_eq_true_iff, g3 u, he u]
          refine ⟨fun z => ?_, fun z => ?_⟩
          · rcases z with (z | ⟨t, t1, t2⟩) | z
            · exact Or.inl z
            · exact Or.inr ⟨t, by omega, t2⟩
            · exact Or.inr ⟨m, by omega, hkm, z⟩
          · rcases z with z | ⟨t, t1, t2, t3⟩
            · exact Or.inl (Or.inl z)
            · rcases Nat.lt_or_ge t m with h9 | h9
              · exact Or.inl (Or.inr ⟨t, h9, t2, t3⟩)
              · rw [show t = m by omega] at t3; exact Or.inr t3
        · refine ⟨g, g1, g2, fun u => ?_⟩
          rw [g3 u]
          refine ⟨fun z => ?_, fun z => ?_⟩
          · rcases z with z | ⟨t, t1, t2⟩
            · exact Or.inl z
            · exact Or.inr ⟨t, by omega, t2⟩
          · rcases z with z | ⟨t, t1, t2, t3⟩
            · exact Or.inl z
            · rcases Nat.lt_or_ge t m with h9 | h9
              · exact Or.inr ⟨t, h9, t2, t3⟩
              · rw [show t = m by omega] at t2; exact absurd t2 hkm
    obtain ⟨g, g1, g2, g3⟩ := key n (Nat.le_refl _)
    have : k = g := hb_eq (fun u => by
      apply Bool.eq_iff_iff.mpr
      rw [g3 u]
      refine ⟨fun hu => ?_, fun hu => ?_⟩
      · have hun : u < n := by
          rcases Nat.lt_or_ge u n with h9 | h9
          · exact h9
          · rw [hb_ge hk h9] at hu; cases hu
        refine Or.inr ⟨u, hun, hu, (ccm_sub (by omega) _ u).mpr ⟨by rw [hb_last]; exact decide_eq_true hun, fun q q1 q2 q3 => q3⟩⟩
      · rcases hu with hu | ⟨t, t1, t2, t3⟩
        · exact f1 u hu
        · exact f3 t (by omega) t2 u t3)
    rw [this]; exact g2
