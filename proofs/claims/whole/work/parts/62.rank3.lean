theorem fs4_cg {T R : Nat → Int64} {r : Nat} (h : ∀ k, k < 4 → T (4 * r + k) = R (4 * r + k)) : fs4 T r = fs4 R r := by
  unfold fs4
  rw [ff_congr (R := p_nz R r) (fun k hk => by unfold p_nz; rw [h k hk])]
theorem dt_one {u x : Nat → Int} {k : Nat} (hk : k < 4) (h : ∀ c, c < 4 → c ≠ k → u c = 0) : dt u x = u k * x k := by
  have hq : k = 0 ∨ k = 1 ∨ k = 2 ∨ k = 3 := by omega
  rcases hq with h1 | h1 | h1 | h1 <;> subst h1 <;> unfold dt
  · rw [h 1 (by omega) (by omega), h 2 (by omega) (by omega), h 3 (by omega) (by omega)]; omega
  · rw [h 0 (by omega) (by omega), h 2 (by omega) (by omega), h 3 (by omega) (by omega)]; omega
  · rw [h 0 (by omega) (by omega), h 1 (by omega) (by omega), h 3 (by omega) (by omega)]; omega
  · rw [h 0 (by omega) (by omega), h 1 (by omega) (by omega), h 2 (by omega) (by omega)]; omega
theorem bbd_lt {i : Nat} (h : i ≤ 3) : bbd i < 2 ^ 63 := by
  have h0 : bbd 0 ≤ bbd 1 := (bbd_m 0).1
  have h1 : bbd 1 ≤ bbd 2 := (bbd_m 1).1
  have h2 : bbd 2 ≤ bbd 3 := (bbd_m 2).1
  have h3 := bbd_3
  have hq : i = 0 ∨ i = 1 ∨ i = 2 ∨ i = 3 := by omega
  rcases hq with h9 | h9 | h9 | h9 <;> subst h9 <;> omega
theorem frs_inv {T : Nat → Int64} {u : Nat} (hfs : ∀ i, i < u → fs4 T i < 4) (hec : ech (rwz T) (fun i => fs4 T i) u) (hbd : ∀ i, i < u → ∀ c, c < 4 → (T (4 * i + c)).toInt.natAbs ≤ bbd i) (hw : ∀ c, c < 4 → (T (4 * u + c)).toInt.natAbs ≤ 99) :
    ∀ i, i ≤ u → i ≤ 3 → (∀ c, c < 4 → (frs T u i (4 * u + c)).toInt.natAbs ≤ bbd i) ∧ (∀ j, j < i → frs T u i (4 * u + fs4 T j) = 0) ∧ (∀ x, (∀ j, j < u → dt (rwz T j) x = 0) → (dt (rwz (frs T u i) u) x = 0 ↔ dt (rwz T u) x = 0)) := by
  intro i
  induction i with
  | zero => intro _ _; exact ⟨hw, fun j hj => absurd hj (Nat.not_lt_zero _), fun x _ => Iff.rfl⟩
  | succ i ih =>
    intro hi hi3
    obtain ⟨h1, h2, h3⟩ := ih (by omega) (by omega)
    have hs : ∀ r, r < u → ∀ k, k < 4 → frs T u i (4 * r + k) = T (4 * r + k) := fun r hr k hk => frs_sam T u i (4 * r + k) (by omega)
    have hf : fs4 (frs T u i) i = fs4 T i := fs4_cg (hs i (by omega))
    have hb := bbd_lt (i := i + 1) (by omega)
    rw [bbd_s] at hb
    have hm := (bbd_m i).1
    rw [bbd_s] at hm
    have h4 := fre_st (T := frs T u i) (u := u) (i := i) (A := bbd i) (by omega) (by rw [hf]; exact hfs i (by omega)) h1 (fun c hc => by rw [hs i (by omega) c hc]; exact hbd i (by omega) c hc) hb hm
    rw [hf] at h4
    obtain ⟨h5, h6, h7, h8⟩ := h4
    rw [frs_s]
    refine ⟨h5, fun j hj => ?_, fun x hx => ?_⟩
    · rcases Nat.lt_or_ge j i with h9 | h9
      · refine h7 (fs4 T j) (hfs j (by omega)) (h2 j h9) ?_
        rw [hs i (by omega) _ (hfs j (by omega))]
        exact Int64.toInt_inj.mp (hec.2 i j (by omega) h9)
      · have : j = i := by omega
        subst this
        exact h6
    · rw [h8 x (by
        have h9 := hx i (by omega)
        rw [← h9]
        exact dt_c (fun c hc => by show (frs T u i (4 * i + c)).toInt = _; rw [hs i (by omega) c hc]; rfl))]
      exact h3 x hx
theorem frs_all {T : Nat → Int64} {u : Nat} (hu : u ≤ 4) (hfs : ∀ i, i < u → fs4 T i < 4) (hec : ech (rwz T) (fun i => fs4 T i) u) (hbd : ∀ i, i < u → ∀ c, c < 4 → (T (4 * i + c)).toInt.natAbs ≤ bbd i) (hw : ∀ c, c < 4 → (T (4 * u + c)).toInt.natAbs ≤ 99) :
    (u ≤ 3 → ∀ c, c < 4 → (frs T u u (4 * u + c)).toInt.natAbs ≤ bbd u) ∧ (u = 4 → ∀ c, c < 4 → frs T u u (4 * u + c) = 0) ∧ (∀ j, j < u → frs T u u (4 * u + fs4 T j) = 0) ∧ (∀ x, (∀ j, j < u → dt (rwz T j) x = 0) → (dt (rwz (frs T u u) u) x = 0 ↔ dt (rwz T u) x = 0)) := by
  rcases Nat.lt_or_ge u 4 with h | h
  · obtain ⟨h1, h2, h3⟩ := frs_inv hfs hec hbd hw u (Nat.le_refl _) (by omega)
    exact ⟨fun _ => h1, fun h9 => by omega, h2, h3⟩
  · have h4 : u = 4 := by omega
    subst h4
    obtain ⟨h1, h2, h3⟩ := frs_inv hfs hec hbd hw 3 (by omega) (by omega)
    have hs : ∀ r, r < 4 → ∀ k, k < 4 → frs T 4 3 (4 * r + k) = T (4 * r + k) := fun r hr k hk => frs_sam T 4 3 (4 * r + k) (by omega)
    have hf : fs4 (frs T 4 3) 3 = fs4 T 3 := fs4_cg (hs 3 (by omega))
    have hz3 : ∀ c, c < 4 → c ≠ fs4 T 3 → frs T 4 3 (4 * 4 + c) = 0 ∧ T (4 * 3 + c) = 0 := fun c hc hne => by
      obtain ⟨j, hj, he⟩ := ech_all hec hc
      have he' : fs4 T j = c := he
      have hj3 : j < 3 := by
        rcases Nat.lt_or_ge j 3 with h9 | h9
        · exact h9
        · have : j = 3 := by omega
          subst this
          exact absurd he'.symm hne
      rw [← he']
      exact ⟨h2 j hj3, Int64.toInt_inj.mp (hec.2 3 j (by omega) hj3)⟩
    have hz : ∀ c, c < 4 → frs T 4 4 (4 * 4 + c) = 0 := by
      rw [frs_s]
      refine fre_z (by omega) (by rw [hf]; exact hfs 3 (by omega)) (fun c hc hne => ?_)
      rw [hf] at hne
      exact ⟨(hz3 c hc hne).1, by rw [hs 3 (by omega) c hc]; exact (hz3 c hc hne).2⟩
    refine ⟨fun h9 => by omega, fun _ => hz, fun j hj => hz _ (hfs j hj), fun x hx => ?_⟩
    have e1 : dt (rwz (frs T 4 4) 4) x = 0 := dt_0 (fun c hc => by show (frs T 4 4 (4 * 4 + c)).toInt = 0; rw [hz c hc]; rfl)
    refine ⟨fun _ => ?_, fun _ => e1⟩
    rw [← h3 x hx, dt_one (k := fs4 T 3) (hfs 3 (by omega)) (fun c hc hne => by show (frs T 4 3 (4 * 4 + c)).toInt = 0; rw [(hz3 c hc hne).1]; rfl)]
    have e2 := hx 3 (by omega)
    rw [dt_one (k := fs4 T 3) (hfs 3 (by omega)) (fun c hc hne => by show (T (4 * 3 + c)).toInt = 0; rw [(hz3 c hc hne).2]; rfl)] at e2
    rcases Int.mul_eq_zero.mp e2 with h9 | h9
    · exact absurd h9 (hec.1 3 (by omega)).2
    · rw [h9, Int.mul_zero]
def vN (N : Nat → Int32) : Nat → Nat → Int := fun t c => (N (4 * t + c)).toInt
def rinv (v : Nat → Nat → Int) (s t u : Nat) (T : Nat → Int64) : Prop := u ≤ 4 ∧ (∀ i, i < u → fs4 T i < 4) ∧ ech (rwz T) (fun i => fs4 T i) u ∧ (∀ i, i < u → ∀ c, c < 4 → (T (4 * i + c)).toInt.natAbs ≤ bbd i) ∧ ∀ x, (∀ i, i < u → dt (rwz T i) x = 0) ↔ nul v s t x
theorem cpw_at (R : Nat → Int64) (u : Nat) (W : Nat → Int32) : ∀ j, j ≤ 4 → ∀ k, k < j → cpw R u W j (4 * u + k) = (W k).toInt64 := by
  intro j
  induction j with
  | zero => intro _ k hk; omega
  | succ j ih =>
    intro hj k hk
    rw [cpw_s]
    by_cases h : k = j
    · subst h; rw [vpu_at]
    · rw [vpu_ne (by omega), ih (by omega) k (by omega)]
theorem nul_s {v : Nat → Nat → Int} {s t : Nat} {x : Nat → Int} (h : hb s t = true) : nul v s (t + 1) x ↔ nul v s t x ∧ dt (v t) x = 0 := by
  refine ⟨fun h1 => ⟨fun t' ht' => h1 t' (by omega), h1 t (by omega) h⟩, fun h1 t' ht' hh => ?_⟩
  rcases Nat.lt_or_ge t' t with h2 | h2
  · exact h1.1 t' h2 hh
  · have : t' = t := by omega
    subst this
    exact h1.2
theorem nul_f {v : Nat → Nat → Int} {s t : Nat} {x : Nat → Int} (h : hb s t = false) : nul v s (t + 1) x ↔ nul v s t x := by
  refine ⟨fun h1 t' ht' => h1 t' (by omega), fun h1 t' ht' hh => ?_⟩
  rcases Nat.lt_or_ge t' t with h2 | h2
  · exact h1 t' h2 hh
  · have : t' = t := by omega
    subst this
    rw [h] at hh
    cases hh
theorem rnk_inv {N : Nat → Int32} (hN : ∀ k, k < 40 → (N k).toInt.natAbs ≤ 99) (s : Nat) (R : Nat → Int64) : ∀ t, t ≤ 10 → rinv (vN N) s t (rnk N s R t).1 (rnk N s R t).2 := by
  intro t
  induction t with
  | zero =>
    intro _
    exact ⟨by show 0 ≤ 4; omega, fun i hi => absurd hi (Nat.not_lt_zero _), ⟨fun i hi => absurd hi (Nat.not_lt_zero _), fun i j hi => absurd hi (Nat.not_lt_zero _)⟩, fun i hi => absurd hi (Nat.not_lt_zero _), fun x => ⟨fun _ t ht => absurd ht (Nat.not_lt_zero _), fun _ i hi => absurd hi (Nat.not_lt_zero _)⟩⟩
  | succ t ih =>
    intro ht
    rw [rnk_s]
    by_cases hh : hb s t = true
    · rw [if_pos hh]
      obtain ⟨h1, h2, h3, h4, h5⟩ := ih (by omega)
      generalize (rnk N s R t).1 = u at h1 h2 h3 h4 h5 ⊢
      generalize (rnk N s R t).2 = T at h2 h3 h4 h5 ⊢
      unfold tki
      generalize hT1 : cpw T u (fun j => N (4 * t + j)) 4 = T1
      have a1 : ∀ r, r < u → ∀ k, k < 4 → T1 (4 * r + k) = T (4 * r + k) := fun r hr k hk => by rw [← hT1]; exact cpw_sam T u _ 4 (by omega) (4 * r + k) (by omega)
      have a2 : ∀ k, k < 4 → (T1 (4 * u + k)).toInt = (N (4 * t + k)).toInt := fun k hk => by rw [← hT1, cpw_at T u _ 4 (by omega) k hk, Int32.toInt_toInt64]
      have a3 : ∀ r, r < u → fs4 T1 r = fs4 T r := fun r hr => fs4_cg (a1 r hr)
      have a4 : ∀ r, r < u → ∀ c, c < 4 → rwz T1 r c = rwz T r c := fun r hr c hc => by show (T1 _).toInt = _; rw [a1 r hr c hc]; rfl
      have b3 : ech (rwz T1) (fun i => fs4 T1 i) u := ⟨fun i hi => by
        have := h3.1 i hi
        show fs4 T1 i < 4 ∧ rwz T1 i (fs4 T1 i) ≠ 0
        rw [a3 i hi, a4 i hi _ (h2 i hi)]
        exact this, fun i j hi hj => by
        show rwz T1 i (fs4 T1 j) = 0
        rw [a3 j (by omega), a4 i hi _ (h2 j (by omega))]
        exact h3.2 i j hi hj⟩
      have b2 : ∀ i, i < u → fs4 T1 i < 4 := fun i hi => by rw [a3 i hi]; exact h2 i hi
      obtain ⟨c1, c2, c3, c4⟩ := frs_all h1 b2 b3 (fun i hi c hc => by rw [a1 i hi c hc]; exact h4 i hi c hc) (fun c hc => by rw [a2 c hc]; exact hN _ (by omega))
      generalize hT2 : frs T1 u u = T2 at c1 c2 c3 c4 ⊢
      have d1 : ∀ r, r < u → ∀ k, k < 4 → T2 (4 * r + k) = T1 (4 * r + k) := fun r hr k hk => by rw [← hT2]; exact frs_sam T1 u u (4 * r + k) (by omega)
      have d3 : ∀ r, r < u → fs4 T2 r = fs4 T1 r := fun r hr => fs4_cg (d1 r hr)
      have d4 : ∀ r, r < u → ∀ c, c < 4 → rwz T2 r c = rwz T1 r c := fun r hr c hc => by show (T2 _).toInt = _; rw [d1 r hr c hc]; rfl
      have n1 : ∀ x, (∀ i, i < u → dt (rwz T2 i) x = 0) ↔ nul (vN N) s t x := fun x => by
        rw [← h5 x]
        refine ⟨fun h i hi => ?_, fun h i hi => ?_⟩
        · rw [← h i hi]; exact dt_c (fun c hc => by rw [d4 i hi c hc, a4 i hi c hc])
        · rw [← h i hi]; exact dt_c (fun c hc => by rw [d4 i hi c hc, a4 i hi c hc])
      have n2 : ∀ x, nul (vN N) s t x → (dt (rwz T2 u) x = 0 ↔ dt (vN N t) x = 0) := fun x hx => by
        rw [c4 x (fun j hj => by
          have h9 := (n1 x).mpr hx j hj
          rw [← h9]
          exact dt_c (fun c hc => (d4 j hj c hc).symm))]
        rw [show dt (rwz T1 u) x = dt (vN N t) x from dt_c (fun c hc => a2 c hc)]
      by_cases hn : fs4 T2 u < 4
      · rw [if_pos hn]
        have hu : u < 4 := by
          rcases Nat.lt_or_ge u 4 with h9 | h9
          · exact h9
          · exact absurd (c2 (by omega) _ hn) (fs4_nz hn)
        show rinv _ _ _ (u + 1) T2
        refine ⟨by omega, fun i hi => ?_, ⟨fun i hi => ?_, fun i j hi hj => ?_⟩, fun i hi c hc => ?_, fun x => ?_⟩
        · rcases Nat.lt_or_ge i u with h9 | h9
          · rw [d3 i h9]; exact b2 i h9
          · have : i = u := by omega
            subst this; exact hn
        · rcases Nat.lt_or_ge i u with h9 | h9
          · show fs4 T2 i < 4 ∧ rwz T2 i (fs4 T2 i) ≠ 0
            rw [d3 i h9, d4 i h9 _ (b2 i h9)]; exact b3.1 i h9
          · have : i = u := by omega
            subst this
            exact ⟨hn, fun h8 => fs4_nz hn (Int64.toInt_inj.mp h8)⟩
        · rcases Nat.lt_or_ge i u with h9 | h9
          · show rwz T2 i (fs4 T2 j) = 0
            rw [d3 j (by omega), d4 i h9 _ (b2 j (by omega))]; exact b3.2 i j h9 hj
          · have : i = u := by omega
            subst this
            show (T2 (4 * i + fs4 T2 j)).toInt = 0
            rw [d3 j hj, c3 j hj]; rfl
        · rcases Nat.lt_or_ge i u with h9 | h9
          · rw [d1 i h9 c hc, a1 i h9 c hc]; exact h4 i h9 c hc
          · have : i = u := by omega
            subst this
            exact c1 (by omega) c hc
        · rw [nul_s hh]
          refine ⟨fun h => ?_, fun h i hi => ?_⟩
          · have h9 := (n1 x).mp (fun i hi => h i (by omega))
            exact ⟨h9, (n2 x h9).mp (h u (by omega))⟩
          · rcases Nat.lt_or_ge i u with h9 | h9
            · exact (n1 x).mpr h.1 i h9
            · have : i = u := by omega
              subst this
              exact (n2 x h.1).mpr h.2
      · rw [if_neg hn]
        show rinv _ _ _ u T2
        refine ⟨h1, fun i hi => by rw [d3 i hi]; exact b2 i hi, ⟨fun i hi => ?_, fun i j hi hj => ?_⟩, fun i hi c hc => ?_, fun x => ?_⟩
        · show fs4 T2 i < 4 ∧ rwz T2 i (fs4 T2 i) ≠ 0
          rw [d3 i hi, d4 i hi _ (b2 i hi)]; exact b3.1 i hi
        · show rwz T2 i (fs4 T2 j) = 0
          rw [d3 j (by omega), d4 i hi _ (b2 j (by omega))]; exact b3.2 i j hi hj
        · rw [d1 i hi c hc, a1 i hi c hc]; exact h4 i hi c hc
        · rw [nul_s hh, n1 x]
          refine ⟨fun h => ⟨h, (n2 x h).mp (dt_0 (fun c hc => by show (T2 _).toInt = 0; rw [fs4_z hn c hc]; rfl))⟩, fun h => h.1⟩
    · rw [if_neg hh]
      have hf : hb s t = false := by cases h9 : hb s t with
        | false => rfl
        | true => exact absurd h9 hh
      obtain ⟨h1, h2, h3, h4, h5⟩ := ih (by omega)
      exact ⟨h1, h2, h3, h4, fun x => by rw [nul_f hf]; exact h5 x⟩
theorem rnk_rk {N : Nat → Int32} (hN : ∀ k, k < 40 → (N k).toInt.natAbs ≤ 99) (s : Nat) (R : Nat → Int64) {n : Nat} (hn : n ≤ 10) : rkOf (vN N) s n (rnk N s R n).1 := by
  obtain ⟨h1, h2, h3, h4, h5⟩ := rnk_inv hN s R n hn
  exact ⟨_, _, h3, h5⟩
