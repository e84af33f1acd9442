/-! what ties the class's cells and the reference's -/
def rl_h (X : nX) (n m : Nat) : Prop := n ≤ 10 ∧ m ≤ 12 ∧ X 0 6 = nI n ∧ X 0 7 = nI m ∧ X 105 0 = nI n ∧ X 105 1 = nI m ∧ X 0 8 = X 105 19
def rl_o (X : nX) (Y : nY) (n b : Nat) (r : Nat → Nat) : Prop := X 101 3 = nI n ∧ X 101 4 = nI b ∧ Y 105 15 = lN b ∧ b ≤ 1000000 ∧ (∀ k, k < n → X 102 k = nI (r k) ∧ X 117 k = nI (r k) ∧ r k < n) ∧ (∀ t, t < n → ∃ k, k < n ∧ r k = t) ∧ ∀ t, t < n → Y 103 t = Y 118 t ∧ (Y 118 t).toInt.natAbs ≤ 1000000000000000
def rl_s1 (X : nX) (Y : nY) (s : Nat) : Prop := (X (87 + 2 * s) 1 = bI false ∧ X 119 s = -1) ∨ ∃ k, k ≤ 1100 ∧ X (87 + 2 * s) 1 = bI true ∧ X (87 + 2 * s) 3 = nI k ∧ X 119 s = nI k ∧ X (87 + 2 * s) 2 = X 120 s ∧ ∀ i, i < k → Y (88 + 2 * s) i = Y 121 (1100 * s + i)
def rl_b (X : nX) (n w kd P : Nat) (hd : Bool) : Prop := X (2 + 7 * w) 5 = nI kd ∧ X 106 w = nI kd ∧ kd < 8 ∧ X (2 + 7 * w) 4 = bI hd ∧ X 107 w = bI hd ∧ X (2 + 7 * w) 7 = nI (2 ^ n) ∧ X (2 + 7 * w) 6 = nI n ∧ X (2 + 7 * w) 8 = nI P ∧ X 109 w = nI P
def rl_v (Y : nY) (n w : Nat) : Prop := (∀ s, s < 2 ^ n → Y (3 + 7 * w) s = vr Y w s) ∧ bdV (vr Y w) (2 ^ n) ∧ vr Y w 0 = 0
def rk1 (X : nX) (Y : nY) (n w P : Nat) : Prop := P ≤ 24 ∧ ∃ a b : Nat → Nat, (∀ k, k < P → X 110 (24 * w + k) = nI (a k) ∧ X 111 (24 * w + k) = nI (b k) ∧ a k < n ∧ b k < n ∧ (X 112 (24 * w + k)).toInt.natAbs ≤ 10000) ∧ ∀ s, s < 2 ^ n → vr Y w s = lct a b (fun k => X 112 (24 * w + k)) s P
def rk2 (X : nX) (Y : nY) (n w P : Nat) : Prop := P ≤ 24 ∧ ∃ b : Nat → Nat, (∀ k, k < P → X 111 (24 * w + k) = nI (b k) ∧ b k < 2 ^ n ∧ (X 110 (24 * w + k)).toInt.natAbs ≤ 10000) ∧ ∀ s, s < 2 ^ n → vr Y w s = lcv (fun k => X 110 (24 * w + k)) b s P
def rk3 (X : nX) (Y : nY) (n w : Nat) : Prop := (∀ k, k < 40 → X (5 + 7 * w) k = X 113 (40 * w + k) ∧ (X 113 (40 * w + k)).toInt.natAbs ≤ 99) ∧ ∀ s, s < 2 ^ n → vr Y w s = lN (RK (fun k => X 113 (40 * w + k)) s n)
def rk4 (X : nX) (w P : Nat) : Prop := P ≤ 10 ∧ (∀ k, k < P → X (7 + 7 * w) k = X 110 (24 * w + k) ∧ (X 110 (24 * w + k)).toInt.natAbs ≤ 10000)
def rk5 (X : nX) (Y : nY) (n w P : Nat) : Prop := P ≤ 4 ∧ ∃ o : Nat → Nat, (∀ k, k < P → X 110 (24 * w + k) = nI (o k) ∧ o k < w ∧ X 107 (o k) = bI true ∧ (X 111 (24 * w + k)).toInt.natAbs ≤ 100) ∧ (∀ t, t < 10 → X (8 + 7 * w) t = X 114 (10 * w + t) ∧ (X 114 (10 * w + t)).toInt.natAbs ≤ 100000) ∧ ∀ s, s < 2 ^ n → vr Y w s = lpr (fun t => X 114 (10 * w + t)) s (lsq (fun k => X 111 (24 * w + k)) (fun k => vr Y (o k) s) P) n
def rl_k (X : nX) (Y : nY) (n w kd P : Nat) : Prop := (kd = 1 → rk1 X Y n w P) ∧ (kd = 2 → rk2 X Y n w P) ∧ (kd = 3 → rk3 X Y n w) ∧ (kd = 4 → rk4 X w P) ∧ (kd = 5 → rk5 X Y n w P)
def rl_w (X : nX) (Y : nY) (n w : Nat) : Prop := ∃ (kd P : Nat) (hd : Bool), rl_b X n w kd P hd ∧ rl_v Y n w ∧ rl_k X Y n w kd P
def Rel (X : nX) (Y : nY) : Prop := ∃ (n m b : Nat) (r : Nat → Nat), rl_h X n m ∧ rl_o X Y n b r ∧ (∀ s, s < 4 → rl_s1 X Y s) ∧ ∀ w, w < m → rl_w X Y n w
theorem lct_cg {a b : Nat → Nat} {W W' : Nat → Int32} {s : Nat} : ∀ {P : Nat}, (∀ k, k < P → W k = W' k) → lct a b W s P = lct a b W' s P := by
  intro P
  induction P with
  | zero => intro _; rfl
  | succ P ih =>
    intro h
    show lct a b W s P + (if _ then (W P).toInt64 else 0) = lct a b W' s P + (if _ then (W' P).toInt64 else 0)
    rw [ih (fun k hk => h k (by omega)), h P (by omega)]
theorem lcv_cg {b : Nat → Nat} {W W' : Nat → Int32} {s : Nat} : ∀ {P : Nat}, (∀ k, k < P → W k = W' k) → lcv W b s P = lcv W' b s P := by
  intro P
  induction P with
  | zero => intro _; rfl
  | succ P ih =>
    intro h
    show lcv W b s P + (if _ then 0 else (W P).toInt64) = lcv W' b s P + (if _ then 0 else (W' P).toInt64)
    rw [ih (fun k hk => h k (by omega)), h P (by omega)]
theorem lsq_cg {W W' : Nat → Int32} {U U' : Nat → Int64} : ∀ {P : Nat}, (∀ k, k < P → W k = W' k ∧ U k = U' k) → lsq W U P = lsq W' U' P := by
  intro P
  induction P with
  | zero => intro _; rfl
  | succ P ih =>
    intro h
    show lsq W U P + (W P).toInt64 * U P = lsq W' U' P + (W' P).toInt64 * U' P
    rw [ih (fun k hk => h k (by omega)), (h P (by omega)).1, (h P (by omega)).2]
theorem lpr_cg {W W' : Nat → Int32} {s : Nat} {b : Int64} : ∀ {n : Nat}, (∀ t, t < n → W t = W' t) → lpr W s b n = lpr W' s b n := by
  intro n
  induction n with
  | zero => intro _; rfl
  | succ n ih =>
    intro h
    show lpr W s b n + (if _ then (W n).toInt64 else 0) = lpr W' s b n + (if _ then (W' n).toInt64 else 0)
    rw [ih (fun k hk => h k (by omega)), h n (by omega)]
theorem lsr_cg {W W' : Nat → Int32} : ∀ {n : Nat}, (∀ t, t < n → W t = W' t) → lsr W n = lsr W' n := by
  intro n
  induction n with
  | zero => intro _; rfl
  | succ n ih => intro h; rw [lsr_s, lsr_s, ih (fun k hk => h k (by omega)), h n (by omega)]
theorem rl_o_f {X X' : nX} {Y Y' : nY} {n b : Nat} {r : Nat → Nat} (h1 : X' 101 = X 101) (h2 : X' 102 = X 102) (h3 : X' 117 = X 117) (h4 : Y' 105 = Y 105) (h5 : Y' 103 = Y 103) (h6 : Y' 118 = Y 118) (h : rl_o X Y n b r) : rl_o X' Y' n b r := by
  unfold rl_o at h ⊢
  rw [h1, h2, h3, h4, h5, h6]
  exact h
theorem rl_s_f {X X' : nX} {Y Y' : nY} {s : Nat} (h1 : X' (87 + 2 * s) = X (87 + 2 * s)) (h2 : X' 119 = X 119) (h3 : X' 120 = X 120) (h4 : Y' (88 + 2 * s) = Y (88 + 2 * s)) (h5 : Y' 121 = Y 121) (h : rl_s1 X Y s) : rl_s1 X' Y' s := by
  unfold rl_s1 at h ⊢
  rw [h1, h2, h3, h4, h5]
  exact h
/-- a worth's own cells are as they were -/
def wfr (X X' : nX) (Y Y' : nY) (w : Nat) : Prop := (∀ f, 5 ≤ f → X' (2 + 7 * w) f = X (2 + 7 * w) f) ∧ X' (5 + 7 * w) = X (5 + 7 * w) ∧ X' (7 + 7 * w) = X (7 + 7 * w) ∧ X' (8 + 7 * w) = X (8 + 7 * w) ∧ Y' (3 + 7 * w) = Y (3 + 7 * w) ∧ X' 106 w = X 106 w ∧ X' 109 w = X 109 w ∧ (∀ k, k < 24 → X' 110 (24 * w + k) = X 110 (24 * w + k) ∧ X' 111 (24 * w + k) = X 111 (24 * w + k) ∧ X' 112 (24 * w + k) = X 112 (24 * w + k)) ∧ (∀ k, k < 40 → X' 113 (40 * w + k) = X 113 (40 * w + k)) ∧ (∀ t, t < 10 → X' 114 (10 * w + t) = X 114 (10 * w + t)) ∧ (∀ s, s < 1024 → vr Y' w s = vr Y w s)
/-- what is held stays held, and its values stay -/
def hfr (X X' : nX) (Y Y' : nY) (M : Nat) : Prop := ∀ q, q < M → X 107 q = bI true → X' 107 q = bI true ∧ ∀ s, s < 1024 → vr Y' q s = vr Y q s
theorem rl_w_f {X X' : nX} {Y Y' : nY} {n w : Nat} (hw : w < 12) (hn : n ≤ 10) (hf : wfr X X' Y Y' w) (hq : hfr X X' Y Y' w) (hh : ∃ hd, X' (2 + 7 * w) 4 = bI hd ∧ X' 107 w = bI hd) (h : rl_w X Y n w) : rl_w X' Y' n w := by
  obtain ⟨kd, P, hd, ⟨b1, b2, b3, b4, b5, b6, b7, b8, b9⟩, ⟨v1, v2, v3⟩, k1, k2, k3, k4, k5⟩ := h
  obtain ⟨f1, f2, f3, f4, f5, f6, f7, f8, f9, f10, f11⟩ := hf
  obtain ⟨hd', g1, g2⟩ := hh
  have h2n := p2_le hn
  refine ⟨kd, P, hd', ⟨by rw [f1 5 (by omega)]; exact b1, by rw [f6]; exact b2, b3, g1, g2, by rw [f1 7 (by omega)]; exact b6, by rw [f1 6 (by omega)]; exact b7, by rw [f1 8 (by omega)]; exact b8, by rw [f7]; exact b9⟩, ⟨fun s hs => by rw [f5, f11 s (by omega)]; exact v1 s hs, fun s hs => by rw [f11 s (by omega)]; exact v2 s hs, by rw [f11 0 (by omega)]; exact v3⟩, fun e => ?_, fun e => ?_, fun e => ?_, fun e => ?_, fun e => ?_⟩
  · obtain ⟨p1, a, b, p2, p3⟩ := k1 e
    refine ⟨p1, a, b, fun k hk => ?_, fun s hs => ?_⟩
    · obtain ⟨e1, e2, e3⟩ := f8 k (by omega)
      rw [e1, e2, e3]
      exact p2 k hk
    · rw [f11 s (by omega), p3 s hs]
      exact lct_cg (fun k hk => ((f8 k (by omega)).2.2).symm)
  · obtain ⟨p1, b, p2, p3⟩ := k2 e
    refine ⟨p1, b, fun k hk => ?_, fun s hs => ?_⟩
    · obtain ⟨e1, e2, e3⟩ := f8 k (by omega)
      rw [e1, e2]
      exact p2 k hk
    · rw [f11 s (by omega), p3 s hs]
      exact lcv_cg (fun k hk => ((f8 k (by omega)).1).symm)
  · obtain ⟨p1, p2⟩ := k3 e
    refine ⟨fun k hk => by rw [f2, f9 k hk]; exact p1 k hk, fun s hs => ?_⟩
    rw [f11 s (by omega), p2 s hs]
    congr 1
    exact RK_cg (fun k hk => (p1 k hk).2) (fun k hk => by show (X' 113 (40 * w + k)).toInt.natAbs ≤ 99; rw [f9 k hk]; exact (p1 k hk).2) hn (fun t ht _ c hc => (f9 (4 * t + c) (by omega)).symm)
  · obtain ⟨p1, p2⟩ := k4 e
    refine ⟨p1, fun k hk => ?_⟩
    rw [f3, (f8 k (by omega)).1]
    exact p2 k hk
  · obtain ⟨p1, o, p2, p3, p4⟩ := k5 e
    refine ⟨p1, o, fun k hk => ?_, fun t ht => by rw [f4, f10 t ht]; exact p3 t ht, fun s hs => ?_⟩
    · obtain ⟨e1, e2, e3⟩ := f8 k (by omega)
      obtain ⟨q1, q2, q3, q4⟩ := p2 k hk
      rw [e1, e2]
      exact ⟨q1, q2, (hq (o k) (by omega) q3).1, q4⟩
    · rw [f11 s (by omega), p4 s hs]
      rw [lsq_cg (W' := fun k => X' 111 (24 * w + k)) (U' := fun k => vr Y' (o k) s) (fun k hk => ?_)]
      · exact lpr_cg (fun t ht => (f10 t (by omega)).symm)
      · obtain ⟨q1, q2, q3, q4⟩ := p2 k hk
        exact ⟨((f8 k (by omega)).2.1).symm, ((hq (o k) (by omega) q3).2 s (by omega)).symm⟩
/-- only cells that serve one call alone are otherwise -/
def scr (X X' : nX) (Y Y' : nY) : Prop := (∀ a, a ≠ 95 → a ≠ 96 → a ≠ 97 → a ≠ 98 → a ≠ 100 → a ≠ 123 → X' a = X a) ∧ ∀ a, a ≠ 99 → a ≠ 104 → a ≠ 122 → a ≠ 124 → a ≠ 125 → Y' a = Y a
theorem scr_r (X : nX) (Y : nY) : scr X X Y Y := ⟨fun _ _ _ _ _ _ _ => rfl, fun _ _ _ _ _ _ => rfl⟩
theorem scr_t {X X' X2 : nX} {Y Y' Y2 : nY} (h : scr X X' Y Y') (h2 : scr X' X2 Y' Y2) : scr X X2 Y Y2 := ⟨fun a h1 h3 h4 h5 h6 h7 => (h2.1 a h1 h3 h4 h5 h6 h7).trans (h.1 a h1 h3 h4 h5 h6 h7), fun a h1 h3 h4 h5 h6 => (h2.2 a h1 h3 h4 h5 h6).trans (h.2 a h1 h3 h4 h5 h6)⟩
theorem scr_vr {X X' : nX} {Y Y' : nY} (h : scr X X' Y Y') (w : Nat) : vr Y' w = vr Y w := by
  unfold vr
  rw [h.2 108 (by omega) (by omega) (by omega) (by omega) (by omega)]
theorem wfr_scr {X X' : nX} {Y Y' : nY} (h : scr X X' Y Y') {w : Nat} (hw : w < 12) : wfr X X' Y Y' w := by
  refine ⟨fun f _ => by rw [h.1 (2 + 7 * w) (by omega) (by omega) (by omega) (by omega) (by omega) (by omega)], h.1 _ (by omega) (by omega) (by omega) (by omega) (by omega) (by omega), h.1 _ (by omega) (by omega) (by omega) (by omega) (by omega) (by omega), h.1 _ (by omega) (by omega) (by omega) (by omega) (by omega) (by omega), h.2 _ (by omega) (by omega) (by omega) (by omega) (by omega), ?_, ?_, fun k hk => ⟨?_, ?_, ?_⟩, fun k hk => ?_, fun t ht => ?_, fun s hs => by rw [scr_vr h]⟩
  all_goals rw [h.1 _ (by omega) (by omega) (by omega) (by omega) (by omega) (by omega)]
theorem hfr_scr {X X' : nX} {Y Y' : nY} {M : Nat} (h : scr X X' Y Y') : hfr X X' Y Y' M := fun q hq hh => ⟨by rw [h.1 107 (by omega) (by omega) (by omega) (by omega) (by omega) (by omega)]; exact hh, fun s hs => by rw [scr_vr h]⟩
theorem rl_h_scr {X X' : nX} {Y Y' : nY} {n m : Nat} (h : scr X X' Y Y') (h1 : rl_h X n m) : rl_h X' n m := by
  unfold rl_h at h1 ⊢
  rw [h.1 0 (by omega) (by omega) (by omega) (by omega) (by omega) (by omega), h.1 105 (by omega) (by omega) (by omega) (by omega) (by omega) (by omega)]
  exact h1
theorem rl_o_scr {X X' : nX} {Y Y' : nY} {n b : Nat} {r : Nat → Nat} (h : scr X X' Y Y') (h1 : rl_o X Y n b r) : rl_o X' Y' n b r :=
  rl_o_f (h.1 _ (by omega) (by omega) (by omega) (by omega) (by omega) (by omega)) (h.1 _ (by omega) (by omega) (by omega) (by omega) (by omega) (by omega)) (h.1 _ (by omega) (by omega) (by omega) (by omega) (by omega) (by omega)) (h.2 _ (by omega) (by omega) (by omega) (by omega) (by omega)) (h.2 _ (by omega) (by omega) (by omega) (by omega) (by omega)) (h.2 _ (by omega) (by omega) (by omega) (by omega) (by omega)) h1
theorem rl_s_scr {X X' : nX} {Y Y' : nY} {s : Nat} (h : scr X X' Y Y') (hs : s < 4) (h1 : rl_s1 X Y s) : rl_s1 X' Y' s :=
  rl_s_f (h.1 _ (by omega) (by omega) (by omega) (by omega) (by omega) (by omega)) (h.1 _ (by omega) (by omega) (by omega) (by omega) (by omega) (by omega)) (h.1 _ (by omega) (by omega) (by omega) (by omega) (by omega) (by omega)) (h.2 _ (by omega) (by omega) (by omega) (by omega) (by omega)) (h.2 _ (by omega) (by omega) (by omega) (by omega) (by omega)) h1
theorem rl_w_scr {X X' : nX} {Y Y' : nY} {n w : Nat} (h : scr X X' Y Y') (hw : w < 12) (hn : n ≤ 10) (h1 : rl_w X Y n w) : rl_w X' Y' n w := by
  refine rl_w_f hw hn (wfr_scr h hw) (hfr_scr h) ?_ h1
  obtain ⟨kd, P, hd, ⟨b1, b2, b3, b4, b5, -⟩, -⟩ := h1
  exact ⟨hd, by rw [h.1 (2 + 7 * w) (by omega) (by omega) (by omega) (by omega) (by omega) (by omega)]; exact b4, by rw [h.1 107 (by omega) (by omega) (by omega) (by omega) (by omega) (by omega)]; exact b5⟩
theorem Rel_scr {X X' : nX} {Y Y' : nY} (h : scr X X' Y Y') (h1 : Rel X Y) : Rel X' Y' := by
  obtain ⟨n, m, b, r, h2, h3, h4, h5⟩ := h1
  have hn := h2.1
  have hm := h2.2.1
  exact ⟨n, m, b, r, rl_h_scr h h2, rl_o_scr h h3, fun s hs => rl_s_scr h hs (h4 s hs), fun w hw => rl_w_scr h (by omega) hn (h5 w hw)⟩
/-- both codes become k -/
theorem Rel_code {X : nX} {Y : nY} (k : Int32) (h : Rel X Y) : Rel (up2 (up2 X 0 8 k) 105 19 k) Y := by
  obtain ⟨n, m, b, r, ⟨a1, a2, a3, a4, a5, a6, a7⟩, h3, h4, h5⟩ := h
  have e : ∀ a, a ≠ 0 → a ≠ 105 → up2 (up2 X 0 8 k) 105 19 k a = X a := fun a e1 e2 => by rw [up2_ne _ e2, up2_ne _ e1]
  refine ⟨n, m, b, r, ⟨a1, a2, by simp only [up2_at]; simpa using a3, by simp only [up2_at]; simpa using a4, by simp only [up2_at]; simpa using a5, by simp only [up2_at]; simpa using a6, by simp [up2_at]⟩, rl_o_f (e _ (by omega) (by omega)) (e _ (by omega) (by omega)) (e _ (by omega) (by omega)) rfl rfl rfl h3, fun s hs => rl_s_f (e _ (by omega) (by omega)) (e _ (by omega) (by omega)) (e _ (by omega) (by omega)) rfl rfl (h4 s hs), fun w hw => ?_⟩
  refine rl_w_f (by omega) a1 ?_ ?_ ?_ (h5 w hw)
  · refine ⟨fun f _ => by rw [e _ (by omega) (by omega)], e _ (by omega) (by omega), e _ (by omega) (by omega), e _ (by omega) (by omega), rfl, by rw [e _ (by omega) (by omega)], by rw [e _ (by omega) (by omega)], fun k hk => ⟨by rw [e _ (by omega) (by omega)], by rw [e _ (by omega) (by omega)], by rw [e _ (by omega) (by omega)]⟩, fun k hk => by rw [e _ (by omega) (by omega)], fun k hk => by rw [e _ (by omega) (by omega)], fun s hs => rfl⟩
  · exact fun q hq hh => ⟨by rw [e _ (by omega) (by omega)]; exact hh, fun s hs => rfl⟩
  · obtain ⟨kd, P, hd, ⟨b1, b2, b3, b4, b5, -⟩, -⟩ := h5 w hw
    exact ⟨hd, by rw [e _ (by omega) (by omega)]; exact b4, by rw [e _ (by omega) (by omega)]; exact b5⟩
theorem up2_back {X : nX} {i k : Nat} {v : Int32} : up2 (up2 X i k v) i k (X i k) = X := by
  funext a b
  rw [up2_at]
  by_cases h : a = i ∧ b = k
  · rw [if_pos h, h.1, h.2]
  · rw [if_neg h, up2_at, if_neg h]
theorem x_brk_ne {X : nX} {V : Nat → Int64} {n S a : Nat} (h : a ≠ 95) : x_brk X V n S a = X a := by
  unfold x_brk
  cases ffind (p_brk V n) S with
  | none => rfl
  | some s =>
    show (match ffind (p_fst V n s) n with
      | none => X
      | some a => x_sec X s a (ffind (p_sec V s a) n)) a = X a
    cases ffind (p_fst V n s) n with
    | none => rfl
    | some b =>
      show x_sec X s b (ffind (p_sec V s b) n) a = X a
      cases ffind (p_sec V s b) n with
      | none => rfl
      | some q => show up2 (up2 (up2 X 95 0 (nI s)) 95 1 (nI b)) 95 2 (nI q) a = X a; rw [up2_ne _ h, up2_ne _ h, up2_ne _ h]
theorem scr_brk {X : nX} {Y : nY} {V : Nat → Int64} {n S : Nat} : scr X (x_brk X V n S) Y Y := ⟨fun _ h _ _ _ _ _ => x_brk_ne h, fun _ _ _ _ _ _ => rfl⟩
theorem scr_xls {X : nX} {Y : nY} {h a b : Nat} {C : Nat → Nat} : scr X (xls X h a b C) Y Y := ⟨fun _ _ h2 h3 _ _ _ => funext (fun _ => xls_ne h2 h3), fun _ _ _ _ _ _ => rfl⟩
theorem scr_low {X : nX} {Y : nY} {v : Int32} {R : Nat → Int64} : scr X (up2 X 98 2 v) Y (srw Y 99 R) := ⟨fun _ _ _ _ h4 _ _ => up2_ne _ h4, fun _ h1 _ _ _ _ => srw_ne h1⟩
theorem scr_xtn {X : nX} {Y : nY} {t : Nat → Nat} {i : Nat} : scr X (xtn X t i) Y Y := ⟨fun _ _ _ _ h4 h5 _ => funext (fun k => by unfold xtn; rw [if_neg (fun h => h4 h.1), if_neg (fun h => h5 h.1)]), fun _ _ _ _ _ _ => rfl⟩
theorem scr_xcn {X : nX} {Y : nY} {t : Nat → Nat} {i : Nat} {R : Nat → Int64} : scr X (xcn X t i) Y (srw Y 124 R) := ⟨fun _ _ _ _ _ _ h6 => funext (fun k => xcn_ne h6), fun _ _ _ _ h4 _ => srw_ne h4⟩
theorem scr_104 {X : nX} {Y : nY} {R : Nat → Int64} : scr X X Y (srw Y 104 R) := ⟨fun _ _ _ _ _ _ _ => rfl, fun _ _ h2 _ _ _ => srw_ne h2⟩
theorem scr_125 {X : nX} {Y : nY} {R : Nat → Int64} : scr X X Y (srw Y 125 R) := ⟨fun _ _ _ _ _ _ _ => rfl, fun _ _ _ _ _ h5 => srw_ne h5⟩
/-! a call of both -/
def stI (c : cx) (M M8 : sm_M) (As : List Value) (X : nX) (Y : nY) : Prop := ∃ (v : Int32) (X1 : nX) (Y1 : nY) (X2 : nX) (Y2 : nY), sc c M 9 (.ref (c_ad c 0) :: As) X Y (some (.int v)) X1 Y1 ∧ sc c M8 9 (.ref (c_ad c 105) :: As) X1 Y1 (some (.int v)) X2 Y2 ∧ Rel X2 Y2
def stL (c : cx) (M M8 : sm_M) (As : List Value) (X : nX) (Y : nY) : Prop := ∃ (v : Int64) (X1 : nX) (Y1 : nY) (X2 : nX) (Y2 : nY), sc c M 9 (.ref (c_ad c 0) :: As) X Y (some (.long v)) X1 Y1 ∧ sc c M8 9 (.ref (c_ad c 105) :: As) X1 Y1 (some (.long v)) X2 Y2 ∧ Rel X2 Y2
theorem mkI {c : cx} {M M8 : sm_M} {As : List Value} {X X1 X2 : nX} {Y Y1 Y2 : nY} {v v' : Int32} (h1 : sc c M 9 (.ref (c_ad c 0) :: As) X Y (some (.int v)) X1 Y1) (h2 : sc c M8 9 (.ref (c_ad c 105) :: As) X1 Y1 (some (.int v')) X2 Y2) (e : v = v') (h : Rel X2 Y2) : stI c M M8 As X Y := by
  subst e
  exact ⟨v, X1, Y1, X2, Y2, h1, h2, h⟩
theorem mkL {c : cx} {M M8 : sm_M} {As : List Value} {X X1 X2 : nX} {Y Y1 Y2 : nY} {v v' : Int64} (h1 : sc c M 9 (.ref (c_ad c 0) :: As) X Y (some (.long v)) X1 Y1) (h2 : sc c M8 9 (.ref (c_ad c 105) :: As) X1 Y1 (some (.long v')) X2 Y2) (e : v = v') (h : Rel X2 Y2) : stL c M M8 As X Y := by
  subst e
  exact ⟨v, X1, Y1, X2, Y2, h1, h2, h⟩
