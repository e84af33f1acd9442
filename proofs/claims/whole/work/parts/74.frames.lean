/-! what a step leaves as it was -/
theorem wfr_r {X : nX} {Y : nY} {w : Nat} : wfr X X Y Y w := ⟨fun _ _ => rfl, rfl, rfl, rfl, rfl, rfl, rfl, fun _ _ => ⟨rfl, rfl, rfl⟩, fun _ _ => rfl, fun _ _ => rfl, fun _ _ => rfl⟩
theorem wfr_t {X X' X2 : nX} {Y Y' Y2 : nY} {w : Nat} (h : wfr X X' Y Y' w) (g : wfr X' X2 Y' Y2 w) : wfr X X2 Y Y2 w := by
  obtain ⟨f1, f2, f3, f4, f5, f6, f7, f8, f9, f10, f11⟩ := h
  obtain ⟨g1, g2, g3, g4, g5, g6, g7, g8, g9, g10, g11⟩ := g
  exact ⟨fun f hf => (g1 f hf).trans (f1 f hf), g2.trans f2, g3.trans f3, g4.trans f4, g5.trans f5, g6.trans f6, g7.trans f7, fun k hk => ⟨(g8 k hk).1.trans (f8 k hk).1, (g8 k hk).2.1.trans (f8 k hk).2.1, (g8 k hk).2.2.trans (f8 k hk).2.2⟩, fun k hk => (g9 k hk).trans (f9 k hk), fun k hk => (g10 k hk).trans (f10 k hk), fun s hs => (g11 s hs).trans (f11 s hs)⟩
theorem wfr_up2 {X : nX} {Y : nY} {w a k : Nat} {v : Int32} (h : ¬ ((a = 2 + 7 * w ∧ 5 ≤ k) ∨ a = 5 + 7 * w ∨ a = 7 + 7 * w ∨ a = 8 + 7 * w ∨ ((a = 106 ∨ a = 109) ∧ k = w) ∨ ((a = 110 ∨ a = 111 ∨ a = 112) ∧ 24 * w ≤ k ∧ k < 24 * w + 24) ∨ (a = 113 ∧ 40 * w ≤ k ∧ k < 40 * w + 40) ∨ (a = 114 ∧ 10 * w ≤ k ∧ k < 10 * w + 10))) : wfr X (up2 X a k v) Y Y w := by
  refine ⟨fun f hf => ?_, up2_ne _ (by omega), up2_ne _ (by omega), up2_ne _ (by omega), rfl, ?_, ?_, fun e he => ⟨?_, ?_, ?_⟩, fun e he => ?_, fun e he => ?_, fun _ _ => rfl⟩
  all_goals rw [up2_at, if_neg (by omega)]
theorem wfr_mpx {X : nX} {Y : nY} {w a lo hi : Nat} {F : Nat → Int32} (h : ¬ (a = 2 + 7 * w ∨ a = 5 + 7 * w ∨ a = 7 + 7 * w ∨ a = 8 + 7 * w ∨ a = 106 ∨ a = 109 ∨ a = 110 ∨ a = 111 ∨ a = 112 ∨ (a = 113 ∧ lo < 40 * w + 40 ∧ 40 * w < hi) ∨ (a = 114 ∧ lo < 10 * w + 10 ∧ 10 * w < hi))) : wfr X (mpx X a lo hi F) Y Y w := by
  refine ⟨fun f hf => ?_, funext (fun _ => mpx_ne (by omega)), funext (fun _ => mpx_ne (by omega)), funext (fun _ => mpx_ne (by omega)), rfl, ?_, ?_, fun e he => ⟨?_, ?_, ?_⟩, fun e he => ?_, fun e he => ?_, fun _ _ => rfl⟩
  all_goals rw [mpx_def, if_neg (by omega)]
theorem wfr_upl {X : nX} {Y : nY} {w a k : Nat} {v : Int64} (h : ¬ (a = 3 + 7 * w ∨ (a = 108 ∧ 1024 * w ≤ k ∧ k < 1024 * w + 1024))) : wfr X X Y (upl Y a k v) w :=
  ⟨fun _ _ => rfl, rfl, rfl, rfl, upl_ne _ (by omega), rfl, rfl, fun _ _ => ⟨rfl, rfl, rfl⟩, fun _ _ => rfl, fun _ _ => rfl, fun s hs => by unfold vr; rw [upl_at, if_neg (by omega)]⟩
theorem wfr_mpl {X : nX} {Y : nY} {w a lo hi : Nat} {F : Nat → Int64} (h : ¬ (a = 3 + 7 * w ∨ (a = 108 ∧ lo < 1024 * w + 1024 ∧ 1024 * w < hi))) : wfr X X Y (mpl Y a lo hi F) w :=
  ⟨fun _ _ => rfl, rfl, rfl, rfl, funext (fun _ => mpl_ne (by omega)), rfl, rfl, fun _ _ => ⟨rfl, rfl, rfl⟩, fun _ _ => rfl, fun _ _ => rfl, fun s hs => by unfold vr; rw [mpl_def, if_neg (by omega)]⟩
theorem wfr_srw {X : nX} {Y : nY} {w a : Nat} {R : Nat → Int64} (h : ¬ (a = 3 + 7 * w ∨ a = 108)) : wfr X X Y (srw Y a R) w :=
  ⟨fun _ _ => rfl, rfl, rfl, rfl, srw_ne (by omega), rfl, rfl, fun _ _ => ⟨rfl, rfl, rfl⟩, fun _ _ => rfl, fun _ _ => rfl, fun s hs => by unfold vr; rw [srw_ne (by omega)]⟩
theorem wfr_ywk {X : nX} {Y : nY} {w q i : Nat} {F T : Nat → Int64} (h : q ≠ w) (hq : q < 12) (hi : i ≤ 1024) : wfr X X Y (ywk Y w F T i) q := by
  unfold ywk
  exact wfr_t (wfr_mpl (by omega)) (wfr_srw (by omega))
/-- the cells that no worth has -/
def oX (X X' : nX) : Prop := ∀ a, (a = 101 ∨ a = 102 ∨ a = 117 ∨ a = 119 ∨ a = 120 ∨ (87 ≤ a ∧ a ≤ 94)) → X' a = X a
def oY (Y Y' : nY) : Prop := ∀ a, (a = 103 ∨ a = 105 ∨ a = 118 ∨ a = 121 ∨ (87 ≤ a ∧ a ≤ 94)) → Y' a = Y a
theorem oX_t {X X' X2 : nX} (h : oX X X') (g : oX X' X2) : oX X X2 := fun a ha => (g a ha).trans (h a ha)
theorem oY_t {X X' X2 : nY} (h : oY X X') (g : oY X' X2) : oY X X2 := fun a ha => (g a ha).trans (h a ha)
theorem oX_r {X : nX} : oX X X := fun _ _ => rfl
theorem oY_r {Y : nY} : oY Y Y := fun _ _ => rfl
theorem oX_up2 {X : nX} {a k : Nat} {v : Int32} (h : ¬ (a = 101 ∨ a = 102 ∨ a = 117 ∨ a = 119 ∨ a = 120 ∨ (87 ≤ a ∧ a ≤ 94))) : oX X (up2 X a k v) := fun b hb => up2_ne _ (by omega)
theorem oX_mpx {X : nX} {a lo hi : Nat} {F : Nat → Int32} (h : ¬ (a = 101 ∨ a = 102 ∨ a = 117 ∨ a = 119 ∨ a = 120 ∨ (87 ≤ a ∧ a ≤ 94))) : oX X (mpx X a lo hi F) := fun b hb => funext (fun _ => mpx_ne (by omega))
theorem oY_upl {Y : nY} {a k : Nat} {v : Int64} (h : ¬ (a = 103 ∨ a = 105 ∨ a = 118 ∨ a = 121 ∨ (87 ≤ a ∧ a ≤ 94))) : oY Y (upl Y a k v) := fun b hb => upl_ne _ (by omega)
theorem oY_mpl {Y : nY} {a lo hi : Nat} {F : Nat → Int64} (h : ¬ (a = 103 ∨ a = 105 ∨ a = 118 ∨ a = 121 ∨ (87 ≤ a ∧ a ≤ 94))) : oY Y (mpl Y a lo hi F) := fun b hb => funext (fun _ => mpl_ne (by omega))
theorem oY_srw {Y : nY} {a : Nat} {R : Nat → Int64} (h : ¬ (a = 103 ∨ a = 105 ∨ a = 118 ∨ a = 121 ∨ (87 ≤ a ∧ a ≤ 94))) : oY Y (srw Y a R) := fun b hb => srw_ne (by omega)
theorem oY_ywk {Y : nY} {w i : Nat} {F T : Nat → Int64} : oY Y (ywk Y w F T i) := by
  unfold ywk
  exact oY_t (oY_mpl (by omega)) (oY_srw (by omega))
theorem Rel_wo {X X' : nX} {Y Y' : nY} {n m b : Nat} {r : Nat → Nat} (ho : rl_o X Y n b r) (hs : ∀ s, s < 4 → rl_s1 X Y s) (hX : oX X X') (hY : oY Y Y') (hh : rl_h X' n m) (hw : ∀ w, w < m → rl_w X' Y' n w) : Rel X' Y' :=
  ⟨n, m, b, r, hh, rl_o_f (hX _ (by omega)) (hX _ (by omega)) (hX _ (by omega)) (hY _ (by omega)) (hY _ (by omega)) (hY _ (by omega)) ho, fun s hs4 => rl_s_f (hX _ (by omega)) (hX _ (by omega)) (hX _ (by omega)) (hY _ (by omega)) (hY _ (by omega)) (hs s hs4), hw⟩
/-- a made-up worth at the end -/
def x_nw (X : nX) (m n : Nat) (k : Int32) : nX := x_fr (up2 (x_begin X m k n) 0 7 (nI (m + 1))) m k
def y_nw (Y : nY) (m n : Nat) : nY := y_fr (y_begin Y m n) m
theorem wfr_beg {X : nX} {Y : nY} {m n w : Nat} {k : Int32} (hw : w < m) (hm : m < 12) : wfr X (up2 (x_begin X m k n) 0 7 (nI (m + 1))) Y (y_begin Y m n) w := by
  unfold x_begin x_begin0 y_begin
  exact wfr_t (wfr_t (wfr_t (wfr_t (wfr_t (wfr_t (wfr_t (wfr_t (wfr_up2 (by omega)) (wfr_up2 (by omega))) (wfr_up2 (by omega))) (wfr_up2 (by omega))) (wfr_up2 (by omega))) (wfr_mpx (by omega))) (wfr_mpx (by omega))) (wfr_up2 (by omega))) (wfr_mpl (by omega))
theorem wfr_fr {X : nX} {Y : nY} {m w : Nat} {k : Int32} (hw : w < m) (hm : m < 12) : wfr X (x_fr X m k) Y (y_fr Y m) w := by
  unfold x_fr y_fr
  exact wfr_t (wfr_t (wfr_t (wfr_t (wfr_t (wfr_t (wfr_up2 (by omega)) (wfr_up2 (by omega))) (wfr_up2 (by omega))) (wfr_mpx (by omega))) (wfr_mpx (by omega))) (wfr_up2 (by omega))) (wfr_mpl (by omega))
theorem oX_beg {X : nX} {m n : Nat} {k : Int32} (hm : m < 12) : oX X (up2 (x_begin X m k n) 0 7 (nI (m + 1))) := by
  unfold x_begin x_begin0
  exact oX_t (oX_t (oX_t (oX_t (oX_t (oX_t (oX_t (oX_up2 (by omega)) (oX_up2 (by omega))) (oX_up2 (by omega))) (oX_up2 (by omega))) (oX_up2 (by omega))) (oX_mpx (by omega))) (oX_mpx (by omega))) (oX_up2 (by omega))
theorem oX_fr {X : nX} {m : Nat} {k : Int32} : oX X (x_fr X m k) := by
  unfold x_fr
  exact oX_t (oX_t (oX_t (oX_t (oX_t (oX_up2 (by omega)) (oX_up2 (by omega))) (oX_up2 (by omega))) (oX_mpx (by omega))) (oX_mpx (by omega))) (oX_up2 (by omega))
theorem oY_beg {Y : nY} {m n : Nat} (hm : m < 12) : oY Y (y_begin Y m n) := by unfold y_begin; exact oY_mpl (by omega)
theorem oY_fr {Y : nY} {m : Nat} : oY Y (y_fr Y m) := by unfold y_fr; exact oY_mpl (by omega)
theorem beg_107 {X : nX} {m n q : Nat} {k : Int32} (hm : m < 12) : up2 (x_begin X m k n) 0 7 (nI (m + 1)) 107 q = X 107 q := by
  unfold x_begin x_begin0
  rw [up2_ne _ (by omega), mpx_ne (by omega), mpx_ne (by omega), up2_ne _ (by omega), up2_ne _ (by omega), up2_ne _ (by omega), up2_ne _ (by omega), up2_ne _ (by omega)]
theorem fr_107 {X : nX} {m q : Nat} {k : Int32} (h : q ≠ m) : x_fr X m k 107 q = X 107 q := by
  unfold x_fr
  rw [up2_ne _ (by omega), mpx_ne (by omega), mpx_ne (by omega), up2_ne _ (by omega), up2_at, if_neg (by omega), up2_ne _ (by omega)]
theorem hfr_nw {X : nX} {Y : nY} {m n : Nat} {k : Int32} (hm : m < 12) : hfr X (x_nw X m n k) Y (y_nw Y m n) m := fun q hq hh =>
  ⟨by unfold x_nw; rw [fr_107 (by omega), beg_107 hm]; exact hh, (wfr_t (wfr_beg (k := k) hq hm) (wfr_fr (X := up2 (x_begin X m k n) 0 7 (nI (m + 1))) (k := k) hq hm)).2.2.2.2.2.2.2.2.2.2⟩
theorem lpr_0 {W : Nat → Int32} {s : Nat} : ∀ {n : Nat}, (∀ t, t < n → W t = 0) → lpr W s 0 n = 0 := by
  intro n
  induction n with
  | zero => intro _; rfl
  | succ n ih =>
    intro h
    show lpr W s 0 n + (if _ then (W n).toInt64 else 0) = 0
    rw [ih (fun t ht => h t (by omega)), h n (by omega), show (0 : Int32).toInt64 = 0 from rfl]
    split <;> rfl
/-- the made-up worth itself, of a kind kd, up to what its kind tells -/
theorem nw_b {X : nX} {m n kd : Nat} (hm : m < 12) (hk : kd < 8) : rl_b (x_nw X m n (nI kd)) n m kd 0 false := by
  unfold x_nw
  refine ⟨?_, ?_, hk, ?_, ?_, ?_, ?_, ?_, ?_⟩
  · unfold x_fr x_begin x_begin0
    rw [up2_ne _ (by omega), mpx_ne (by omega), mpx_ne (by omega), up2_ne _ (by omega), up2_ne _ (by omega), up2_ne _ (by omega), up2_ne _ (by omega), mpx_ne (by omega), mpx_ne (by omega), up2_at, if_neg (by omega), up2_at, if_neg (by omega), up2_at, if_neg (by omega), up2_at, if_neg (by omega), up2_at, if_pos ⟨rfl, rfl⟩]
  · unfold x_fr
    rw [up2_ne _ (by omega), mpx_ne (by omega), mpx_ne (by omega), up2_ne _ (by omega), up2_ne _ (by omega), up2_at, if_pos ⟨rfl, rfl⟩]
  · unfold x_fr x_begin x_begin0
    rw [up2_ne _ (by omega), mpx_ne (by omega), mpx_ne (by omega), up2_ne _ (by omega), up2_ne _ (by omega), up2_ne _ (by omega), up2_ne _ (by omega), mpx_ne (by omega), mpx_ne (by omega), up2_at, if_neg (by omega), up2_at, if_pos ⟨rfl, rfl⟩]; rfl
  · unfold x_fr
    rw [up2_ne _ (by omega), mpx_ne (by omega), mpx_ne (by omega), up2_ne _ (by omega), up2_at, if_pos ⟨rfl, rfl⟩]; rfl
  · unfold x_fr x_begin x_begin0
    rw [up2_ne _ (by omega), mpx_ne (by omega), mpx_ne (by omega), up2_ne _ (by omega), up2_ne _ (by omega), up2_ne _ (by omega), up2_ne _ (by omega), mpx_ne (by omega), mpx_ne (by omega), up2_at, if_neg (by omega), up2_at, if_neg (by omega), up2_at, if_pos ⟨rfl, rfl⟩]
  · unfold x_fr x_begin x_begin0
    rw [up2_ne _ (by omega), mpx_ne (by omega), mpx_ne (by omega), up2_ne _ (by omega), up2_ne _ (by omega), up2_ne _ (by omega), up2_ne _ (by omega), mpx_ne (by omega), mpx_ne (by omega), up2_at, if_neg (by omega), up2_at, if_neg (by omega), up2_at, if_neg (by omega), up2_at, if_pos ⟨rfl, rfl⟩]
  · unfold x_fr x_begin x_begin0
    rw [up2_ne _ (by omega), mpx_ne (by omega), mpx_ne (by omega), up2_ne _ (by omega), up2_ne _ (by omega), up2_ne _ (by omega), up2_ne _ (by omega), mpx_ne (by omega), mpx_ne (by omega), up2_at, if_pos ⟨rfl, rfl⟩]
  · unfold x_fr
    rw [up2_ne _ (by omega), mpx_ne (by omega), mpx_ne (by omega), up2_at, if_pos ⟨rfl, rfl⟩]
theorem nw_v0 {Y : nY} {m n s : Nat} (hs : s < 1024) : vr (y_nw Y m n) m s = 0 := by
  unfold vr y_nw y_fr
  rw [mpl_lt (by omega) (by omega)]
theorem nw_v {Y : nY} {m n : Nat} (hm : m < 12) (hn : n ≤ 10) : rl_v (y_nw Y m n) n m := by
  have h2n := p2_le hn
  refine ⟨fun s hs => ?_, fun s hs => ?_, nw_v0 (by omega)⟩
  · rw [nw_v0 (by omega)]
    unfold y_nw y_fr y_begin
    rw [mpl_ne (by omega), mpl_lt (by omega) hs]
  · rw [nw_v0 (by omega)]; decide
theorem nw_k {X : nX} {Y : nY} {m n kd : Nat} (hm : m < 12) (hn : n ≤ 10) : rl_k (x_nw X m n (nI kd)) (y_nw Y m n) n m kd 0 := by
  have h2n := p2_le hn
  have e113 : ∀ k, k < 40 → x_nw X m n (nI kd) 113 (40 * m + k) = 0 := fun k hk => by
    unfold x_nw x_fr
    rw [up2_ne _ (by omega), mpx_ne (by omega), mpx_lt (by omega) (by omega)]; rfl
  have e114 : ∀ k, k < 10 → x_nw X m n (nI kd) 114 (10 * m + k) = 0 := fun k hk => by
    unfold x_nw x_fr
    rw [up2_ne _ (by omega), mpx_lt (by omega) (by omega)]; rfl
  refine ⟨fun _ => ⟨by omega, fun _ => 0, fun _ => 0, fun k hk => absurd hk (Nat.not_lt_zero _), fun s hs => by rw [nw_v0 (by omega)]; rfl⟩, fun _ => ⟨by omega, fun _ => 0, fun k hk => absurd hk (Nat.not_lt_zero _), fun s hs => by rw [nw_v0 (by omega)]; rfl⟩, fun _ => ⟨fun k hk => ?_, fun s hs => ?_⟩, fun _ => ⟨by omega, fun k hk => absurd hk (Nat.not_lt_zero _)⟩, fun _ => ⟨by omega, fun _ => 0, fun k hk => absurd hk (Nat.not_lt_zero _), fun t ht => ?_, fun s hs => ?_⟩⟩
  · rw [e113 k hk]
    refine ⟨?_, by decide⟩
    unfold x_nw x_fr x_begin
    rw [up2_ne _ (by omega), mpx_ne (by omega), mpx_ne (by omega), up2_ne _ (by omega), up2_ne _ (by omega), up2_ne _ (by omega), up2_ne _ (by omega), mpx_ne (by omega), mpx_lt (by omega) hk]; rfl
  · rw [nw_v0 (by omega), RK_z e113 s hn]; rfl
  · rw [e114 t ht]
    refine ⟨?_, by decide⟩
    unfold x_nw x_fr x_begin
    rw [up2_ne _ (by omega), mpx_ne (by omega), mpx_ne (by omega), up2_ne _ (by omega), up2_ne _ (by omega), up2_ne _ (by omega), up2_ne _ (by omega), mpx_lt (by omega) ht]; rfl
  · rw [nw_v0 (by omega)]
    exact (lpr_0 (fun t ht => e114 t (by omega))).symm
theorem nw_h {X : nX} {n m : Nat} {k : Int32} (hm : m < 12) (h : rl_h X n m) : rl_h (x_nw X m n k) n (m + 1) := by
  obtain ⟨hn, _, a6, a7, b6, b7, hcd⟩ := h
  have e0 : ∀ q, q ≠ 7 → x_nw X m n k 0 q = X 0 q := fun q hq => by
    unfold x_nw x_fr x_begin x_begin0
    rw [up2_ne _ (by omega), mpx_ne (by omega), mpx_ne (by omega), up2_ne _ (by omega), up2_ne _ (by omega), up2_ne _ (by omega), up2_at, if_neg (by omega), mpx_ne (by omega), mpx_ne (by omega), up2_ne _ (by omega), up2_ne _ (by omega), up2_ne _ (by omega), up2_ne _ (by omega), up2_ne _ (by omega)]
  have e105 : ∀ q, q ≠ 1 → x_nw X m n k 105 q = X 105 q := fun q hq => by
    unfold x_nw x_fr x_begin x_begin0
    rw [up2_at, if_neg (by omega), mpx_ne (by omega), mpx_ne (by omega), up2_ne _ (by omega), up2_ne _ (by omega), up2_ne _ (by omega), up2_ne _ (by omega), mpx_ne (by omega), mpx_ne (by omega), up2_ne _ (by omega), up2_ne _ (by omega), up2_ne _ (by omega), up2_ne _ (by omega), up2_ne _ (by omega)]
  refine ⟨hn, by omega, by rw [e0 _ (by omega)]; exact a6, ?_, by rw [e105 _ (by omega)]; exact b6, ?_, by rw [e0 _ (by omega), e105 _ (by omega)]; exact hcd⟩
  · unfold x_nw x_fr
    rw [up2_ne _ (by omega), mpx_ne (by omega), mpx_ne (by omega), up2_ne _ (by omega), up2_ne _ (by omega), up2_ne _ (by omega), up2_at, if_pos ⟨rfl, rfl⟩]
  · unfold x_nw x_fr
    rw [up2_at, if_pos ⟨rfl, rfl⟩]
theorem nw_old {X : nX} {Y : nY} {n m w : Nat} {k : Int32} (hn : n ≤ 10) (hm : m < 12) (hw : w < m) (h : rl_w X Y n w) : rl_w (x_nw X m n k) (y_nw Y m n) n w := by
  refine rl_w_f (by omega) hn (wfr_t (wfr_beg (k := k) hw hm) (wfr_fr (X := up2 (x_begin X m k n) 0 7 (nI (m + 1))) (k := k) hw hm)) (fun q hq hh => hfr_nw hm q (by omega) hh) ?_ h
  obtain ⟨kd, P, hd, ⟨b1, b2, b3, b4, b5, -⟩, -⟩ := h
  refine ⟨hd, ?_, by unfold x_nw; rw [fr_107 (by omega), beg_107 hm]; exact b5⟩
  unfold x_nw x_fr x_begin x_begin0
  rw [up2_ne _ (by omega), mpx_ne (by omega), mpx_ne (by omega), up2_ne _ (by omega), up2_ne _ (by omega), up2_ne _ (by omega), up2_ne _ (by omega), mpx_ne (by omega), mpx_ne (by omega), up2_ne _ (by omega), up2_ne _ (by omega), up2_ne _ (by omega), up2_ne _ (by omega), up2_ne _ (by omega)]
  exact b4
section NW
variable {c : cx} {X : nX} {Y : nY}
theorem Rel_nw {kd : Nat} {n m b : Nat} {r : Nat → Nat} (hm : m < 12) (hk : kd < 8) (hh : rl_h X n m) (ho : rl_o X Y n b r) (hs : ∀ s, s < 4 → rl_s1 X Y s) (hw : ∀ w, w < m → rl_w X Y n w) : Rel (x_nw X m n (nI kd)) (y_nw Y m n) := by
  have hn := hh.1
  refine Rel_wo ho hs (oX_t (oX_beg hm) oX_fr) (oY_t (oY_beg hm) oY_fr) (nw_h hm hh) (fun w hw2 => ?_)
  rcases Nat.lt_or_ge w m with h9 | h9
  · exact nw_old hn hm h9 (hw w h9)
  · have : w = m := by omega
    subst this
    exact ⟨kd, 0, false, nw_b hm hk, nw_v hm hn, nw_k hm hn⟩
theorem beg_105 {m n q : Nat} {k : Int32} (hm : m < 12) : up2 (x_begin X m k n) 0 7 (nI (m + 1)) 105 q = X 105 q := by
  unfold x_begin x_begin0
  rw [up2_ne _ (by omega), mpx_ne (by omega), mpx_ne (by omega), up2_ne _ (by omega), up2_ne _ (by omega), up2_ne _ (by omega), up2_ne _ (by omega), up2_ne _ (by omega)]
theorem st_worth (h : Rel X Y) (k : Int32) : stI c mX7_worth mX8_worth [.int k] X Y := by
  obtain ⟨n, m, b, r, hh, ho, hs, hw⟩ := id h
  obtain ⟨hn, hm, a6, a7, b6, b7, hcd⟩ := id hh
  cases hi : ix k 5 with
  | false => exact mkI (c_worth_o hi) (r_worth_o hi) rfl h
  | true =>
    rcases Nat.lt_or_ge m 12 with h9 | h9
    · obtain ⟨kd, hk, rfl⟩ := ix_t hi (by omega)
      exact mkI (c_worth_k hn a6 h9 a7 hi) (r_worth_k h9 (by rw [beg_105 h9]; exact b7) hi) rfl (Rel_nw h9 (by omega) hh ho hs hw)
    · have : m = 12 := by omega
      subst this
      exact mkI (c_worth_f hi a7) (r_worth_f hi b7) rfl h
theorem st_sum (h : Rel X Y) : stI c mX7_sum mX8_sum [] X Y := by
  obtain ⟨n, m, b, r, hh, ho, hs, hw⟩ := id h
  obtain ⟨hn, hm, a6, a7, b6, b7, hcd⟩ := id hh
  rcases Nat.lt_or_ge m 12 with h9 | h9
  · exact mkI (c_sum_k hn a6 h9 a7) (r_sum_k h9 (by rw [beg_105 h9]; exact b7)) rfl (Rel_nw h9 (by omega) hh ho hs hw)
  · have : m = 12 := by omega
    subst this
    exact mkI (c_sum_f a7) (r_sum_f b7) rfl h
theorem st_count (h : Rel X Y) (i w : Int32) : stI c mX7_count mX8_count [.int i, .int w] X Y := by
  obtain ⟨n, m, b, r, hh, ho, hs, hw⟩ := id h
  obtain ⟨hn, hm, a6, a7, b6, b7, hcd⟩ := id hh
  cases hi : ix i 7 with
  | false => exact mkI (c_count_o hi) (r_count_o hi) rfl h
  | true =>
    obtain ⟨k, hk, rfl⟩ := ix_t hi (by omega)
    by_cases h0 : k = 0
    · subst h0; exact mkI c_count_0 (r_count_0 hn b6) a6 h
    by_cases h1 : k = 1
    · subst h1; exact mkI c_count_1 (r_count_1 hm b7) a7 h
    cases hi2 : ix w m with
    | false => exact mkI (c_count_u hm a7 (by omega) hk hi2) (r_count_u hm b7 (by omega) hk hi2) rfl h
    | true =>
      obtain ⟨j, hj, rfl⟩ := ix_t hi2 (by omega)
      obtain ⟨kd, P, hd, ⟨q1, q2, q3, q4, q5, q6, q7, q8, q9⟩, -⟩ := hw j hj
      have hq : k = 2 ∨ k = 3 ∨ k = 4 ∨ k = 5 ∨ k = 6 := by omega
      rcases hq with e | e | e | e | e <;> subst e
      · exact mkI (c_count_2 hm a7 hj) (r_count_2 hm b7 hj) (by rw [q1, q2, q8, q9]) h
      · exact mkI (c_count_3 hm a7 hj) (r_count_3 hm b7 hj) (by rw [q1, q2, q8, q9]) h
      · exact mkI (c_count_4 hm a7 hj) (r_count_4 hm b7 hj) (by rw [q1, q2, q8, q9]) h
      · exact mkI (c_count_5 hm a7 hj) (r_count_5 hm b7 hj) (by rw [q1, q2, q8, q9]) h
      · cases hd with
        | true => exact mkI (c_count_6true hm a7 hj q4) (r_count_6true hm b7 hj q5) rfl h
        | false => exact mkI (c_count_6false hm a7 hj q4) (r_count_6false hm b7 hj q5) rfl h
end NW
