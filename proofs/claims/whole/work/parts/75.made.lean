/-! parts of others, beyond others; what is told -/
theorem up2_comm {X : nX} {i k i' k' : Nat} {v v' : Int32} (h : i ≠ i') : up2 (up2 X i k v) i' k' v' = up2 (up2 X i' k' v') i k v := by
  funext a b
  rw [up2_at, up2_at, up2_at, up2_at]
  by_cases h1 : a = i' ∧ b = k'
  · rw [if_pos h1, if_neg (by omega), if_pos h1]
  · rw [if_neg h1]
    by_cases h2 : a = i ∧ b = k
    · rw [if_pos h2, if_pos h2]
    · rw [if_neg h2, if_neg h2, if_neg h1]
theorem mpx_up2 {X : nX} {a lo hi i k : Nat} {F : Nat → Int32} {v : Int32} (h : a ≠ i) : mpx (up2 X i k v) a lo hi F = up2 (mpx X a lo hi F) i k v := by
  funext x y
  rw [mpx_def, up2_at, up2_at, mpx_def]
  by_cases h1 : x = a ∧ lo ≤ y ∧ y < hi
  · rw [if_pos h1, if_neg (by omega), if_pos h1]
  · rw [if_neg h1, if_neg h1]
theorem mpl_mpl {Y : nY} {a lo hi a' lo' hi' : Nat} {F F' : Nat → Int64} (h : a ≠ a') : mpl (mpl Y a lo hi F) a' lo' hi' F' = mpl (mpl Y a' lo' hi' F') a lo hi F := by
  funext x y
  rw [mpl_def, mpl_def, mpl_def, mpl_def]
  by_cases h1 : x = a' ∧ lo' ≤ y ∧ y < hi'
  · rw [if_pos h1, if_neg (by omega), if_pos h1]
  · rw [if_neg h1, if_neg h1]
theorem fr_up2 {X : nX} {m i k' : Nat} {k v : Int32} (h : ¬ (i = 105 ∨ i = 106 ∨ i = 107 ∨ i = 109 ∨ i = 113 ∨ i = 114)) : x_fr (up2 X i k' v) m k = up2 (x_fr X m k) i k' v := by
  unfold x_fr
  rw [up2_comm (i := i) (i' := 106) (by omega), up2_comm (i := i) (i' := 107) (by omega), up2_comm (i := i) (i' := 109) (by omega), mpx_up2 (a := 113) (by omega), mpx_up2 (a := 114) (by omega), up2_comm (i := i) (i' := 105) (by omega)]
theorem work_c {c : cx} {d : Nat} {X : nX} {Y : nY} {w n kd : Nat} {F : Nat → Int64} (hw : w < 12) (hn : n ≤ 10) (h6 : X 105 0 = nI n) (hkd : X 106 w = nI kd) (hk0 : kd ≠ 0) (hk8 : kd < 8) (hW : ∀ i, i < 2 ^ n → sc c mX8_worked (d + 4) [.ref (c_ad c 105), .int (nI w), .int (nI i)] X (ywk Y w F (Y 122) i) (some (.long (F i))) X (ywk Y w F (Y 122) i)) : sc c mX8_work (d + 5) [.ref (c_ad c 105), .int (nI w)] X Y (some (.int (bI (!(lany (p_lg F) (2 ^ n)))))) X (ywk Y w F (Y 122) (2 ^ n)) :=
  m_work hw hn h6 (T := fun _ => Y 122) hkd hk0 hk8 rfl hW
theorem lg_no {F : Nat → Int64} {S : Nat} (h : ∀ i, i < S → (F i).toInt.natAbs ≤ 1000000000000) : lany (p_lg F) S = false := lany_f (ff_none.mpr (fun k hk => by
  have h1 := h k hk
  unfold p_lg
  rw [szl_le (B := 1000000000000) (by omega) rfl, decide_eq_true h1]
  rfl))
theorem scq {c : cx} {M : sm_M} {d : Nat} {As : List Value} {X X1 X1' : nX} {Y Y1 Y1' : nY} {r r' : Option Value} (h : sc c M d As X Y r X1 Y1) (e1 : r = r') (e2 : X1 = X1') (e3 : Y1 = Y1') : sc c M d As X Y r' X1' Y1' := by
  subst e1; subst e2; subst e3; exact h
def x_me (X : nX) (m n kd p s : Nat) : nX := up2 (up2 (up2 (up2 (x_nw X m n (nI kd)) (2 + 7 * p) 4 (nI 1)) 115 m (nI p)) 116 m (nI s)) 107 p (nI 1)
def y_me (Y : nY) (m n : Nat) (G F T : Nat → Int64) : nY := ywk (mpl (y_nw Y m n) (3 + 7 * m) 0 (2 ^ n) G) m F T (2 ^ n)
section MD
variable {c : cx} {X : nX} {Y : nY}
theorem Rel_me {kd p s n m b : Nat} {r : Nat → Nat} {G F T : Nat → Int64} (hm : m < 12) (hk : kd = 6 ∨ kd = 7) (hp : p < m) (hh : rl_h X n m) (ho : rl_o X Y n b r) (hs : ∀ s, s < 4 → rl_s1 X Y s) (hw : ∀ w, w < m → rl_w X Y n w) (hG : ∀ i, i < 2 ^ n → G i = F i) (hF : ∀ i, i < 2 ^ n → (F i).toInt.natAbs ≤ 1000000000000) (hF0 : F 0 = 0) : Rel (x_me X m n kd p s) (y_me Y m n G F T) := by
  have hn := hh.1
  have h2n := p2_le hn
  have h1n := p2_1 (n := n)
  have eA : ∀ a k, ¬ (a = 2 + 7 * p ∧ k = 4) → a ≠ 115 → a ≠ 116 → ¬ (a = 107 ∧ k = p) → x_me X m n kd p s a k = x_nw X m n (nI kd) a k := fun a k g1 g2 g3 g4 => by
    unfold x_me
    rw [up2_at, if_neg g4, up2_ne _ g3, up2_ne _ g2, up2_at, if_neg g1]
  obtain ⟨k1, k2, k3, k4, k5, k6, k7⟩ := nw_h (k := nI kd) hm hh
  refine Rel_wo (X' := x_me X m n kd p s) ho hs (oX_t (oX_t (oX_beg hm) oX_fr) (oX_t (oX_t (oX_t (oX_up2 (by omega)) (oX_up2 (by omega))) (oX_up2 (by omega))) (oX_up2 (by omega)))) (oY_t (oY_t (oY_t (oY_beg hm) oY_fr) (oY_mpl (by omega))) oY_ywk) (m := m + 1) ⟨k1, k2, ?_, ?_, ?_, ?_, ?_⟩ (fun w hw2 => ?_)
  · rw [eA _ _ (by omega) (by omega) (by omega) (by omega)]; exact k3
  · rw [eA _ _ (by omega) (by omega) (by omega) (by omega)]; exact k4
  · rw [eA _ _ (by omega) (by omega) (by omega) (by omega)]; exact k5
  · rw [eA _ _ (by omega) (by omega) (by omega) (by omega)]; exact k6
  · rw [eA 0 _ (by omega) (by omega) (by omega) (by omega), eA 105 _ (by omega) (by omega) (by omega) (by omega)]; exact k7
  · rcases Nat.lt_or_ge w m with h9 | h9
    · have ho9 := nw_old (k := nI kd) hn hm h9 (hw w h9)
      have hvq : ∀ q, q ≠ m → q < 12 → ∀ s, s < 1024 → vr (y_me Y m n G F T) q s = vr (y_nw Y m n) q s := fun q hq hq2 s hs => by
        unfold y_me
        rw [ywk_vr hq hs (by omega)]
        unfold vr
        rw [mpl_ne (by omega)]
      refine rl_w_f (by omega) hn (wfr_t (wfr_t (wfr_t (wfr_t (wfr_t (wfr_up2 (by omega)) (wfr_up2 (by omega))) (wfr_up2 (by omega))) (wfr_up2 (by omega))) (wfr_mpl (by omega))) (wfr_ywk (by omega) (by omega) (by omega))) (fun q hq hh9 => ⟨?_, hvq q (by omega) (by omega)⟩) ?_ ho9
      · by_cases hqp : q = p
        · unfold x_me; rw [up2_at, if_pos ⟨rfl, hqp⟩]; rfl
        · rw [eA _ _ (by omega) (by omega) (by omega) (by omega)]; exact hh9
      · by_cases hqp : w = p
        · refine ⟨true, ?_, ?_⟩
          · unfold x_me; rw [up2_ne _ (by omega), up2_ne _ (by omega), up2_ne _ (by omega), up2_at, if_pos ⟨by omega, rfl⟩]; rfl
          · unfold x_me; rw [up2_at, if_pos ⟨rfl, hqp⟩]; rfl
        · obtain ⟨kd', P, hd, ⟨b1, b2, b3, b4, b5, -⟩, -⟩ := ho9
          exact ⟨hd, by rw [eA _ _ (by omega) (by omega) (by omega) (by omega)]; exact b4, by rw [eA _ _ (by omega) (by omega) (by omega) (by omega)]; exact b5⟩
    · have : w = m := by omega
      subst this
      obtain ⟨q1, q2, q3, q4, q5, q6, q7, q8, q9⟩ := nw_b (X := X) (n := n) (kd := kd) hm (by omega)
      refine ⟨kd, 0, false, ⟨?_, ?_, q3, ?_, ?_, ?_, ?_, ?_, ?_⟩, ⟨fun s hs => ?_, fun s hs => ?_, ?_⟩, fun e => by omega, fun e => by omega, fun e => by omega, fun e => by omega, fun e => by omega⟩
      · rw [eA _ _ (by omega) (by omega) (by omega) (by omega)]; exact q1
      · rw [eA _ _ (by omega) (by omega) (by omega) (by omega)]; exact q2
      · rw [eA _ _ (by omega) (by omega) (by omega) (by omega)]; exact q4
      · rw [eA _ _ (by omega) (by omega) (by omega) (by omega)]; exact q5
      · rw [eA _ _ (by omega) (by omega) (by omega) (by omega)]; exact q6
      · rw [eA _ _ (by omega) (by omega) (by omega) (by omega)]; exact q7
      · rw [eA _ _ (by omega) (by omega) (by omega) (by omega)]; exact q8
      · rw [eA _ _ (by omega) (by omega) (by omega) (by omega)]; exact q9
      · unfold y_me
        rw [ywk_own hs]
        unfold ywk
        rw [srw_ne (by omega), mpl_ne (by omega), mpl_lt (by omega) hs]
        exact hG s hs
      · unfold y_me
        rw [ywk_own hs]; exact hF s hs
      · unfold y_me
        rw [ywk_own (by omega)]; exact hF0
theorem md_x {m n kd p s : Nat} (hp : p < m) (hm : m < 12) : up2 (x_md (up2 (up2 (x_begin X m (nI kd) n) 0 7 (nI (m + 1))) (2 + 7 * p) 4 (nI 1)) m (nI kd) p s) 107 p (nI 1) = x_me X m n kd p s := by
  unfold x_md x_me x_nw
  rw [fr_up2 (by omega)]
theorem md_y {m n : Nat} {G : Nat → Int64} (hm : m < 12) : y_fr (mpl (y_begin Y m n) (3 + 7 * m) 0 (2 ^ n) G) m = mpl (y_nw Y m n) (3 + 7 * m) 0 (2 ^ n) G := by
  unfold y_nw y_fr
  rw [mpl_mpl (by omega)]
/-- what a part or what lies beyond is worked out of -/
theorem md_work {kd p s n m : Nat} {F : Nat → Int64} (X1 : nX) (Yd : nY) (hm : m < 12) (hp : p < m) (hn : n ≤ 10) (hs : s < 2 ^ n) (h6 : X1 105 0 = nI n) (hk : kd = 6 ∨ kd = 7) (hF : ∀ i, i < 2 ^ n → F i = if kd = 6 then vr Yd p (i &&& s) else vr Yd p (i ||| s) - vr Yd p s) (d : Nat) : sc c mX8_work (d + 5) [.ref (c_ad c 105), .int (nI m)] (x_md X1 m (nI kd) p s) Yd (some (.int (bI (!(lany (p_lg F) (2 ^ n)))))) (x_md X1 m (nI kd) p s) (ywk Yd m F (Yd 122) (2 ^ n)) := by
  have h2n := p2_le hn
  have e6 : x_md X1 m (nI kd) p s 105 0 = nI n := by
    unfold x_md x_fr
    rw [up2_ne _ (by omega), up2_ne _ (by omega), up2_at, if_neg (by omega), mpx_ne (by omega), mpx_ne (by omega), up2_ne _ (by omega), up2_ne _ (by omega), up2_ne _ (by omega)]; exact h6
  have ek : x_md X1 m (nI kd) p s 106 m = nI kd := by
    unfold x_md x_fr
    rw [up2_ne _ (by omega), up2_ne _ (by omega), up2_ne _ (by omega), mpx_ne (by omega), mpx_ne (by omega), up2_ne _ (by omega), up2_ne _ (by omega), up2_at, if_pos ⟨rfl, rfl⟩]
  have e115 : x_md X1 m (nI kd) p s 115 m = nI p := by unfold x_md; rw [up2_ne _ (by omega), up2_at, if_pos ⟨rfl, rfl⟩]
  have e116 : x_md X1 m (nI kd) p s 116 m = nI s := by unfold x_md; rw [up2_at, if_pos ⟨rfl, rfl⟩]
  refine work_c hm hn e6 ek (by omega) (by omega) (fun i hi => ?_)
  have hv : ∀ q, q < 1024 → vr (ywk Yd m F (Yd 122) i) p q = vr Yd p q := fun q hq => ywk_vr (by omega) hq (by omega)
  rcases hk with hk | hk <;> subst hk
  · refine scq (m_worked6 hm (q := p) (e := s) (s := i) (by omega) (by omega) e115 e116 (by omega) ek) ?_ rfl rfl
    rw [hv _ (xb_and10 (by omega)), hF i hi, if_pos rfl]
  · refine scq (m_worked7 hm (q := p) (e := s) (s := i) (by omega) (by omega) e115 e116 (by omega) ek) ?_ rfl rfl
    rw [hv _ (xb_or10 (by omega) (by omega)), hv _ (by omega), hF i hi, if_neg (by decide)]
theorem st_part (h : Rel X Y) (w s : Int32) : stI c mX7_part mX8_part [.int w, .int s] X Y := by
  obtain ⟨n, m, b, r, hh, ho, hs, hw⟩ := id h
  obtain ⟨hn, hm, a6, a7, b6, b7, hcd⟩ := id hh
  have h2n := p2_le hn
  cases hi : ix w m with
  | false => exact mkI (c_part_u hn a6 hm a7 (Or.inl hi)) (r_part (r_made_u (d := 2) hn b6 hm b7 (Or.inl hi))) rfl h
  | true =>
    cases hi2 : ix s (2 ^ n) with
    | false => exact mkI (c_part_u hn a6 hm a7 (Or.inr hi2)) (r_part (r_made_u (d := 2) hn b6 hm b7 (Or.inr hi2))) rfl h
    | true =>
      obtain ⟨p, hp, rfl⟩ := ix_t hi (by omega)
      obtain ⟨q, hq, rfl⟩ := ix_t hi2 (by omega)
      rcases Nat.lt_or_ge m 12 with h9 | h9
      · have z1 := c_part_k (c := c) (d := 5) (X := X) (Y := Y) hn a6 h9 a7 hp hq
        generalize hX1 : up2 (up2 (x_begin X m (nI 6) n) 0 7 (nI (m + 1))) (2 + 7 * p) 4 (nI 1) = X1 at z1
        have e105 : ∀ k, X1 105 k = X 105 k := fun k => by rw [← hX1, up2_ne _ (by omega), beg_105 h9]
        obtain ⟨hv, hB, hv0⟩ := rl_w_v (hw p hp)
        have hYp : y_begin Y m n (3 + 7 * p) = Y (3 + 7 * p) := by unfold y_begin; funext k; rw [mpl_ne (by omega)]
        have hvp : ∀ k, k < 1024 → vr (mpl (y_nw Y m n) (3 + 7 * m) 0 (2 ^ n) (f_part (y_begin Y m n) p q)) p k = vr Y p k := fun k hk => by
          unfold vr y_nw y_fr y_begin
          rw [mpl_ne (by omega), mpl_def, if_neg (by omega), mpl_ne (by omega)]
        have hwk := md_work (c := c) (kd := 6) (p := p) (s := q) (F := fun i => vr Y p (i &&& q)) X1 (mpl (y_nw Y m n) (3 + 7 * m) 0 (2 ^ n) (f_part (y_begin Y m n) p q)) h9 hp hn hq (by rw [e105]; exact b6) (Or.inl rfl) (fun i hi => by rw [if_pos rfl, hvp _ (xb_and10 (by omega))]) 2
        have hFb : ∀ i, i < 2 ^ n → (vr Y p (i &&& q)).toInt.natAbs ≤ 1000000000000 := fun i hi => hB _ (Nat.lt_of_le_of_lt Nat.and_le_left hi)
        rw [lg_no hFb, ← md_y h9] at hwk
        have z2 := r_part (r_made_k (c := c) (d := 2) (X := X1) hn (by rw [e105]; exact b6) h9 (by rw [e105]; exact b7) hp hq hwk)
        refine mkI z1 z2 rfl ?_
        rw [← hX1, md_x hp h9, md_y h9]
        refine Rel_me h9 (Or.inl rfl) hp hh ho hs hw (fun i hi => ?_) hFb ?_
        · unfold f_part
          rw [hYp]
          exact hv _ (Nat.lt_of_le_of_lt Nat.and_le_left hi)
        · show vr Y p (0 &&& q) = 0
          rw [Nat.zero_and]; exact hv0
      · have : m = 12 := by omega
        subst this
        exact mkI (c_part_f hn a6 a7 hp hq) (r_part (r_made_f (d := 2) hn b6 b7 hp hq)) rfl h
theorem st_beyond (h : Rel X Y) (w s : Int32) : stI c mX7_beyond mX8_beyond [.int w, .int s] X Y := by
  obtain ⟨n, m, b, r, hh, ho, hs, hw⟩ := id h
  obtain ⟨hn, hm, a6, a7, b6, b7, hcd⟩ := id hh
  have h2n := p2_le hn
  cases hi : ix w m with
  | false => exact mkI (c_beyond_u hn a6 hm a7 (Or.inl hi)) (r_beyond (r_made_u (d := 2) hn b6 hm b7 (Or.inl hi))) rfl h
  | true =>
    cases hi2 : ix s (2 ^ n) with
    | false => exact mkI (c_beyond_u hn a6 hm a7 (Or.inr hi2)) (r_beyond (r_made_u (d := 2) hn b6 hm b7 (Or.inr hi2))) rfl h
    | true =>
      obtain ⟨p, hp, rfl⟩ := ix_t hi (by omega)
      obtain ⟨q, hq, rfl⟩ := ix_t hi2 (by omega)
      rcases Nat.lt_or_ge m 12 with h9 | h9
      · obtain ⟨hv, hB, hv0⟩ := rl_w_v (hw p hp)
        have hse := (rl_w_b (hw p hp)).1
        have hFb : ∀ i, i < 2 ^ n → (vr Y p (i ||| q) - vr Y p q).toInt.natAbs ≤ 2000000000000 := fun i hi => by
          have g1 := hB _ (Nat.or_lt_two_pow hi hq)
          have g2 := hB _ hq
          rw [sub_toInt (by omega) (by omega)]
          omega
        have hlg : lany (p_beyond Y p q) (2 ^ n) = lany (p_lg (fun i => vr Y p (i ||| q) - vr Y p q)) (2 ^ n) := by
          unfold lany
          rw [ff_congr (R := p_lg (fun i => vr Y p (i ||| q) - vr Y p q)) (fun i hi => ?_)]
          have g1 := hFb i hi
          show (!wi (Y (3 + 7 * p) (i ||| q) - Y (3 + 7 * p) q) (-1000000000000) 1000000000000) = !decide (szl (vr Y p (i ||| q) - vr Y p q) ≤ 1000000000000)
          rw [hv _ (Nat.or_lt_two_pow hi hq), hv _ hq, wi_abs (B := 1000000000000) rfl rfl, szl_le (B := 1000000000000) (by omega) rfl]
        cases hl : lany (p_beyond Y p q) (2 ^ n) with
        | true =>
          have hwk := md_work (c := c) (kd := 7) (p := p) (s := q) (F := fun i => vr Y p (i ||| q) - vr Y p q) X (y_fr Y m) h9 hp hn hq b6 (Or.inr rfl) (fun i hi => by
            have e1 : ∀ k, k < 1024 → vr (y_fr Y m) p k = vr Y p k := fun k hk => by unfold vr y_fr; rw [mpl_def, if_neg (by omega)]
            rw [if_neg (by decide), e1 _ (xb_or10 (by omega) (by omega)), e1 _ (by omega)]) 2
          rw [← hlg, hl] at hwk
          refine mkI (c_beyond_l hn a6 h9 a7 hp hq hse hl) (r_beyond (r_made_l (d := 2) hn b6 h9 b7 hp hq hwk)) rfl ?_
          have hwf : ∀ w, w < m → wfr X (up2 (x_md X m (nI 7) p q) 105 1 (nI (m + 1 - 1))) Y (ywk (y_fr Y m) m (fun i => vr Y p (i ||| q) - vr Y p q) (y_fr Y m 122) (2 ^ n)) w := fun w hw2 => by
            unfold x_md
            exact wfr_t (wfr_t (wfr_t (wfr_t (wfr_fr (k := nI 7) hw2 h9) (wfr_up2 (by omega))) (wfr_up2 (by omega))) (wfr_up2 (by omega))) (wfr_ywk (by omega) (by omega) (by omega))
          have eA : ∀ a k, a ≠ 115 → a ≠ 116 → a ≠ 105 → up2 (x_md X m (nI 7) p q) 105 1 (nI (m + 1 - 1)) a k = x_fr X m (nI 7) a k := fun a k g1 g2 g3 => by
            unfold x_md; rw [up2_ne _ g3, up2_ne _ g2, up2_ne _ g1]
          have e105 : ∀ k, k ≠ 1 → up2 (x_md X m (nI 7) p q) 105 1 (nI (m + 1 - 1)) 105 k = X 105 k := fun k hk => by
            unfold x_md x_fr
            rw [up2_at, if_neg (by omega), up2_ne _ (by omega), up2_ne _ (by omega), up2_at, if_neg (by omega), mpx_ne (by omega), mpx_ne (by omega), up2_ne _ (by omega), up2_ne _ (by omega), up2_ne _ (by omega)]
          have e0 : ∀ k, up2 (x_md X m (nI 7) p q) 105 1 (nI (m + 1 - 1)) 0 k = X 0 k := fun k => by
            rw [eA _ _ (by omega) (by omega) (by omega)]
            unfold x_fr
            rw [up2_ne _ (by omega), mpx_ne (by omega), mpx_ne (by omega), up2_ne _ (by omega), up2_ne _ (by omega), up2_ne _ (by omega)]
          refine Rel_wo (m := m) ho hs (by unfold x_md; exact oX_t (oX_t (oX_t oX_fr (oX_up2 (by omega))) (oX_up2 (by omega))) (oX_up2 (by omega))) (oY_t oY_fr oY_ywk) ⟨hn, hm, by rw [e0]; exact a6, by rw [e0]; exact a7, by rw [e105 _ (by omega)]; exact b6, by rw [up2_at, if_pos ⟨rfl, rfl⟩, Nat.add_sub_cancel], by rw [e0, e105 _ (by omega)]; exact hcd⟩ (fun w hw2 => ?_)
          have e107 : ∀ k, k < m → up2 (x_md X m (nI 7) p q) 105 1 (nI (m + 1 - 1)) 107 k = X 107 k := fun k hk => by rw [eA _ _ (by omega) (by omega) (by omega), fr_107 (by omega)]
          refine rl_w_f (by omega) hn (hwf w hw2) (fun k hk hh9 => ⟨by rw [e107 k (by omega)]; exact hh9, (hwf k (by omega)).2.2.2.2.2.2.2.2.2.2⟩) ?_ (hw w hw2)
          obtain ⟨kd, P, hd, ⟨b1, b2, b3, b4, b5, -⟩, -⟩ := hw w hw2
          refine ⟨hd, ?_, by rw [e107 w hw2]; exact b5⟩
          rw [eA _ _ (by omega) (by omega) (by omega)]
          unfold x_fr
          rw [up2_ne _ (by omega), mpx_ne (by omega), mpx_ne (by omega), up2_ne _ (by omega), up2_ne _ (by omega), up2_ne _ (by omega)]
          exact b4
        | false =>
          have z1 := c_beyond_k (c := c) (d := 5) (X := X) (Y := Y) hn a6 h9 a7 hp hq hse hl
          generalize hX1 : up2 (up2 (x_begin X m (nI 7) n) 0 7 (nI (m + 1))) (2 + 7 * p) 4 (nI 1) = X1 at z1
          have e105 : ∀ k, X1 105 k = X 105 k := fun k => by rw [← hX1, up2_ne _ (by omega), beg_105 h9]
          have hYp : y_begin Y m n (3 + 7 * p) = Y (3 + 7 * p) := by unfold y_begin; funext k; rw [mpl_ne (by omega)]
          have hvp : ∀ k, k < 1024 → vr (mpl (y_nw Y m n) (3 + 7 * m) 0 (2 ^ n) (f_beyond (y_begin Y m n) p q)) p k = vr Y p k := fun k hk => by
            unfold vr y_nw y_fr y_begin
            rw [mpl_ne (by omega), mpl_def, if_neg (by omega), mpl_ne (by omega)]
          have hwk := md_work (c := c) (kd := 7) (p := p) (s := q) (F := fun i => vr Y p (i ||| q) - vr Y p q) X1 (mpl (y_nw Y m n) (3 + 7 * m) 0 (2 ^ n) (f_beyond (y_begin Y m n) p q)) h9 hp hn hq (by rw [e105]; exact b6) (Or.inr rfl) (fun i hi => by rw [if_neg (by decide), hvp _ (xb_or10 (by omega) (by omega)), hvp _ (by omega)]) 2
          rw [← hlg, hl, ← md_y h9] at hwk
          have z2 := r_beyond (r_made_k (c := c) (d := 2) (X := X1) hn (by rw [e105]; exact b6) h9 (by rw [e105]; exact b7) hp hq hwk)
          refine mkI z1 z2 rfl ?_
          rw [← hX1, md_x hp h9, md_y h9]
          have hnn : ffind (p_beyond Y p q) (2 ^ n) = none := by
            unfold lany at hl
            cases h8 : ffind (p_beyond Y p q) (2 ^ n) with
            | none => rfl
            | some k => rw [h8] at hl; cases hl
          refine Rel_me h9 (Or.inr rfl) hp hh ho hs hw (fun i hi => ?_) (fun i hi => ?_) ?_
          · unfold f_beyond
            rw [hYp, hv _ (Nat.or_lt_two_pow hi hq), hv _ hq]
          · have g1 := ff_none.mp hnn i hi
            unfold p_beyond at g1
            rw [hv _ (Nat.or_lt_two_pow hi hq), hv _ hq, wi_abs (B := 1000000000000) rfl rfl] at g1
            simpa using g1
          · show vr Y p (0 ||| q) - vr Y p q = 0
            rw [Nat.zero_or, Int64.sub_self]
      · have : m = 12 := by omega
        subst this
        exact mkI (c_beyond_f hn a6 a7 hp hq) (r_beyond (r_made_f (d := 2) hn b6 b7 hp hq)) rfl h
end MD
