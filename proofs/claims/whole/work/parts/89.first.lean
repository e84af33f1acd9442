/-! the class's own constructor, walked -/
theorem gl_10 (n : Nat) (ad : Nat → Nat) (E : Nat → va_E) : gl (n + 10) ad E = gl n ad E ++ [(ad n, E n), (ad (n + 1), E (n + 1)), (ad (n + 2), E (n + 2)), (ad (n + 3), E (n + 3)), (ad (n + 4), E (n + 4)), (ad (n + 5), E (n + 5)), (ad (n + 6), E (n + 6)), (ad (n + 7), E (n + 7)), (ad (n + 8), E (n + 8)), (ad (n + 9), E (n + 9))] := by
  rw [gl_s (n + 9), gl_s (n + 8), gl_s (n + 7), gl_7 n]
  simp only [List.append_assoc, List.cons_append, List.nil_append]
abbrev qX7 (cy : Nat → ClassId) (a : Nat) : Option Value → va_W → Prop := fun r w => r = none ∧ ∃ ad : Nat → Nat, ad 0 = a ∧ w = gl 105 ad (fun i => sh ad cy i (xZ i) (yZ i))
theorem e3_0 {ad : Nat → Nat} {cy : Nat → ClassId} {m : va_E} {a : Nat} {T : va_W} (h : ad 0 = a) : (gl 95 ad (e3 ad cy m) ++ T)[0]? = some (a, m) := by
  rw [List.getElem?_append_left (by rw [gl_len]; decide), gl_at (by decide), h]
  rfl
theorem e3_set {ad : Nat → Nat} {cy : Nat → ClassId} {m m' : va_E} {a : Nat} {T : va_W} (h : ad 0 = a) : (gl 95 ad (e3 ad cy m) ++ T).set 0 (a, m') = gl 95 ad (e3 ad cy m') ++ T := by
  subst h
  rw [List.set_append_left _ _ (by rw [gl_len]; decide), gl_set (i := 0) (e := m') (E' := e3 ad cy m') (by decide) rfl (fun j _ h => by unfold e3; rw [if_neg h, if_neg h])]
section FI
variable {l : Launch} {D : va_G} {cy : Nat → ClassId} {a0 : Nat} {d : Nat} {P ws T : va_W} {a : Nat} {M : sm_M} {Q : Option Value → va_W → Prop} {pc cb sb : Nat} {lv : List (Nat × Value)} {st : List Value} {ad : Nat → Nat}
theorem p_put0 {ix kf : Nat} {ty : FieldType} {fs : List Value} {v : Value} (h0 : ad 0 = a) (hd : decode M.2.1 pc = .ok (.putfield ix, 3)) (hf : sm_FW M.1.cls ix 7 kf ty true) (hM : M.1.name = "<init>") (hcl : (vwCl[7]?).map (fun q => q.1) = some M.1.cls) (hn : narrow ty v = v) (ht : fits ty v = true) (hk : kf < fs.length) (k : sm_S l D cy a0 M d Q (pc + 3) lv st (gl 95 ad (e3 ad cy (.inr (7, fs.set kf v))) ++ T) cb sb) : sm_S l D cy a0 M d Q pc lv (v :: .ref a :: st) (gl 95 ad (e3 ad cy (.inr (7, fs))) ++ T) cb sb :=
  sm_putF hd hf hM hcl (e3_0 h0) hn ht hk (by rw [e3_set h0]; exact k)
theorem x7_end {q0 q1 q2 q3 q4 q5 q6 q7 q8 q9 : Nat} (h0 : ad 0 = a) : qX7 cy a none (gl 95 ad (e3 ad cy (.inr (7, [.ref (ad 1), .ref (ad 86), .ref q0, .ref q1, .ref q3, .ref q6, .int 0, .int 0, .int 0]))) ++ ([(q0, .inr (0, [.int 0, .int 0, .int 0])), (q1, .inr (1, [.ref q2, .int 0, .int 0, .int 0])), (q2, .inl (cy 0, 10, .inl (fun _ => 0))), (q3, .inr (2, [.ref q4, .ref q5, .int 0, .int 0])), (q4, .inl (cy 1, 11, .inr (.inl (fun _ => 0)))), (q5, .inl (cy 0, 11, .inl (fun _ => 0))), (q6, .inr (4, [.ref q7, .ref q8, .ref q9, .int 0, .int 1])), (q7, .inl (cy 0, 10, .inl (fun _ => 0))), (q8, .inl (cy 1, 10, .inr (.inl (fun _ => 0)))), (q9, .inl (cy 1, 10, .inr (.inl (fun _ => 0))))] : va_W)) := by
  obtain ⟨ad', hlo, hhi⟩ := ad_ext 95 ad [q0, q1, q2, q3, q4, q5, q6, q7, q8, q9]
  have b0 : ad' 95 = q0 := hhi 0
  have b1 : ad' 96 = q1 := hhi 1
  have b2 : ad' 97 = q2 := hhi 2
  have b3 : ad' 98 = q3 := hhi 3
  have b4 : ad' 99 = q4 := hhi 4
  have b5 : ad' 100 = q5 := hhi 5
  have b6 : ad' 101 = q6 := hhi 6
  have b7 : ad' 102 = q7 := hhi 7
  have b8 : ad' 103 = q8 := hhi 8
  have b9 : ad' 104 = q9 := hhi 9
  refine ⟨rfl, ad', (hlo 0 (by decide)).trans h0, ?_⟩
  rw [show (105 : Nat) = 95 + 10 from rfl, gl_10 95 ad']
  show _ = _ ++ ([(ad' 95, .inr (0, [.int 0, .int 0, .int 0])), (ad' 96, .inr (1, [.ref (ad' 97), .int 0, .int 0, .int 0])), (ad' 97, .inl (cy 0, 10, .inl (fun _ => 0))), (ad' 98, .inr (2, [.ref (ad' 99), .ref (ad' 100), .int 0, .int 0])), (ad' 99, .inl (cy 1, 11, .inr (.inl (fun _ => 0)))), (ad' 100, .inl (cy 0, 11, .inl (fun _ => 0))), (ad' 101, .inr (4, [.ref (ad' 102), .ref (ad' 103), .ref (ad' 104), .int 0, .int 1])), (ad' 102, .inl (cy 0, 10, .inl (fun _ => 0))), (ad' 103, .inl (cy 1, 10, .inr (.inl (fun _ => 0)))), (ad' 104, .inl (cy 1, 10, .inr (.inl (fun _ => 0))))] : va_W)
  rw [b0, b1, b2, b3, b4, b5, b6, b7, b8, b9]
  congr 1
  refine gl_cg (fun i hi => ⟨(hlo i hi).symm, ?_⟩)
  unfold e3
  by_cases h : i = 0
  · subst h
    rw [if_pos rfl]
    show _ = (.inr (7, [.ref (ad' 1), .ref (ad' 86), .ref (ad' 95), .ref (ad' 96), .ref (ad' 98), .ref (ad' 101), .int 0, .int 0, .int 0]) : va_E)
    rw [b0, b1, b3, b6, hlo 1 (by decide), hlo 86 (by decide)]
  · rw [if_neg h]
    exact (sh_cg95 (by omega) hi hlo).symm
theorem x7_tail (h0 : ad 0 = a) : sm_S l D cy a0 mX7_init (d + 2) (qX7 cy a) 74 [(1, .int (nI 4)), (0, .ref a)] [] (gl 95 ad (e3 ad cy (.inr (7, [.ref (ad 1), .ref (ad 86), .null, .null, .null, .null, .int 0, .int 0, .int 0])))) 10 78 := by
  refine sm_aload_n dX7_init_74 1 rfl ?_
  refine sm_new (n := 3) (cb := 9) (sb := 75) dX7_init_75 nwX7_23 (fun q0 => ?_)
  refine sm_dup dX7_init_78 rfl ?_
  refine sm_callIN (As := []) (cb := 9) (sb := 75) (mc := 0) (ms := 0) (n := 0) dX7_init_79 vlX7_25 clX0_init rfl rfl (Nat.le_of_ble_eq_true rfl) (Nat.le_of_ble_eq_true rfl) i_X0 ?_
  rintro r w ⟨rfl, rfl⟩
  refine p_put0 h0 dX7_init_82 fwX7_26 rfl rfl rfl rfl (Nat.lt_of_lt_of_eq (by decide : 2 < 9) rfl) ?_
  refine sm_aload_n dX7_init_85 1 rfl ?_
  refine sm_new (n := 4) (cb := 8) (sb := 71) dX7_init_86 nwX7_30 (fun q1 => ?_)
  refine sm_dup dX7_init_89 rfl ?_
  refine sm_callIN (As := []) (cb := 7) (sb := 61) (mc := 1) (ms := 10) (n := 0) dX7_init_90 vlX7_32 clX1_init rfl rfl (Nat.le_of_ble_eq_true rfl) (Nat.le_of_ble_eq_true rfl) i_X1 ?_
  rintro r w ⟨rfl, q2, rfl⟩
  rw [List.append_assoc]
  refine p_put0 h0 dX7_init_93 fwX7_33 rfl rfl rfl rfl (Nat.lt_of_lt_of_eq (by decide : 3 < 9) rfl) ?_
  refine sm_aload_n dX7_init_96 1 rfl ?_
  refine sm_new (n := 4) (cb := 6) (sb := 57) dX7_init_97 nwX7_37 (fun q3 => ?_)
  refine sm_dup dX7_init_100 rfl ?_
  refine sm_callIN (As := []) (cb := 4) (sb := 35) (mc := 2) (ms := 22) (n := 0) dX7_init_101 vlX7_39 clX2_init rfl rfl (Nat.le_of_ble_eq_true rfl) (Nat.le_of_ble_eq_true rfl) i_X2 ?_
  rintro r w ⟨rfl, q4, q5, rfl⟩
  rw [List.append_assoc]
  refine p_put0 h0 dX7_init_104 fwX7_40 rfl rfl rfl rfl (Nat.lt_of_lt_of_eq (by decide : 4 < 9) rfl) ?_
  refine sm_aload_n dX7_init_107 1 rfl ?_
  refine sm_new (n := 5) (cb := 3) (sb := 30) dX7_init_108 nwX7_44 (fun q6 => ?_)
  refine sm_dup dX7_init_111 rfl ?_
  refine sm_callIN (As := []) (cb := 0) (sb := 0) (mc := 3) (ms := 30) (n := 0) dX7_init_112 vlX7_46 clX4_init rfl rfl (Nat.le_of_ble_eq_true rfl) (Nat.le_of_ble_eq_true rfl) i_X4 ?_
  rintro r w ⟨rfl, q7, q8, q9, rfl⟩
  rw [List.append_assoc]
  refine p_put0 h0 dX7_init_115 fwX7_47 rfl rfl rfl rfl (Nat.lt_of_lt_of_eq (by decide : 5 < 9) rfl) ?_
  exact sm_vret dX7_init_118 rfl (x7_end h0)
theorem x7_sheets : ∀ (nn w : Nat) (ad : Nat → Nat), w + nn = 4 → ad 0 = a → sm_S l D cy a0 mX7_init (d + 2) (qX7 cy a) 50 [(1, .int (nI w)), (0, .ref a)] [] (gl (87 + 2 * w) ad (e2 ad cy w)) (10 + 2 * nn) (78 + 1104 * nn) := by
  intro nn
  induction nn with
  | zero =>
    intro w ad hw h0
    have e : w = 4 := by omega
    subst e
    refine sm_iload_n dX7_init_50 0 rfl ?_
    refine sm_iconst (v := nI 4) dX7_init_51 (by decide) ?_
    refine sn_icmp_ge 74 dX7_init_52 (by decide) (by decide) (by decide) (fun _ => ?_) (fun h => absurd (Nat.le_refl _) h)
    rw [gl_cg (ad' := ad) (E' := e3 ad cy (.inr (7, [.ref (ad 1), .ref (ad 86), .null, .null, .null, .null, .int 0, .int 0, .int 0]))) (fun i _ => ⟨rfl, by
      unfold e2 e3
      by_cases h : i = 0
      · rw [if_pos h, if_pos h]
      · rw [if_neg h, if_neg h]
        by_cases h8 : i = 86
        · subst h8
          rfl
        · rw [if_neg h8]⟩)]
    exact x7_tail h0
  | succ nn ih =>
    intro w ad hw h0
    refine sm_iload_n dX7_init_50 0 rfl ?_
    refine sm_iconst (v := nI 4) dX7_init_51 (by decide) ?_
    refine sn_icmp_ge 74 dX7_init_52 (by decide) (by omega) (by decide) (fun h => absurd h (by omega)) (fun _ => ?_)
    refine sm_aload_n dX7_init_55 1 rfl ?_
    refine sm_get (i := 0) (fs := [.ref (ad 1), .ref (ad 86), .null, .null, .null, .null, .int 0, .int 0, .int 0]) dX7_init_56 flX7_18 (by rw [gl_at (by omega), h0]; rfl) rfl ?_
    refine sm_iload_n dX7_init_59 0 rfl ?_
    refine sm_budget (cb' := 10 + 2 * nn + 1 + 1) (sb' := 78 + 1104 * nn + 1100 + 4) (by omega) (by omega) ?_
    refine sm_new (n := 4) dX7_init_60 nwX7_16 (fun q0 => ?_)
    refine sm_dup dX7_init_63 rfl ?_
    refine sm_callIN (As := []) (mc := 1) (ms := 1100) (n := 0) dX7_init_64 vlX7_22 clX5_init rfl rfl (Nat.le_of_ble_eq_true rfl) (Nat.le_of_ble_eq_true rfl) i_X5 ?_
    rintro r w' ⟨rfl, q1, rfl⟩
    refine sm_aast (i := 86) (t := 4) (q := (gl (87 + 2 * w) ad (e2 ad cy w)).length + 0) (ci := 5) (r := (RX5, TX5, 4)) dX7_init_67 (f := fun v => if v < w then some (ad (87 + 2 * v)) else none) (by rw [List.getElem?_append_left (by rw [gl_len]; omega), gl_at (by omega)]; rfl) rfl (pt_at rfl) rfl (nI_in (by omega) (by decide)) ?_
    rw [nI_clamp (by omega)]
    obtain ⟨ad', hlo, hhi⟩ := ad_ext (87 + 2 * w) ad [q0, q1]
    rw [gs_step (by omega) hlo hhi]
    refine sm_iinc (v := nI (w + 1)) (lv' := [(1, .int (nI (w + 1))), (0, .ref a)]) dX7_init_68 0 rfl (nI_add w 1) (by decide) rfl ?_
    refine sm_goto 50 dX7_init_71 (by decide) ?_
    exact ih (w + 1) ad' (by omega) ((hlo 0 (by omega)).trans h0)
theorem x7_mid (h0 : ad 0 = a) : sm_S l D cy a0 mX7_init (d + 2) (qX7 cy a) 40 [(1, .int (nI 12)), (0, .ref a)] [] (gl 86 ad (e1 ad cy 12)) 19 4498 := by
  refine sm_aload_n dX7_init_40 1 rfl ?_
  refine sm_iconst (v := 4) dX7_init_41 (by decide) ?_
  refine sm_newA (t := 4) (C' := RX5) (N := 4) (cb := 18) (sb := 4494) dX7_init_42 anX7_16 (fun U h => h.2.2.2) rfl (by decide) (by decide) (by decide) (fun q => ?_)
  obtain ⟨ad', hlo, hhi⟩ := ad_ext 86 ad [q]
  have b0 : ad' 86 = q := hhi 0
  refine sm_putF (i := 0) (fs := [.ref (ad 1), .null, .null, .null, .null, .null, .int 0, .int 0, .int 0]) dX7_init_45 fwX7_18 rfl rfl (by rw [List.getElem?_append_left (by rw [gl_len]; decide), gl_at (by decide), h0]; rfl) rfl rfl (Nat.lt_of_lt_of_eq (by decide : 1 < 9) rfl) ?_
  have e : (gl 86 ad (e1 ad cy 12) ++ [(q, (.inl (cy 4, 4, .inr (.inr (.inr (.inr (fun _ => none))))) : va_E))]).set 0 (a, .inr (7, ([.ref (ad 1), .null, .null, .null, .null, .null, .int 0, .int 0, .int 0] : List Value).set 1 (.ref q))) = gl (87 + 2 * 0) ad' (e2 ad' cy 0) := by
    rw [List.set_append_left _ _ (by rw [gl_len]; decide), ← h0, gl_set (i := 0) (e := .inr (7, ([.ref (ad 1), .null, .null, .null, .null, .null, .int 0, .int 0, .int 0] : List Value).set 1 (.ref q))) (E' := e2 ad' cy 0) (by decide) (by
      show (.inr (7, [.ref (ad' 1), .ref (ad' 86), .null, .null, .null, .null, .int 0, .int 0, .int 0]) : va_E) = _
      rw [b0, hlo 1 (by decide)]
      rfl) (fun j hj hj0 => by
      unfold e1 e2
      rw [if_neg hj0, if_neg hj0, if_neg (by omega)]
      by_cases h1 : j = 1
      · subst h1
        rw [if_pos rfl]
        exact arW_cg (w := 12) (fun v hv => hlo _ (by omega))
      · rw [if_neg h1]
        exact sh_cgW (w := 12) (Nat.le_refl _) (by omega) hj hlo), show 87 + 2 * 0 = 86 + 1 from rfl, gl_s 86, gl_cg (ad := ad) (ad' := ad') (E' := e2 ad' cy 0) (fun i hi => ⟨(hlo i hi).symm, rfl⟩), b0]
    show _ = _ ++ [(q, (.inl (cy 4, 4, .inr (.inr (.inr (.inr (fun v => if v < 0 then some (ad' (87 + 2 * v)) else none))))) : va_E))]
    have eF : (fun v => if v < 0 then some (ad' (87 + 2 * v)) else none) = fun _ => none := by
      funext v
      rw [if_neg (by omega)]
    rw [eF]
  rw [e]
  refine sm_iconst (v := nI 0) dX7_init_48 (by decide) ?_
  refine sm_istore_n (lv' := [(1, .int (nI 0)), (0, .ref a)]) dX7_init_49 (by decide) rfl ?_
  exact x7_sheets 4 0 ad' rfl ((hlo 0 (by decide)).trans h0)
theorem x7_worths : ∀ (nn w : Nat) (ad : Nat → Nat), w + nn = 12 → ad 0 = a → sm_S l D cy a0 mX7_init (d + 3) (qX7 cy a) 15 [(1, .int (nI w)), (0, .ref a)] [] (gl (2 + 7 * w) ad (e1 ad cy w)) (19 + 7 * nn) (4498 + 1111 * nn) := by
  intro nn
  induction nn with
  | zero =>
    intro w ad hw h0
    have e : w = 12 := by omega
    subst e
    refine sm_iload_n dX7_init_15 0 rfl ?_
    refine sm_bipush (v := nI 12) dX7_init_16 (by decide) ?_
    refine sn_icmp_ge 40 dX7_init_18 (by decide) (by decide) (by decide) (fun _ => ?_) (fun h => absurd (Nat.le_refl _) h)
    exact x7_mid h0
  | succ nn ih =>
    intro w ad hw h0
    refine sm_iload_n dX7_init_15 0 rfl ?_
    refine sm_bipush (v := nI 12) dX7_init_16 (by decide) ?_
    refine sn_icmp_ge 40 dX7_init_18 (by decide) (by omega) (by decide) (fun h => absurd h (by omega)) (fun _ => ?_)
    refine sm_aload_n dX7_init_21 1 rfl ?_
    refine sm_get (i := 0) (fs := [.ref (ad 1), .null, .null, .null, .null, .null, .int 0, .int 0, .int 0]) dX7_init_22 flX7_11 (by rw [gl_at (by omega), h0]; rfl) rfl ?_
    refine sm_iload_n dX7_init_25 0 rfl ?_
    refine sm_budget (cb' := 19 + 7 * nn + 6 + 1) (sb' := 4498 + 1111 * nn + 1102 + 9) (by omega) (by omega) ?_
    refine sm_new (n := 9) dX7_init_26 nwX7_9 (fun q0 => ?_)
    refine sm_dup dX7_init_29 rfl ?_
    refine sm_callIN (As := []) (mc := 6) (ms := 1102) (n := 0) dX7_init_30 vlX7_15 clX6_init rfl rfl (Nat.le_of_ble_eq_true rfl) (Nat.le_of_ble_eq_true rfl) i_X6 ?_
    rintro r w' ⟨rfl, q1, q2, q3, q4, q5, q6, rfl⟩
    refine sm_aast (i := 1) (t := 3) (q := (gl (2 + 7 * w) ad (e1 ad cy w)).length + 0) (ci := 6) (r := (RX6, TX6, 9)) dX7_init_33 (f := fun v => if v < w then some (ad (2 + 7 * v)) else none) (by rw [List.getElem?_append_left (by rw [gl_len]; omega), gl_at (by omega)]; rfl) rfl (pt_at rfl) rfl (nI_in (by omega) (by decide)) ?_
    rw [nI_clamp (by omega)]
    obtain ⟨ad', hlo, hhi⟩ := ad_ext (2 + 7 * w) ad [q0, q1, q2, q3, q4, q5, q6]
    rw [gw_step (by omega) hlo hhi]
    refine sm_iinc (v := nI (w + 1)) (lv' := [(1, .int (nI (w + 1))), (0, .ref a)]) dX7_init_34 0 rfl (nI_add w 1) (by decide) rfl ?_
    refine sm_goto 15 dX7_init_37 (by decide) ?_
    exact ih (w + 1) ad' (by omega) ((hlo 0 (by omega)).trans h0)
theorem i_X7 : sm_S l D cy a0 mX7_init (d + 3) (qX7 cy a) 0 [(0, .ref a)] [] [(a, .inr (7, [.null, .null, .null, .null, .null, .null, .int 0, .int 0, .int 0]))] 104 17842 := by
  refine sm_aload_n dX7_init_0 0 rfl ?_
  refine sm_objInit dX7_init_1 vlX7_3 ob_i ob_c (by decide) ?_
  refine sm_aload_n dX7_init_4 0 rfl ?_
  refine sm_bipush (v := 12) dX7_init_5 (by decide) ?_
  refine sm_newA (t := 3) (C' := RX6) (N := 12) (cb := 103) (sb := 17830) dX7_init_7 anX7_9 (fun U h => h.2.2.1) rfl (by decide) (by decide) (by decide) (fun q => ?_)
  refine sm_putF (i := 0) dX7_init_10 fwX7_11 rfl rfl rfl rfl rfl (Nat.lt_of_lt_of_eq (by decide : 0 < 9) rfl) ?_
  refine sm_iconst (v := nI 0) dX7_init_13 (by decide) ?_
  refine sm_istore_n (lv' := [(1, .int (nI 0)), (0, .ref a)]) dX7_init_14 (by decide) rfl ?_
  have eF : (fun v => if v < 0 then some ((fun i => if i = 0 then a else q) (2 + 7 * v)) else none) = fun _ => none := by
    funext v
    rw [if_neg (by omega)]
  have h := x7_worths (l := l) (D := D) (cy := cy) (a0 := a0) (a := a) (d := d) 12 0 (fun i => if i = 0 then a else q) rfl rfl
  have e : gl (2 + 7 * 0) (fun i => if i = 0 then a else q) (e1 (fun i => if i = 0 then a else q) cy 0) = [(a, .inr (7, [.ref q, .null, .null, .null, .null, .null, .int 0, .int 0, .int 0])), (q, .inl (cy 3, 12, .inr (.inr (.inr (.inr (fun v => if v < 0 then some ((fun i => if i = 0 then a else q) (2 + 7 * v)) else none))))))] := rfl
  rw [e, eF] at h
  exact h
end FI
