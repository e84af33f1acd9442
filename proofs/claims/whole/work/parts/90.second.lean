/-! the reference's constructor -/
theorem gl_126 (ad : Nat → Nat) (E : Nat → va_E) : gl 126 ad E = gl 105 ad E ++ [(ad 105, E 105), (ad 106, E 106), (ad 107, E 107), (ad 108, E 108), (ad 109, E 109), (ad 110, E 110), (ad 111, E 111), (ad 112, E 112), (ad 113, E 113), (ad 114, E 114), (ad 115, E 115), (ad 116, E 116), (ad 117, E 117), (ad 118, E 118), (ad 119, E 119), (ad 120, E 120), (ad 121, E 121), (ad 122, E 122), (ad 123, E 123), (ad 124, E 124), (ad 125, E 125)] := by
  rw [show (126 : Nat) = 125 + 1 from rfl, gl_s 125, show (125 : Nat) = 115 + 10 from rfl, gl_10 115, show (115 : Nat) = 105 + 10 from rfl, gl_10 105, List.append_assoc, List.append_assoc]
  rfl
def x2 : nX := fun i => if i = 119 then (upd (upd (upd (upd (fun _ => 0) 0 (-1)) 1 (-1)) 2 (-1)) 3 (-1)) else xZ i
def y2 : nY := fun i => if i = 105 then (fun k => if k = 15 then 1 else 0) else fun _ => 0
def xS : nX := mpx (up2 (up2 x2 105 0 (nI 0)) 105 1 (nI 0)) 117 0 10 (fun k => nI k)
def yS : nY := mpl (upl y2 105 15 1) 118 0 10 (fun _ => 0)
theorem sh_cg105 {ad ad' : Nat → Nat} {cy : Nat → ClassId} {i : Nat} {f : Nat → Int32} {g : Nat → Int64} (hi : i < 105) (h : ∀ j, j < 105 → ad' j = ad j) : sh ad' cy i f g = sh ad cy i f g := by
  by_cases h1 : 1 ≤ i ∧ i < 95
  · exact sh_cg95 h1.1 h1.2 (fun j hj => h j (by omega))
  · have e : i = 0 ∨ i = 95 ∨ i = 96 ∨ i = 97 ∨ i = 98 ∨ i = 99 ∨ i = 100 ∨ i = 101 ∨ i = 102 ∨ i = 103 ∨ i = 104 := by omega
    rcases e with rfl | rfl | rfl | rfl | rfl | rfl | rfl | rfl | rfl | rfl | rfl
    · show (.inr (7, [.ref (ad' 1), .ref (ad' 86), .ref (ad' 95), .ref (ad' 96), .ref (ad' 98), .ref (ad' 101), .int (f 6), .int (f 7), .int (f 8)]) : va_E) = (.inr (7, [.ref (ad 1), .ref (ad 86), .ref (ad 95), .ref (ad 96), .ref (ad 98), .ref (ad 101), .int (f 6), .int (f 7), .int (f 8)]) : va_E)
      rw [h 1 (by decide), h 86 (by decide), h 95 (by decide), h 96 (by decide), h 98 (by decide), h 101 (by decide)]
    · rfl
    · show (.inr (1, [.ref (ad' 97), .int (f 1), .int (f 2), .int (f 3)]) : va_E) = (.inr (1, [.ref (ad 97), .int (f 1), .int (f 2), .int (f 3)]) : va_E)
      rw [h 97 (by decide)]
    · rfl
    · show (.inr (2, [.ref (ad' 99), .ref (ad' 100), .int (f 2), .int (f 3)]) : va_E) = (.inr (2, [.ref (ad 99), .ref (ad 100), .int (f 2), .int (f 3)]) : va_E)
      rw [h 99 (by decide), h 100 (by decide)]
    · rfl
    · rfl
    · show (.inr (4, [.ref (ad' 102), .ref (ad' 103), .ref (ad' 104), .int (f 3), .int (f 4)]) : va_E) = (.inr (4, [.ref (ad 102), .ref (ad 103), .ref (ad 104), .int (f 3), .int (f 4)]) : va_E)
      rw [h 102 (by decide), h 103 (by decide), h 104 (by decide)]
    · rfl
    · rfl
    · rfl
section FM
variable {l : Launch} {D : va_G} {cy : Nat → ClassId} {a0 : Nat} {d : Nat} {a : Nat} {ad : Nat → Nat}
abbrev pM (ad : Nat → Nat) (cy : Nat → ClassId) : va_W := gl 105 ad (fun i => sh ad cy i (xZ i) (yZ i))
abbrev qX8 (ad : Nat → Nat) (cy : Nat → ClassId) (a : Nat) : Option Value → va_W → Prop := fun r w => r = none ∧ ∃ ad' : Nat → Nat, ad' 0 = ad 0 ∧ ad' 105 = a ∧ w = zw ad' cy xS yS
theorem x8_zw {q1 q2 q3 q4 q5 q6 q7 q8 q9 q10 q11 q12 q13 q14 q15 q16 q17 q18 q19 q20 : Nat} : ∃ ad' : Nat → Nat, ad' 0 = ad 0 ∧ ad' 105 = a ∧ pM ad cy ++ ([(a, .inr (8, [.int 0, .int 0, .ref q1, .ref q2, .ref q3, .ref q4, .ref q5, .ref q6, .ref q7, .ref q8, .ref q9, .ref q10, .ref q11, .ref q12, .ref q13, .long 1, .ref q14, .ref q15, .ref q16, .int 0, .ref q17, .ref q18, .ref q19, .ref q20])), (q1, .inl (cy 0, 12, .inl (fun _ => 0))), (q2, .inl (cy 2, 12, .inl (fun _ => 0))), (q3, .inl (cy 1, 12288, .inr (.inl (fun _ => 0)))), (q4, .inl (cy 0, 12, .inl (fun _ => 0))), (q5, .inl (cy 0, 288, .inl (fun _ => 0))), (q6, .inl (cy 0, 288, .inl (fun _ => 0))), (q7, .inl (cy 0, 288, .inl (fun _ => 0))), (q8, .inl (cy 0, 480, .inl (fun _ => 0))), (q9, .inl (cy 0, 120, .inl (fun _ => 0))), (q10, .inl (cy 0, 12, .inl (fun _ => 0))), (q11, .inl (cy 0, 12, .inl (fun _ => 0))), (q12, .inl (cy 0, 10, .inl (fun _ => 0))), (q13, .inl (cy 1, 10, .inr (.inl (fun _ => 0)))), (q14, .inl (cy 0, 4, .inl (upd (upd (upd (upd (fun _ => 0) 0 (-1)) 1 (-1)) 2 (-1)) 3 (-1)))), (q15, .inl (cy 0, 4, .inl (fun _ => 0))), (q16, .inl (cy 1, 4400, .inr (.inl (fun _ => 0)))), (q17, .inl (cy 1, 40, .inr (.inl (fun _ => 0)))), (q18, .inl (cy 0, 11, .inl (fun _ => 0))), (q19, .inl (cy 1, 11, .inr (.inl (fun _ => 0)))), (q20, .inl (cy 1, 10, .inr (.inl (fun _ => 0))))] : va_W) = zw ad' cy x2 y2 := by
  obtain ⟨ad', hlo, hhi⟩ := ad_ext 105 ad [a, q1, q2, q3, q4, q5, q6, q7, q8, q9, q10, q11, q12, q13, q14, q15, q16, q17, q18, q19, q20]
  have b0 : ad' 105 = a := hhi 0
  have b1 : ad' 106 = q1 := hhi 1
  have b2 : ad' 107 = q2 := hhi 2
  have b3 : ad' 108 = q3 := hhi 3
  have b4 : ad' 109 = q4 := hhi 4
  have b5 : ad' 110 = q5 := hhi 5
  have b6 : ad' 111 = q6 := hhi 6
  have b7 : ad' 112 = q7 := hhi 7
  have b8 : ad' 113 = q8 := hhi 8
  have b9 : ad' 114 = q9 := hhi 9
  have b10 : ad' 115 = q10 := hhi 10
  have b11 : ad' 116 = q11 := hhi 11
  have b12 : ad' 117 = q12 := hhi 12
  have b13 : ad' 118 = q13 := hhi 13
  have b14 : ad' 119 = q14 := hhi 14
  have b15 : ad' 120 = q15 := hhi 15
  have b16 : ad' 121 = q16 := hhi 16
  have b17 : ad' 122 = q17 := hhi 17
  have b18 : ad' 123 = q18 := hhi 18
  have b19 : ad' 124 = q19 := hhi 19
  have b20 : ad' 125 = q20 := hhi 20
  refine ⟨ad', hlo 0 (by decide), b0, ?_⟩
  show _ = gl 126 ad' (fun i => sh ad' cy i (x2 i) (y2 i))
  rw [gl_126]
  show _ = _ ++ ([(ad' 105, .inr (8, [.int 0, .int 0, .ref (ad' 106), .ref (ad' 107), .ref (ad' 108), .ref (ad' 109), .ref (ad' 110), .ref (ad' 111), .ref (ad' 112), .ref (ad' 113), .ref (ad' 114), .ref (ad' 115), .ref (ad' 116), .ref (ad' 117), .ref (ad' 118), .long 1, .ref (ad' 119), .ref (ad' 120), .ref (ad' 121), .int 0, .ref (ad' 122), .ref (ad' 123), .ref (ad' 124), .ref (ad' 125)])), ((ad' 106), .inl (cy 0, 12, .inl (fun _ => 0))), ((ad' 107), .inl (cy 2, 12, .inl (fun _ => 0))), ((ad' 108), .inl (cy 1, 12288, .inr (.inl (fun _ => 0)))), ((ad' 109), .inl (cy 0, 12, .inl (fun _ => 0))), ((ad' 110), .inl (cy 0, 288, .inl (fun _ => 0))), ((ad' 111), .inl (cy 0, 288, .inl (fun _ => 0))), ((ad' 112), .inl (cy 0, 288, .inl (fun _ => 0))), ((ad' 113), .inl (cy 0, 480, .inl (fun _ => 0))), ((ad' 114), .inl (cy 0, 120, .inl (fun _ => 0))), ((ad' 115), .inl (cy 0, 12, .inl (fun _ => 0))), ((ad' 116), .inl (cy 0, 12, .inl (fun _ => 0))), ((ad' 117), .inl (cy 0, 10, .inl (fun _ => 0))), ((ad' 118), .inl (cy 1, 10, .inr (.inl (fun _ => 0)))), ((ad' 119), .inl (cy 0, 4, .inl (upd (upd (upd (upd (fun _ => 0) 0 (-1)) 1 (-1)) 2 (-1)) 3 (-1)))), ((ad' 120), .inl (cy 0, 4, .inl (fun _ => 0))), ((ad' 121), .inl (cy 1, 4400, .inr (.inl (fun _ => 0)))), ((ad' 122), .inl (cy 1, 40, .inr (.inl (fun _ => 0)))), ((ad' 123), .inl (cy 0, 11, .inl (fun _ => 0))), ((ad' 124), .inl (cy 1, 11, .inr (.inl (fun _ => 0)))), ((ad' 125), .inl (cy 1, 10, .inr (.inl (fun _ => 0))))] : va_W)
  rw [b0, b1, b2, b3, b4, b5, b6, b7, b8, b9, b10, b11, b12, b13, b14, b15, b16, b17, b18, b19, b20]
  congr 1
  refine gl_cg (fun i hi => ⟨(hlo i hi).symm, ?_⟩)
  show sh ad cy i (xZ i) (yZ i) = sh ad' cy i (x2 i) (y2 i)
  rw [show x2 i = xZ i from if_neg (by omega), show y2 i = yZ i from if_neg (by omega)]
  exact (sh_cg105 hi hlo).symm
theorem x8_tail {q1 q2 q3 q4 q5 q6 q7 q8 q9 q10 q11 q12 q13 q14 q15 q16 q17 q18 q19 q20 : Nat} : sm_S l D cy a0 mX8_init (d + 1) (qX8 ad cy a) 193 [(1, .int (nI 4)), (0, .ref a)] [] (pM ad cy ++ ([(a, .inr (8, [.int 0, .int 0, .ref q1, .ref q2, .ref q3, .ref q4, .ref q5, .ref q6, .ref q7, .ref q8, .ref q9, .ref q10, .ref q11, .ref q12, .ref q13, .long 1, .ref q14, .ref q15, .ref q16, .int 0, .ref q17, .ref q18, .ref q19, .ref q20])), (q1, .inl (cy 0, 12, .inl (fun _ => 0))), (q2, .inl (cy 2, 12, .inl (fun _ => 0))), (q3, .inl (cy 1, 12288, .inr (.inl (fun _ => 0)))), (q4, .inl (cy 0, 12, .inl (fun _ => 0))), (q5, .inl (cy 0, 288, .inl (fun _ => 0))), (q6, .inl (cy 0, 288, .inl (fun _ => 0))), (q7, .inl (cy 0, 288, .inl (fun _ => 0))), (q8, .inl (cy 0, 480, .inl (fun _ => 0))), (q9, .inl (cy 0, 120, .inl (fun _ => 0))), (q10, .inl (cy 0, 12, .inl (fun _ => 0))), (q11, .inl (cy 0, 12, .inl (fun _ => 0))), (q12, .inl (cy 0, 10, .inl (fun _ => 0))), (q13, .inl (cy 1, 10, .inr (.inl (fun _ => 0)))), (q14, .inl (cy 0, 4, .inl (upd (upd (upd (upd (fun _ => 0) 0 (-1)) 1 (-1)) 2 (-1)) 3 (-1)))), (q15, .inl (cy 0, 4, .inl (fun _ => 0))), (q16, .inl (cy 1, 4400, .inr (.inl (fun _ => 0)))), (q17, .inl (cy 1, 40, .inr (.inl (fun _ => 0)))), (q18, .inl (cy 0, 11, .inl (fun _ => 0))), (q19, .inl (cy 1, 11, .inr (.inl (fun _ => 0)))), (q20, .inl (cy 1, 10, .inr (.inl (fun _ => 0))))] : va_W)) 0 0 := by
  obtain ⟨ad', h0, h5, e⟩ := x8_zw (ad := ad) (cy := cy) (a := a) (q1 := q1) (q2 := q2) (q3 := q3) (q4 := q4) (q5 := q5) (q6 := q6) (q7 := q7) (q8 := q8) (q9 := q9) (q10 := q10) (q11 := q11) (q12 := q12) (q13 := q13) (q14 := q14) (q15 := q15) (q16 := q16) (q17 := q17) (q18 := q18) (q19 := q19) (q20 := q20)
  rw [e]
  refine sm_aload_n dX8_init_193 1 rfl ?_
  refine sm_iconst (v := nI 0) dX8_init_194 (by decide) ?_
  subst h5
  refine sm_callV (i := 105) (ci := 8) (As := [.int (nI 0)]) (cb := 0) (sb := 0) (mc := 0) (ms := 0) (n := 1) dX8_init_195 vlX8_76 clX8_begin rfl rfl (zw_at (by decide)) rfl (Nat.le_of_ble_eq_true rfl) (Nat.le_of_ble_eq_true rfl) (m_begin (c := (l, D, cy, a0, ad')) (d := d) (X := x2) (Y := y2) (k := 0) (fun r X Y => r = none ∧ X = xS ∧ Y = yS) ⟨rfl, rfl, rfl⟩) ?_
  rintro r w ⟨X', Y', rfl, rfl, rfl, rfl⟩
  exact sm_vret dX8_init_198 rfl ⟨rfl, ad', h0, rfl, rfl⟩
theorem i_X8 : sm_S l D cy a0 mX8_init (d + 1) (qX8 ad cy a) 0 [(0, .ref a)] [] (pM ad cy ++ [(a, .inr (8, [.int 0, .int 0, .null, .null, .null, .null, .null, .null, .null, .null, .null, .null, .null, .null, .null, .long 0, .null, .null, .null, .int 0, .null, .null, .null, .null]))]) 20 18312 := by
  refine sm_aload_n dX8_init_0 0 rfl ?_
  refine sm_objInit dX8_init_1 vlX8_1 ob_i ob_c (by decide) ?_
  refine sm_aload_n dX8_init_4 0 rfl ?_
  refine sm_bipush (v := 12) dX8_init_5 (by decide) ?_
  refine p_newI (N := 12) (cb := 19) (sb := 18300) dX8_init_7 rfl (by decide) (by decide) (by decide) (fun q1 => ?_)
  refine p_putF 0 dX8_init_9 fwX8_7 rfl rfl rfl rfl rfl (Nat.lt_of_lt_of_eq (by decide : 2 < 24) rfl) ?_
  show sm_S l D cy a0 mX8_init (d + 1) (qX8 ad cy a) 12 [(0, .ref a)] [] (pM ad cy ++ ([(a, .inr (8, [.int 0, .int 0, .ref q1, .null, .null, .null, .null, .null, .null, .null, .null, .null, .null, .null, .null, .long 0, .null, .null, .null, .int 0, .null, .null, .null, .null])), (q1, .inl (cy 0, 12, .inl (fun _ => 0)))] : va_W)) 19 18300
  refine sm_aload_n dX8_init_12 0 rfl ?_
  refine sm_bipush (v := 12) dX8_init_13 (by decide) ?_
  refine p_newZ (N := 12) (cb := 18) (sb := 18288) dX8_init_15 rfl (by decide) (by decide) (by decide) (fun q2 => ?_)
  refine p_putF 0 dX8_init_17 fwX8_13 rfl rfl rfl rfl rfl (Nat.lt_of_lt_of_eq (by decide : 3 < 24) rfl) ?_
  show sm_S l D cy a0 mX8_init (d + 1) (qX8 ad cy a) 20 [(0, .ref a)] [] (pM ad cy ++ ([(a, .inr (8, [.int 0, .int 0, .ref q1, .ref q2, .null, .null, .null, .null, .null, .null, .null, .null, .null, .null, .null, .long 0, .null, .null, .null, .int 0, .null, .null, .null, .null])), (q1, .inl (cy 0, 12, .inl (fun _ => 0))), (q2, .inl (cy 2, 12, .inl (fun _ => 0)))] : va_W)) 18 18288
  refine sm_aload_n dX8_init_20 0 rfl ?_
  refine sm_sipush (v := 12288) dX8_init_21 (by decide) ?_
  refine p_newJ (N := 12288) (cb := 17) (sb := 6000) dX8_init_24 rfl (by decide) (by decide) (by decide) (fun q3 => ?_)
  refine p_putF 0 dX8_init_26 fwX8_17 rfl rfl rfl rfl rfl (Nat.lt_of_lt_of_eq (by decide : 4 < 24) rfl) ?_
  show sm_S l D cy a0 mX8_init (d + 1) (qX8 ad cy a) 29 [(0, .ref a)] [] (pM ad cy ++ ([(a, .inr (8, [.int 0, .int 0, .ref q1, .ref q2, .ref q3, .null, .null, .null, .null, .null, .null, .null, .null, .null, .null, .long 0, .null, .null, .null, .int 0, .null, .null, .null, .null])), (q1, .inl (cy 0, 12, .inl (fun _ => 0))), (q2, .inl (cy 2, 12, .inl (fun _ => 0))), (q3, .inl (cy 1, 12288, .inr (.inl (fun _ => 0))))] : va_W)) 17 6000
  refine sm_aload_n dX8_init_29 0 rfl ?_
  refine sm_bipush (v := 12) dX8_init_30 (by decide) ?_
  refine p_newI (N := 12) (cb := 16) (sb := 5988) dX8_init_32 rfl (by decide) (by decide) (by decide) (fun q4 => ?_)
  refine p_putF 0 dX8_init_34 fwX8_21 rfl rfl rfl rfl rfl (Nat.lt_of_lt_of_eq (by decide : 5 < 24) rfl) ?_
  show sm_S l D cy a0 mX8_init (d + 1) (qX8 ad cy a) 37 [(0, .ref a)] [] (pM ad cy ++ ([(a, .inr (8, [.int 0, .int 0, .ref q1, .ref q2, .ref q3, .ref q4, .null, .null, .null, .null, .null, .null, .null, .null, .null, .long 0, .null, .null, .null, .int 0, .null, .null, .null, .null])), (q1, .inl (cy 0, 12, .inl (fun _ => 0))), (q2, .inl (cy 2, 12, .inl (fun _ => 0))), (q3, .inl (cy 1, 12288, .inr (.inl (fun _ => 0)))), (q4, .inl (cy 0, 12, .inl (fun _ => 0)))] : va_W)) 16 5988
  refine sm_aload_n dX8_init_37 0 rfl ?_
  refine sm_sipush (v := 288) dX8_init_38 (by decide) ?_
  refine p_newI (N := 288) (cb := 15) (sb := 5700) dX8_init_41 rfl (by decide) (by decide) (by decide) (fun q5 => ?_)
  refine p_putF 0 dX8_init_43 fwX8_24 rfl rfl rfl rfl rfl (Nat.lt_of_lt_of_eq (by decide : 6 < 24) rfl) ?_
  show sm_S l D cy a0 mX8_init (d + 1) (qX8 ad cy a) 46 [(0, .ref a)] [] (pM ad cy ++ ([(a, .inr (8, [.int 0, .int 0, .ref q1, .ref q2, .ref q3, .ref q4, .ref q5, .null, .null, .null, .null, .null, .null, .null, .null, .long 0, .null, .null, .null, .int 0, .null, .null, .null, .null])), (q1, .inl (cy 0, 12, .inl (fun _ => 0))), (q2, .inl (cy 2, 12, .inl (fun _ => 0))), (q3, .inl (cy 1, 12288, .inr (.inl (fun _ => 0)))), (q4, .inl (cy 0, 12, .inl (fun _ => 0))), (q5, .inl (cy 0, 288, .inl (fun _ => 0)))] : va_W)) 15 5700
  refine sm_aload_n dX8_init_46 0 rfl ?_
  refine sm_sipush (v := 288) dX8_init_47 (by decide) ?_
  refine p_newI (N := 288) (cb := 14) (sb := 5412) dX8_init_50 rfl (by decide) (by decide) (by decide) (fun q6 => ?_)
  refine p_putF 0 dX8_init_52 fwX8_27 rfl rfl rfl rfl rfl (Nat.lt_of_lt_of_eq (by decide : 7 < 24) rfl) ?_
  show sm_S l D cy a0 mX8_init (d + 1) (qX8 ad cy a) 55 [(0, .ref a)] [] (pM ad cy ++ ([(a, .inr (8, [.int 0, .int 0, .ref q1, .ref q2, .ref q3, .ref q4, .ref q5, .ref q6, .null, .null, .null, .null, .null, .null, .null, .long 0, .null, .null, .null, .int 0, .null, .null, .null, .null])), (q1, .inl (cy 0, 12, .inl (fun _ => 0))), (q2, .inl (cy 2, 12, .inl (fun _ => 0))), (q3, .inl (cy 1, 12288, .inr (.inl (fun _ => 0)))), (q4, .inl (cy 0, 12, .inl (fun _ => 0))), (q5, .inl (cy 0, 288, .inl (fun _ => 0))), (q6, .inl (cy 0, 288, .inl (fun _ => 0)))] : va_W)) 14 5412
  refine sm_aload_n dX8_init_55 0 rfl ?_
  refine sm_sipush (v := 288) dX8_init_56 (by decide) ?_
  refine p_newI (N := 288) (cb := 13) (sb := 5124) dX8_init_59 rfl (by decide) (by decide) (by decide) (fun q7 => ?_)
  refine p_putF 0 dX8_init_61 fwX8_30 rfl rfl rfl rfl rfl (Nat.lt_of_lt_of_eq (by decide : 8 < 24) rfl) ?_
  show sm_S l D cy a0 mX8_init (d + 1) (qX8 ad cy a) 64 [(0, .ref a)] [] (pM ad cy ++ ([(a, .inr (8, [.int 0, .int 0, .ref q1, .ref q2, .ref q3, .ref q4, .ref q5, .ref q6, .ref q7, .null, .null, .null, .null, .null, .null, .long 0, .null, .null, .null, .int 0, .null, .null, .null, .null])), (q1, .inl (cy 0, 12, .inl (fun _ => 0))), (q2, .inl (cy 2, 12, .inl (fun _ => 0))), (q3, .inl (cy 1, 12288, .inr (.inl (fun _ => 0)))), (q4, .inl (cy 0, 12, .inl (fun _ => 0))), (q5, .inl (cy 0, 288, .inl (fun _ => 0))), (q6, .inl (cy 0, 288, .inl (fun _ => 0))), (q7, .inl (cy 0, 288, .inl (fun _ => 0)))] : va_W)) 13 5124
  refine sm_aload_n dX8_init_64 0 rfl ?_
  refine sm_sipush (v := 480) dX8_init_65 (by decide) ?_
  refine p_newI (N := 480) (cb := 12) (sb := 4644) dX8_init_68 rfl (by decide) (by decide) (by decide) (fun q8 => ?_)
  refine p_putF 0 dX8_init_70 fwX8_33 rfl rfl rfl rfl rfl (Nat.lt_of_lt_of_eq (by decide : 9 < 24) rfl) ?_
  show sm_S l D cy a0 mX8_init (d + 1) (qX8 ad cy a) 73 [(0, .ref a)] [] (pM ad cy ++ ([(a, .inr (8, [.int 0, .int 0, .ref q1, .ref q2, .ref q3, .ref q4, .ref q5, .ref q6, .ref q7, .ref q8, .null, .null, .null, .null, .null, .long 0, .null, .null, .null, .int 0, .null, .null, .null, .null])), (q1, .inl (cy 0, 12, .inl (fun _ => 0))), (q2, .inl (cy 2, 12, .inl (fun _ => 0))), (q3, .inl (cy 1, 12288, .inr (.inl (fun _ => 0)))), (q4, .inl (cy 0, 12, .inl (fun _ => 0))), (q5, .inl (cy 0, 288, .inl (fun _ => 0))), (q6, .inl (cy 0, 288, .inl (fun _ => 0))), (q7, .inl (cy 0, 288, .inl (fun _ => 0))), (q8, .inl (cy 0, 480, .inl (fun _ => 0)))] : va_W)) 12 4644
  refine sm_aload_n dX8_init_73 0 rfl ?_
  refine sm_bipush (v := 120) dX8_init_74 (by decide) ?_
  refine p_newI (N := 120) (cb := 11) (sb := 4524) dX8_init_76 rfl (by decide) (by decide) (by decide) (fun q9 => ?_)
  refine p_putF 0 dX8_init_78 fwX8_36 rfl rfl rfl rfl rfl (Nat.lt_of_lt_of_eq (by decide : 10 < 24) rfl) ?_
  show sm_S l D cy a0 mX8_init (d + 1) (qX8 ad cy a) 81 [(0, .ref a)] [] (pM ad cy ++ ([(a, .inr (8, [.int 0, .int 0, .ref q1, .ref q2, .ref q3, .ref q4, .ref q5, .ref q6, .ref q7, .ref q8, .ref q9, .null, .null, .null, .null, .long 0, .null, .null, .null, .int 0, .null, .null, .null, .null])), (q1, .inl (cy 0, 12, .inl (fun _ => 0))), (q2, .inl (cy 2, 12, .inl (fun _ => 0))), (q3, .inl (cy 1, 12288, .inr (.inl (fun _ => 0)))), (q4, .inl (cy 0, 12, .inl (fun _ => 0))), (q5, .inl (cy 0, 288, .inl (fun _ => 0))), (q6, .inl (cy 0, 288, .inl (fun _ => 0))), (q7, .inl (cy 0, 288, .inl (fun _ => 0))), (q8, .inl (cy 0, 480, .inl (fun _ => 0))), (q9, .inl (cy 0, 120, .inl (fun _ => 0)))] : va_W)) 11 4524
  refine sm_aload_n dX8_init_81 0 rfl ?_
  refine sm_bipush (v := 12) dX8_init_82 (by decide) ?_
  refine p_newI (N := 12) (cb := 10) (sb := 4512) dX8_init_84 rfl (by decide) (by decide) (by decide) (fun q10 => ?_)
  refine p_putF 0 dX8_init_86 fwX8_39 rfl rfl rfl rfl rfl (Nat.lt_of_lt_of_eq (by decide : 11 < 24) rfl) ?_
  show sm_S l D cy a0 mX8_init (d + 1) (qX8 ad cy a) 89 [(0, .ref a)] [] (pM ad cy ++ ([(a, .inr (8, [.int 0, .int 0, .ref q1, .ref q2, .ref q3, .ref q4, .ref q5, .ref q6, .ref q7, .ref q8, .ref q9, .ref q10, .null, .null, .null, .long 0, .null, .null, .null, .int 0, .null, .null, .null, .null])), (q1, .inl (cy 0, 12, .inl (fun _ => 0))), (q2, .inl (cy 2, 12, .inl (fun _ => 0))), (q3, .inl (cy 1, 12288, .inr (.inl (fun _ => 0)))), (q4, .inl (cy 0, 12, .inl (fun _ => 0))), (q5, .inl (cy 0, 288, .inl (fun _ => 0))), (q6, .inl (cy 0, 288, .inl (fun _ => 0))), (q7, .inl (cy 0, 288, .inl (fun _ => 0))), (q8, .inl (cy 0, 480, .inl (fun _ => 0))), (q9, .inl (cy 0, 120, .inl (fun _ => 0))), (q10, .inl (cy 0, 12, .inl (fun _ => 0)))] : va_W)) 10 4512
  refine sm_aload_n dX8_init_89 0 rfl ?_
  refine sm_bipush (v := 12) dX8_init_90 (by decide) ?_
  refine p_newI (N := 12) (cb := 9) (sb := 4500) dX8_init_92 rfl (by decide) (by decide) (by decide) (fun q11 => ?_)
  refine p_putF 0 dX8_init_94 fwX8_42 rfl rfl rfl rfl rfl (Nat.lt_of_lt_of_eq (by decide : 12 < 24) rfl) ?_
  show sm_S l D cy a0 mX8_init (d + 1) (qX8 ad cy a) 97 [(0, .ref a)] [] (pM ad cy ++ ([(a, .inr (8, [.int 0, .int 0, .ref q1, .ref q2, .ref q3, .ref q4, .ref q5, .ref q6, .ref q7, .ref q8, .ref q9, .ref q10, .ref q11, .null, .null, .long 0, .null, .null, .null, .int 0, .null, .null, .null, .null])), (q1, .inl (cy 0, 12, .inl (fun _ => 0))), (q2, .inl (cy 2, 12, .inl (fun _ => 0))), (q3, .inl (cy 1, 12288, .inr (.inl (fun _ => 0)))), (q4, .inl (cy 0, 12, .inl (fun _ => 0))), (q5, .inl (cy 0, 288, .inl (fun _ => 0))), (q6, .inl (cy 0, 288, .inl (fun _ => 0))), (q7, .inl (cy 0, 288, .inl (fun _ => 0))), (q8, .inl (cy 0, 480, .inl (fun _ => 0))), (q9, .inl (cy 0, 120, .inl (fun _ => 0))), (q10, .inl (cy 0, 12, .inl (fun _ => 0))), (q11, .inl (cy 0, 12, .inl (fun _ => 0)))] : va_W)) 9 4500
  refine sm_aload_n dX8_init_97 0 rfl ?_
  refine sm_bipush (v := 10) dX8_init_98 (by decide) ?_
  refine p_newI (N := 10) (cb := 8) (sb := 4490) dX8_init_100 rfl (by decide) (by decide) (by decide) (fun q12 => ?_)
  refine p_putF 0 dX8_init_102 fwX8_45 rfl rfl rfl rfl rfl (Nat.lt_of_lt_of_eq (by decide : 13 < 24) rfl) ?_
  show sm_S l D cy a0 mX8_init (d + 1) (qX8 ad cy a) 105 [(0, .ref a)] [] (pM ad cy ++ ([(a, .inr (8, [.int 0, .int 0, .ref q1, .ref q2, .ref q3, .ref q4, .ref q5, .ref q6, .ref q7, .ref q8, .ref q9, .ref q10, .ref q11, .ref q12, .null, .long 0, .null, .null, .null, .int 0, .null, .null, .null, .null])), (q1, .inl (cy 0, 12, .inl (fun _ => 0))), (q2, .inl (cy 2, 12, .inl (fun _ => 0))), (q3, .inl (cy 1, 12288, .inr (.inl (fun _ => 0)))), (q4, .inl (cy 0, 12, .inl (fun _ => 0))), (q5, .inl (cy 0, 288, .inl (fun _ => 0))), (q6, .inl (cy 0, 288, .inl (fun _ => 0))), (q7, .inl (cy 0, 288, .inl (fun _ => 0))), (q8, .inl (cy 0, 480, .inl (fun _ => 0))), (q9, .inl (cy 0, 120, .inl (fun _ => 0))), (q10, .inl (cy 0, 12, .inl (fun _ => 0))), (q11, .inl (cy 0, 12, .inl (fun _ => 0))), (q12, .inl (cy 0, 10, .inl (fun _ => 0)))] : va_W)) 8 4490
  refine sm_aload_n dX8_init_105 0 rfl ?_
  refine sm_bipush (v := 10) dX8_init_106 (by decide) ?_
  refine p_newJ (N := 10) (cb := 7) (sb := 4480) dX8_init_108 rfl (by decide) (by decide) (by decide) (fun q13 => ?_)
  refine p_putF 0 dX8_init_110 fwX8_48 rfl rfl rfl rfl rfl (Nat.lt_of_lt_of_eq (by decide : 14 < 24) rfl) ?_
  show sm_S l D cy a0 mX8_init (d + 1) (qX8 ad cy a) 113 [(0, .ref a)] [] (pM ad cy ++ ([(a, .inr (8, [.int 0, .int 0, .ref q1, .ref q2, .ref q3, .ref q4, .ref q5, .ref q6, .ref q7, .ref q8, .ref q9, .ref q10, .ref q11, .ref q12, .ref q13, .long 0, .null, .null, .null, .int 0, .null, .null, .null, .null])), (q1, .inl (cy 0, 12, .inl (fun _ => 0))), (q2, .inl (cy 2, 12, .inl (fun _ => 0))), (q3, .inl (cy 1, 12288, .inr (.inl (fun _ => 0)))), (q4, .inl (cy 0, 12, .inl (fun _ => 0))), (q5, .inl (cy 0, 288, .inl (fun _ => 0))), (q6, .inl (cy 0, 288, .inl (fun _ => 0))), (q7, .inl (cy 0, 288, .inl (fun _ => 0))), (q8, .inl (cy 0, 480, .inl (fun _ => 0))), (q9, .inl (cy 0, 120, .inl (fun _ => 0))), (q10, .inl (cy 0, 12, .inl (fun _ => 0))), (q11, .inl (cy 0, 12, .inl (fun _ => 0))), (q12, .inl (cy 0, 10, .inl (fun _ => 0))), (q13, .inl (cy 1, 10, .inr (.inl (fun _ => 0))))] : va_W)) 7 4480
  refine sm_aload_n dX8_init_113 0 rfl ?_
  refine sm_lconst (v := 1) dX8_init_114 (by decide) ?_
  refine p_put 0 dX8_init_115 fwX8_51 rfl rfl rfl (Nat.lt_of_lt_of_eq (by decide : 15 < 24) rfl) ?_
  show sm_S l D cy a0 mX8_init (d + 1) (qX8 ad cy a) 118 [(0, .ref a)] [] (pM ad cy ++ ([(a, .inr (8, [.int 0, .int 0, .ref q1, .ref q2, .ref q3, .ref q4, .ref q5, .ref q6, .ref q7, .ref q8, .ref q9, .ref q10, .ref q11, .ref q12, .ref q13, .long 1, .null, .null, .null, .int 0, .null, .null, .null, .null])), (q1, .inl (cy 0, 12, .inl (fun _ => 0))), (q2, .inl (cy 2, 12, .inl (fun _ => 0))), (q3, .inl (cy 1, 12288, .inr (.inl (fun _ => 0)))), (q4, .inl (cy 0, 12, .inl (fun _ => 0))), (q5, .inl (cy 0, 288, .inl (fun _ => 0))), (q6, .inl (cy 0, 288, .inl (fun _ => 0))), (q7, .inl (cy 0, 288, .inl (fun _ => 0))), (q8, .inl (cy 0, 480, .inl (fun _ => 0))), (q9, .inl (cy 0, 120, .inl (fun _ => 0))), (q10, .inl (cy 0, 12, .inl (fun _ => 0))), (q11, .inl (cy 0, 12, .inl (fun _ => 0))), (q12, .inl (cy 0, 10, .inl (fun _ => 0))), (q13, .inl (cy 1, 10, .inr (.inl (fun _ => 0))))] : va_W)) 7 4480
  refine sm_aload_n dX8_init_118 0 rfl ?_
  refine sm_iconst (v := 4) dX8_init_119 (by decide) ?_
  refine p_newI (N := 4) (cb := 6) (sb := 4476) dX8_init_120 rfl (by decide) (by decide) (by decide) (fun q14 => ?_)
  refine p_putF 0 dX8_init_122 fwX8_55 rfl rfl rfl rfl rfl (Nat.lt_of_lt_of_eq (by decide : 16 < 24) rfl) ?_
  show sm_S l D cy a0 mX8_init (d + 1) (qX8 ad cy a) 125 [(0, .ref a)] [] (pM ad cy ++ ([(a, .inr (8, [.int 0, .int 0, .ref q1, .ref q2, .ref q3, .ref q4, .ref q5, .ref q6, .ref q7, .ref q8, .ref q9, .ref q10, .ref q11, .ref q12, .ref q13, .long 1, .ref q14, .null, .null, .int 0, .null, .null, .null, .null])), (q1, .inl (cy 0, 12, .inl (fun _ => 0))), (q2, .inl (cy 2, 12, .inl (fun _ => 0))), (q3, .inl (cy 1, 12288, .inr (.inl (fun _ => 0)))), (q4, .inl (cy 0, 12, .inl (fun _ => 0))), (q5, .inl (cy 0, 288, .inl (fun _ => 0))), (q6, .inl (cy 0, 288, .inl (fun _ => 0))), (q7, .inl (cy 0, 288, .inl (fun _ => 0))), (q8, .inl (cy 0, 480, .inl (fun _ => 0))), (q9, .inl (cy 0, 120, .inl (fun _ => 0))), (q10, .inl (cy 0, 12, .inl (fun _ => 0))), (q11, .inl (cy 0, 12, .inl (fun _ => 0))), (q12, .inl (cy 0, 10, .inl (fun _ => 0))), (q13, .inl (cy 1, 10, .inr (.inl (fun _ => 0)))), (q14, .inl (cy 0, 4, .inl (fun _ => 0)))] : va_W)) 6 4476
  refine sm_aload_n dX8_init_125 0 rfl ?_
  refine sm_iconst (v := 4) dX8_init_126 (by decide) ?_
  refine p_newI (N := 4) (cb := 5) (sb := 4472) dX8_init_127 rfl (by decide) (by decide) (by decide) (fun q15 => ?_)
  refine p_putF 0 dX8_init_129 fwX8_58 rfl rfl rfl rfl rfl (Nat.lt_of_lt_of_eq (by decide : 17 < 24) rfl) ?_
  show sm_S l D cy a0 mX8_init (d + 1) (qX8 ad cy a) 132 [(0, .ref a)] [] (pM ad cy ++ ([(a, .inr (8, [.int 0, .int 0, .ref q1, .ref q2, .ref q3, .ref q4, .ref q5, .ref q6, .ref q7, .ref q8, .ref q9, .ref q10, .ref q11, .ref q12, .ref q13, .long 1, .ref q14, .ref q15, .null, .int 0, .null, .null, .null, .null])), (q1, .inl (cy 0, 12, .inl (fun _ => 0))), (q2, .inl (cy 2, 12, .inl (fun _ => 0))), (q3, .inl (cy 1, 12288, .inr (.inl (fun _ => 0)))), (q4, .inl (cy 0, 12, .inl (fun _ => 0))), (q5, .inl (cy 0, 288, .inl (fun _ => 0))), (q6, .inl (cy 0, 288, .inl (fun _ => 0))), (q7, .inl (cy 0, 288, .inl (fun _ => 0))), (q8, .inl (cy 0, 480, .inl (fun _ => 0))), (q9, .inl (cy 0, 120, .inl (fun _ => 0))), (q10, .inl (cy 0, 12, .inl (fun _ => 0))), (q11, .inl (cy 0, 12, .inl (fun _ => 0))), (q12, .inl (cy 0, 10, .inl (fun _ => 0))), (q13, .inl (cy 1, 10, .inr (.inl (fun _ => 0)))), (q14, .inl (cy 0, 4, .inl (fun _ => 0))), (q15, .inl (cy 0, 4, .inl (fun _ => 0)))] : va_W)) 5 4472
  refine sm_aload_n dX8_init_132 0 rfl ?_
  refine sm_sipush (v := 4400) dX8_init_133 (by decide) ?_
  refine p_newJ (N := 4400) (cb := 4) (sb := 72) dX8_init_136 rfl (by decide) (by decide) (by decide) (fun q16 => ?_)
  refine p_putF 0 dX8_init_138 fwX8_61 rfl rfl rfl rfl rfl (Nat.lt_of_lt_of_eq (by decide : 18 < 24) rfl) ?_
  show sm_S l D cy a0 mX8_init (d + 1) (qX8 ad cy a) 141 [(0, .ref a)] [] (pM ad cy ++ ([(a, .inr (8, [.int 0, .int 0, .ref q1, .ref q2, .ref q3, .ref q4, .ref q5, .ref q6, .ref q7, .ref q8, .ref q9, .ref q10, .ref q11, .ref q12, .ref q13, .long 1, .ref q14, .ref q15, .ref q16, .int 0, .null, .null, .null, .null])), (q1, .inl (cy 0, 12, .inl (fun _ => 0))), (q2, .inl (cy 2, 12, .inl (fun _ => 0))), (q3, .inl (cy 1, 12288, .inr (.inl (fun _ => 0)))), (q4, .inl (cy 0, 12, .inl (fun _ => 0))), (q5, .inl (cy 0, 288, .inl (fun _ => 0))), (q6, .inl (cy 0, 288, .inl (fun _ => 0))), (q7, .inl (cy 0, 288, .inl (fun _ => 0))), (q8, .inl (cy 0, 480, .inl (fun _ => 0))), (q9, .inl (cy 0, 120, .inl (fun _ => 0))), (q10, .inl (cy 0, 12, .inl (fun _ => 0))), (q11, .inl (cy 0, 12, .inl (fun _ => 0))), (q12, .inl (cy 0, 10, .inl (fun _ => 0))), (q13, .inl (cy 1, 10, .inr (.inl (fun _ => 0)))), (q14, .inl (cy 0, 4, .inl (fun _ => 0))), (q15, .inl (cy 0, 4, .inl (fun _ => 0))), (q16, .inl (cy 1, 4400, .inr (.inl (fun _ => 0))))] : va_W)) 4 72
  refine sm_aload_n dX8_init_141 0 rfl ?_
  refine sm_bipush (v := 40) dX8_init_142 (by decide) ?_
  refine p_newJ (N := 40) (cb := 3) (sb := 32) dX8_init_144 rfl (by decide) (by decide) (by decide) (fun q17 => ?_)
  refine p_putF 0 dX8_init_146 fwX8_64 rfl rfl rfl rfl rfl (Nat.lt_of_lt_of_eq (by decide : 20 < 24) rfl) ?_
  show sm_S l D cy a0 mX8_init (d + 1) (qX8 ad cy a) 149 [(0, .ref a)] [] (pM ad cy ++ ([(a, .inr (8, [.int 0, .int 0, .ref q1, .ref q2, .ref q3, .ref q4, .ref q5, .ref q6, .ref q7, .ref q8, .ref q9, .ref q10, .ref q11, .ref q12, .ref q13, .long 1, .ref q14, .ref q15, .ref q16, .int 0, .ref q17, .null, .null, .null])), (q1, .inl (cy 0, 12, .inl (fun _ => 0))), (q2, .inl (cy 2, 12, .inl (fun _ => 0))), (q3, .inl (cy 1, 12288, .inr (.inl (fun _ => 0)))), (q4, .inl (cy 0, 12, .inl (fun _ => 0))), (q5, .inl (cy 0, 288, .inl (fun _ => 0))), (q6, .inl (cy 0, 288, .inl (fun _ => 0))), (q7, .inl (cy 0, 288, .inl (fun _ => 0))), (q8, .inl (cy 0, 480, .inl (fun _ => 0))), (q9, .inl (cy 0, 120, .inl (fun _ => 0))), (q10, .inl (cy 0, 12, .inl (fun _ => 0))), (q11, .inl (cy 0, 12, .inl (fun _ => 0))), (q12, .inl (cy 0, 10, .inl (fun _ => 0))), (q13, .inl (cy 1, 10, .inr (.inl (fun _ => 0)))), (q14, .inl (cy 0, 4, .inl (fun _ => 0))), (q15, .inl (cy 0, 4, .inl (fun _ => 0))), (q16, .inl (cy 1, 4400, .inr (.inl (fun _ => 0)))), (q17, .inl (cy 1, 40, .inr (.inl (fun _ => 0))))] : va_W)) 3 32
  refine sm_aload_n dX8_init_149 0 rfl ?_
  refine sm_bipush (v := 11) dX8_init_150 (by decide) ?_
  refine p_newI (N := 11) (cb := 2) (sb := 21) dX8_init_152 rfl (by decide) (by decide) (by decide) (fun q18 => ?_)
  refine p_putF 0 dX8_init_154 fwX8_67 rfl rfl rfl rfl rfl (Nat.lt_of_lt_of_eq (by decide : 21 < 24) rfl) ?_
  show sm_S l D cy a0 mX8_init (d + 1) (qX8 ad cy a) 157 [(0, .ref a)] [] (pM ad cy ++ ([(a, .inr (8, [.int 0, .int 0, .ref q1, .ref q2, .ref q3, .ref q4, .ref q5, .ref q6, .ref q7, .ref q8, .ref q9, .ref q10, .ref q11, .ref q12, .ref q13, .long 1, .ref q14, .ref q15, .ref q16, .int 0, .ref q17, .ref q18, .null, .null])), (q1, .inl (cy 0, 12, .inl (fun _ => 0))), (q2, .inl (cy 2, 12, .inl (fun _ => 0))), (q3, .inl (cy 1, 12288, .inr (.inl (fun _ => 0)))), (q4, .inl (cy 0, 12, .inl (fun _ => 0))), (q5, .inl (cy 0, 288, .inl (fun _ => 0))), (q6, .inl (cy 0, 288, .inl (fun _ => 0))), (q7, .inl (cy 0, 288, .inl (fun _ => 0))), (q8, .inl (cy 0, 480, .inl (fun _ => 0))), (q9, .inl (cy 0, 120, .inl (fun _ => 0))), (q10, .inl (cy 0, 12, .inl (fun _ => 0))), (q11, .inl (cy 0, 12, .inl (fun _ => 0))), (q12, .inl (cy 0, 10, .inl (fun _ => 0))), (q13, .inl (cy 1, 10, .inr (.inl (fun _ => 0)))), (q14, .inl (cy 0, 4, .inl (fun _ => 0))), (q15, .inl (cy 0, 4, .inl (fun _ => 0))), (q16, .inl (cy 1, 4400, .inr (.inl (fun _ => 0)))), (q17, .inl (cy 1, 40, .inr (.inl (fun _ => 0)))), (q18, .inl (cy 0, 11, .inl (fun _ => 0)))] : va_W)) 2 21
  refine sm_aload_n dX8_init_157 0 rfl ?_
  refine sm_bipush (v := 11) dX8_init_158 (by decide) ?_
  refine p_newJ (N := 11) (cb := 1) (sb := 10) dX8_init_160 rfl (by decide) (by decide) (by decide) (fun q19 => ?_)
  refine p_putF 0 dX8_init_162 fwX8_70 rfl rfl rfl rfl rfl (Nat.lt_of_lt_of_eq (by decide : 22 < 24) rfl) ?_
  show sm_S l D cy a0 mX8_init (d + 1) (qX8 ad cy a) 165 [(0, .ref a)] [] (pM ad cy ++ ([(a, .inr (8, [.int 0, .int 0, .ref q1, .ref q2, .ref q3, .ref q4, .ref q5, .ref q6, .ref q7, .ref q8, .ref q9, .ref q10, .ref q11, .ref q12, .ref q13, .long 1, .ref q14, .ref q15, .ref q16, .int 0, .ref q17, .ref q18, .ref q19, .null])), (q1, .inl (cy 0, 12, .inl (fun _ => 0))), (q2, .inl (cy 2, 12, .inl (fun _ => 0))), (q3, .inl (cy 1, 12288, .inr (.inl (fun _ => 0)))), (q4, .inl (cy 0, 12, .inl (fun _ => 0))), (q5, .inl (cy 0, 288, .inl (fun _ => 0))), (q6, .inl (cy 0, 288, .inl (fun _ => 0))), (q7, .inl (cy 0, 288, .inl (fun _ => 0))), (q8, .inl (cy 0, 480, .inl (fun _ => 0))), (q9, .inl (cy 0, 120, .inl (fun _ => 0))), (q10, .inl (cy 0, 12, .inl (fun _ => 0))), (q11, .inl (cy 0, 12, .inl (fun _ => 0))), (q12, .inl (cy 0, 10, .inl (fun _ => 0))), (q13, .inl (cy 1, 10, .inr (.inl (fun _ => 0)))), (q14, .inl (cy 0, 4, .inl (fun _ => 0))), (q15, .inl (cy 0, 4, .inl (fun _ => 0))), (q16, .inl (cy 1, 4400, .inr (.inl (fun _ => 0)))), (q17, .inl (cy 1, 40, .inr (.inl (fun _ => 0)))), (q18, .inl (cy 0, 11, .inl (fun _ => 0))), (q19, .inl (cy 1, 11, .inr (.inl (fun _ => 0))))] : va_W)) 1 10
  refine sm_aload_n dX8_init_165 0 rfl ?_
  refine sm_bipush (v := 10) dX8_init_166 (by decide) ?_
  refine p_newJ (N := 10) (cb := 0) (sb := 0) dX8_init_168 rfl (by decide) (by decide) (by decide) (fun q20 => ?_)
  refine p_putF 0 dX8_init_170 fwX8_73 rfl rfl rfl rfl rfl (Nat.lt_of_lt_of_eq (by decide : 23 < 24) rfl) ?_
  show sm_S l D cy a0 mX8_init (d + 1) (qX8 ad cy a) 173 [(0, .ref a)] [] (pM ad cy ++ ([(a, .inr (8, [.int 0, .int 0, .ref q1, .ref q2, .ref q3, .ref q4, .ref q5, .ref q6, .ref q7, .ref q8, .ref q9, .ref q10, .ref q11, .ref q12, .ref q13, .long 1, .ref q14, .ref q15, .ref q16, .int 0, .ref q17, .ref q18, .ref q19, .ref q20])), (q1, .inl (cy 0, 12, .inl (fun _ => 0))), (q2, .inl (cy 2, 12, .inl (fun _ => 0))), (q3, .inl (cy 1, 12288, .inr (.inl (fun _ => 0)))), (q4, .inl (cy 0, 12, .inl (fun _ => 0))), (q5, .inl (cy 0, 288, .inl (fun _ => 0))), (q6, .inl (cy 0, 288, .inl (fun _ => 0))), (q7, .inl (cy 0, 288, .inl (fun _ => 0))), (q8, .inl (cy 0, 480, .inl (fun _ => 0))), (q9, .inl (cy 0, 120, .inl (fun _ => 0))), (q10, .inl (cy 0, 12, .inl (fun _ => 0))), (q11, .inl (cy 0, 12, .inl (fun _ => 0))), (q12, .inl (cy 0, 10, .inl (fun _ => 0))), (q13, .inl (cy 1, 10, .inr (.inl (fun _ => 0)))), (q14, .inl (cy 0, 4, .inl (fun _ => 0))), (q15, .inl (cy 0, 4, .inl (fun _ => 0))), (q16, .inl (cy 1, 4400, .inr (.inl (fun _ => 0)))), (q17, .inl (cy 1, 40, .inr (.inl (fun _ => 0)))), (q18, .inl (cy 0, 11, .inl (fun _ => 0))), (q19, .inl (cy 1, 11, .inr (.inl (fun _ => 0)))), (q20, .inl (cy 1, 10, .inr (.inl (fun _ => 0))))] : va_W)) 0 0
  refine sm_iconst (v := nI 0) dX8_init_173 (by decide) ?_
  refine sm_istore_n (lv' := [(1, .int (nI 0)), (0, .ref a)]) dX8_init_174 (by decide) rfl ?_
  refine sm_iload_n dX8_init_175 0 rfl ?_
  refine sm_iconst (v := nI 4) dX8_init_176 (by decide) ?_
  refine sn_icmp_ge (a := 0) (b := 4) 193 dX8_init_177 (by decide) (by decide) (by decide) (fun h => absurd h (by decide)) (fun _ => ?_)
  refine sm_aload_n dX8_init_180 1 rfl ?_
  refine p_get 0 dX8_init_181 flX8_55 rfl rfl ?_
  refine sm_iload_n dX8_init_184 0 rfl ?_
  refine sm_iconst (v := -1) dX8_init_185 (by decide) ?_
  refine p_iast (j := nI 0) 14 dX8_init_186 rfl (nI_in (by decide) (by decide)) ?_
  rw [show (nI 0).toNatClampNeg = 0 from nI_clamp (by decide)]
  refine sm_iinc (v := nI 1) (lv' := [(1, .int (nI 1)), (0, .ref a)]) dX8_init_187 0 rfl (nI_add 0 1) (by decide) rfl ?_
  refine sm_goto 175 dX8_init_190 (by decide) ?_
  show sm_S l D cy a0 mX8_init (d + 1) (qX8 ad cy a) 175 [(1, .int (nI 1)), (0, .ref a)] [] (pM ad cy ++ ([(a, .inr (8, [.int 0, .int 0, .ref q1, .ref q2, .ref q3, .ref q4, .ref q5, .ref q6, .ref q7, .ref q8, .ref q9, .ref q10, .ref q11, .ref q12, .ref q13, .long 1, .ref q14, .ref q15, .ref q16, .int 0, .ref q17, .ref q18, .ref q19, .ref q20])), (q1, .inl (cy 0, 12, .inl (fun _ => 0))), (q2, .inl (cy 2, 12, .inl (fun _ => 0))), (q3, .inl (cy 1, 12288, .inr (.inl (fun _ => 0)))), (q4, .inl (cy 0, 12, .inl (fun _ => 0))), (q5, .inl (cy 0, 288, .inl (fun _ => 0))), (q6, .inl (cy 0, 288, .inl (fun _ => 0))), (q7, .inl (cy 0, 288, .inl (fun _ => 0))), (q8, .inl (cy 0, 480, .inl (fun _ => 0))), (q9, .inl (cy 0, 120, .inl (fun _ => 0))), (q10, .inl (cy 0, 12, .inl (fun _ => 0))), (q11, .inl (cy 0, 12, .inl (fun _ => 0))), (q12, .inl (cy 0, 10, .inl (fun _ => 0))), (q13, .inl (cy 1, 10, .inr (.inl (fun _ => 0)))), (q14, .inl (cy 0, 4, .inl (upd (fun _ => 0) 0 (-1)))), (q15, .inl (cy 0, 4, .inl (fun _ => 0))), (q16, .inl (cy 1, 4400, .inr (.inl (fun _ => 0)))), (q17, .inl (cy 1, 40, .inr (.inl (fun _ => 0)))), (q18, .inl (cy 0, 11, .inl (fun _ => 0))), (q19, .inl (cy 1, 11, .inr (.inl (fun _ => 0)))), (q20, .inl (cy 1, 10, .inr (.inl (fun _ => 0))))] : va_W)) 0 0
  refine sm_iload_n dX8_init_175 0 rfl ?_
  refine sm_iconst (v := nI 4) dX8_init_176 (by decide) ?_
  refine sn_icmp_ge (a := 1) (b := 4) 193 dX8_init_177 (by decide) (by decide) (by decide) (fun h => absurd h (by decide)) (fun _ => ?_)
  refine sm_aload_n dX8_init_180 1 rfl ?_
  refine p_get 0 dX8_init_181 flX8_55 rfl rfl ?_
  refine sm_iload_n dX8_init_184 0 rfl ?_
  refine sm_iconst (v := -1) dX8_init_185 (by decide) ?_
  refine p_iast (j := nI 1) 14 dX8_init_186 rfl (nI_in (by decide) (by decide)) ?_
  rw [show (nI 1).toNatClampNeg = 1 from nI_clamp (by decide)]
  refine sm_iinc (v := nI 2) (lv' := [(1, .int (nI 2)), (0, .ref a)]) dX8_init_187 0 rfl (nI_add 1 1) (by decide) rfl ?_
  refine sm_goto 175 dX8_init_190 (by decide) ?_
  show sm_S l D cy a0 mX8_init (d + 1) (qX8 ad cy a) 175 [(1, .int (nI 2)), (0, .ref a)] [] (pM ad cy ++ ([(a, .inr (8, [.int 0, .int 0, .ref q1, .ref q2, .ref q3, .ref q4, .ref q5, .ref q6, .ref q7, .ref q8, .ref q9, .ref q10, .ref q11, .ref q12, .ref q13, .long 1, .ref q14, .ref q15, .ref q16, .int 0, .ref q17, .ref q18, .ref q19, .ref q20])), (q1, .inl (cy 0, 12, .inl (fun _ => 0))), (q2, .inl (cy 2, 12, .inl (fun _ => 0))), (q3, .inl (cy 1, 12288, .inr (.inl (fun _ => 0)))), (q4, .inl (cy 0, 12, .inl (fun _ => 0))), (q5, .inl (cy 0, 288, .inl (fun _ => 0))), (q6, .inl (cy 0, 288, .inl (fun _ => 0))), (q7, .inl (cy 0, 288, .inl (fun _ => 0))), (q8, .inl (cy 0, 480, .inl (fun _ => 0))), (q9, .inl (cy 0, 120, .inl (fun _ => 0))), (q10, .inl (cy 0, 12, .inl (fun _ => 0))), (q11, .inl (cy 0, 12, .inl (fun _ => 0))), (q12, .inl (cy 0, 10, .inl (fun _ => 0))), (q13, .inl (cy 1, 10, .inr (.inl (fun _ => 0)))), (q14, .inl (cy 0, 4, .inl (upd (upd (fun _ => 0) 0 (-1)) 1 (-1)))), (q15, .inl (cy 0, 4, .inl (fun _ => 0))), (q16, .inl (cy 1, 4400, .inr (.inl (fun _ => 0)))), (q17, .inl (cy 1, 40, .inr (.inl (fun _ => 0)))), (q18, .inl (cy 0, 11, .inl (fun _ => 0))), (q19, .inl (cy 1, 11, .inr (.inl (fun _ => 0)))), (q20, .inl (cy 1, 10, .inr (.inl (fun _ => 0))))] : va_W)) 0 0
  refine sm_iload_n dX8_init_175 0 rfl ?_
  refine sm_iconst (v := nI 4) dX8_init_176 (by decide) ?_
  refine sn_icmp_ge (a := 2) (b := 4) 193 dX8_init_177 (by decide) (by decide) (by decide) (fun h => absurd h (by decide)) (fun _ => ?_)
  refine sm_aload_n dX8_init_180 1 rfl ?_
  refine p_get 0 dX8_init_181 flX8_55 rfl rfl ?_
  refine sm_iload_n dX8_init_184 0 rfl ?_
  refine sm_iconst (v := -1) dX8_init_185 (by decide) ?_
  refine p_iast (j := nI 2) 14 dX8_init_186 rfl (nI_in (by decide) (by decide)) ?_
  rw [show (nI 2).toNatClampNeg = 2 from nI_clamp (by decide)]
  refine sm_iinc (v := nI 3) (lv' := [(1, .int (nI 3)), (0, .ref a)]) dX8_init_187 0 rfl (nI_add 2 1) (by decide) rfl ?_
  refine sm_goto 175 dX8_init_190 (by decide) ?_
  show sm_S l D cy a0 mX8_init (d + 1) (qX8 ad cy a) 175 [(1, .int (nI 3)), (0, .ref a)] [] (pM ad cy ++ ([(a, .inr (8, [.int 0, .int 0, .ref q1, .ref q2, .ref q3, .ref q4, .ref q5, .ref q6, .ref q7, .ref q8, .ref q9, .ref q10, .ref q11, .ref q12, .ref q13, .long 1, .ref q14, .ref q15, .ref q16, .int 0, .ref q17, .ref q18, .ref q19, .ref q20])), (q1, .inl (cy 0, 12, .inl (fun _ => 0))), (q2, .inl (cy 2, 12, .inl (fun _ => 0))), (q3, .inl (cy 1, 12288, .inr (.inl (fun _ => 0)))), (q4, .inl (cy 0, 12, .inl (fun _ => 0))), (q5, .inl (cy 0, 288, .inl (fun _ => 0))), (q6, .inl (cy 0, 288, .inl (fun _ => 0))), (q7, .inl (cy 0, 288, .inl (fun _ => 0))), (q8, .inl (cy 0, 480, .inl (fun _ => 0))), (q9, .inl (cy 0, 120, .inl (fun _ => 0))), (q10, .inl (cy 0, 12, .inl (fun _ => 0))), (q11, .inl (cy 0, 12, .inl (fun _ => 0))), (q12, .inl (cy 0, 10, .inl (fun _ => 0))), (q13, .inl (cy 1, 10, .inr (.inl (fun _ => 0)))), (q14, .inl (cy 0, 4, .inl (upd (upd (upd (fun _ => 0) 0 (-1)) 1 (-1)) 2 (-1)))), (q15, .inl (cy 0, 4, .inl (fun _ => 0))), (q16, .inl (cy 1, 4400, .inr (.inl (fun _ => 0)))), (q17, .inl (cy 1, 40, .inr (.inl (fun _ => 0)))), (q18, .inl (cy 0, 11, .inl (fun _ => 0))), (q19, .inl (cy 1, 11, .inr (.inl (fun _ => 0)))), (q20, .inl (cy 1, 10, .inr (.inl (fun _ => 0))))] : va_W)) 0 0
  refine sm_iload_n dX8_init_175 0 rfl ?_
  refine sm_iconst (v := nI 4) dX8_init_176 (by decide) ?_
  refine sn_icmp_ge (a := 3) (b := 4) 193 dX8_init_177 (by decide) (by decide) (by decide) (fun h => absurd h (by decide)) (fun _ => ?_)
  refine sm_aload_n dX8_init_180 1 rfl ?_
  refine p_get 0 dX8_init_181 flX8_55 rfl rfl ?_
  refine sm_iload_n dX8_init_184 0 rfl ?_
  refine sm_iconst (v := -1) dX8_init_185 (by decide) ?_
  refine p_iast (j := nI 3) 14 dX8_init_186 rfl (nI_in (by decide) (by decide)) ?_
  rw [show (nI 3).toNatClampNeg = 3 from nI_clamp (by decide)]
  refine sm_iinc (v := nI 4) (lv' := [(1, .int (nI 4)), (0, .ref a)]) dX8_init_187 0 rfl (nI_add 3 1) (by decide) rfl ?_
  refine sm_goto 175 dX8_init_190 (by decide) ?_
  show sm_S l D cy a0 mX8_init (d + 1) (qX8 ad cy a) 175 [(1, .int (nI 4)), (0, .ref a)] [] (pM ad cy ++ ([(a, .inr (8, [.int 0, .int 0, .ref q1, .ref q2, .ref q3, .ref q4, .ref q5, .ref q6, .ref q7, .ref q8, .ref q9, .ref q10, .ref q11, .ref q12, .ref q13, .long 1, .ref q14, .ref q15, .ref q16, .int 0, .ref q17, .ref q18, .ref q19, .ref q20])), (q1, .inl (cy 0, 12, .inl (fun _ => 0))), (q2, .inl (cy 2, 12, .inl (fun _ => 0))), (q3, .inl (cy 1, 12288, .inr (.inl (fun _ => 0)))), (q4, .inl (cy 0, 12, .inl (fun _ => 0))), (q5, .inl (cy 0, 288, .inl (fun _ => 0))), (q6, .inl (cy 0, 288, .inl (fun _ => 0))), (q7, .inl (cy 0, 288, .inl (fun _ => 0))), (q8, .inl (cy 0, 480, .inl (fun _ => 0))), (q9, .inl (cy 0, 120, .inl (fun _ => 0))), (q10, .inl (cy 0, 12, .inl (fun _ => 0))), (q11, .inl (cy 0, 12, .inl (fun _ => 0))), (q12, .inl (cy 0, 10, .inl (fun _ => 0))), (q13, .inl (cy 1, 10, .inr (.inl (fun _ => 0)))), (q14, .inl (cy 0, 4, .inl (upd (upd (upd (upd (fun _ => 0) 0 (-1)) 1 (-1)) 2 (-1)) 3 (-1)))), (q15, .inl (cy 0, 4, .inl (fun _ => 0))), (q16, .inl (cy 1, 4400, .inr (.inl (fun _ => 0)))), (q17, .inl (cy 1, 40, .inr (.inl (fun _ => 0)))), (q18, .inl (cy 0, 11, .inl (fun _ => 0))), (q19, .inl (cy 1, 11, .inr (.inl (fun _ => 0)))), (q20, .inl (cy 1, 10, .inr (.inl (fun _ => 0))))] : va_W)) 0 0
  refine sm_iload_n dX8_init_175 0 rfl ?_
  refine sm_iconst (v := nI 4) dX8_init_176 (by decide) ?_
  refine sn_icmp_ge (a := 4) (b := 4) 193 dX8_init_177 (by decide) (by decide) (by decide) (fun _ => ?_) (fun h => absurd (Nat.le_refl _) h)
  exact x8_tail (q1 := q1) (q2 := q2) (q3 := q3) (q4 := q4) (q5 := q5) (q6 := q6) (q7 := q7) (q8 := q8) (q9 := q9) (q10 := q10) (q11 := q11) (q12 := q12) (q13 := q13) (q14 := q14) (q15 := q15) (q16 := q16) (q17 := q17) (q18 := q18) (q19 := q19) (q20 := q20)
end FM
