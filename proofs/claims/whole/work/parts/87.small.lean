/-! constructors: new cells behind those that stand (P) -/
theorem pt_at {P T : va_W} {k : Nat} {c : Nat × va_E} (h : T[k]? = some c) : (P ++ T)[P.length + k]? = some c := by
  rw [List.getElem?_append_right (by omega), Nat.add_sub_cancel_left]
  exact h
theorem pt_set {P T : va_W} {k : Nat} {c : Nat × va_E} : (P ++ T).set (P.length + k) c = P ++ T.set k c := by
  rw [List.set_append_right _ _ (by omega), Nat.add_sub_cancel_left]
section PT
variable {l : Launch} {D : va_G} {cy : Nat → ClassId} {a0 : Nat} {M : sm_M} {d : Nat} {Q : Option Value → va_W → Prop} {pc : Nat} {lv : List (Nat × Value)} {st : List Value} {P T : va_W} {cb sb : Nat}
theorem p_new {ix ci n : Nat} {fs : List Value} (hd : decode M.2.1 pc = .ok (.new ix, 3)) (hf : sm_NW M.1.cls ix ci n fs) (k : ∀ q : Nat, sm_S l D cy a0 M d Q (pc + 3) lv (.ref q :: st) (P ++ (T ++ [(q, .inr (ci, fs))])) cb sb) : sm_S l D cy a0 M d Q pc lv st (P ++ T) (cb + 1) (sb + n) :=
  sm_new hd hf (fun q => by rw [List.append_assoc]; exact k q)
theorem p_newI {at' : ArrayType} {n : Int32} {N : Nat} (hd : decode M.2.1 pc = .ok (.newarray at', 2)) (hty : newarray.typeOf at' = .int) (hn : ¬ n < 0) (hN : n.toNatClampNeg = N) (hb : N * componentBytes .int ≤ 536870912) (k : ∀ q : Nat, sm_S l D cy a0 M d Q (pc + 2) lv (.ref q :: st) (P ++ (T ++ [(q, .inl (cy 0, N, .inl (fun _ => 0)))])) cb sb) : sm_S l D cy a0 M d Q pc lv (.int n :: st) (P ++ T) (cb + 1) (sb + N) :=
  sm_newI hd hty ac_int hn hN hb (fun q => by rw [List.append_assoc]; exact k q)
theorem p_newJ {at' : ArrayType} {n : Int32} {N : Nat} (hd : decode M.2.1 pc = .ok (.newarray at', 2)) (hty : newarray.typeOf at' = .long) (hn : ¬ n < 0) (hN : n.toNatClampNeg = N) (hb : N * componentBytes .long ≤ 536870912) (k : ∀ q : Nat, sm_S l D cy a0 M d Q (pc + 2) lv (.ref q :: st) (P ++ (T ++ [(q, .inl (cy 1, N, .inr (.inl (fun _ => 0))))])) cb sb) : sm_S l D cy a0 M d Q pc lv (.int n :: st) (P ++ T) (cb + 1) (sb + N) :=
  sm_newJ hd hty ac_long hn hN hb (fun q => by rw [List.append_assoc]; exact k q)
theorem p_newZ {at' : ArrayType} {n : Int32} {N : Nat} (hd : decode M.2.1 pc = .ok (.newarray at', 2)) (hty : newarray.typeOf at' = .boolean) (hn : ¬ n < 0) (hN : n.toNatClampNeg = N) (hb : N * componentBytes .boolean ≤ 536870912) (k : ∀ q : Nat, sm_S l D cy a0 M d Q (pc + 2) lv (.ref q :: st) (P ++ (T ++ [(q, .inl (cy 2, N, .inl (fun _ => 0)))])) cb sb) : sm_S l D cy a0 M d Q pc lv (.int n :: st) (P ++ T) (cb + 1) (sb + N) :=
  sm_newZ hd hty ac_boolean hn hN hb (fun q => by rw [List.append_assoc]; exact k q)
theorem p_putF {ix ci kf a : Nat} (kk : Nat) {ty : FieldType} {fs : List Value} {v : Value} (hd : decode M.2.1 pc = .ok (.putfield ix, 3)) (hf : sm_FW M.1.cls ix ci kf ty true) (hM : M.1.name = "<init>") (hcl : (vwCl[ci]?).map (fun q => q.1) = some M.1.cls) (hw : T[kk]? = some (a, .inr (ci, fs))) (hn : narrow ty v = v) (ht : fits ty v = true) (hk : kf < fs.length) (k : sm_S l D cy a0 M d Q (pc + 3) lv st (P ++ T.set kk (a, .inr (ci, fs.set kf v))) cb sb) : sm_S l D cy a0 M d Q pc lv (v :: .ref a :: st) (P ++ T) cb sb :=
  sm_putF hd hf hM hcl (pt_at hw) hn ht hk (by rw [pt_set]; exact k)
theorem p_put {ix ci kf a : Nat} (kk : Nat) {ty : FieldType} {fs : List Value} {v : Value} (hd : decode M.2.1 pc = .ok (.putfield ix, 3)) (hf : sm_FW M.1.cls ix ci kf ty false) (hw : T[kk]? = some (a, .inr (ci, fs))) (hn : narrow ty v = v) (ht : fits ty v = true) (hk : kf < fs.length) (k : sm_S l D cy a0 M d Q (pc + 3) lv st (P ++ T.set kk (a, .inr (ci, fs.set kf v))) cb sb) : sm_S l D cy a0 M d Q pc lv (v :: .ref a :: st) (P ++ T) cb sb :=
  sm_put hd hf (pt_at hw) hn ht hk (by rw [pt_set]; exact k)
theorem p_get {ix ci kf a : Nat} (kk : Nat) {fs : List Value} {v : Value} (hd : decode M.2.1 pc = .ok (.getfield ix, 3)) (hf : sm_FL M.1.cls ix ci kf) (hw : T[kk]? = some (a, .inr (ci, fs))) (hv : fs[kf]? = some v) (k : sm_S l D cy a0 M d Q (pc + 3) lv (v :: st) (P ++ T) cb sb) : sm_S l D cy a0 M d Q pc lv (.ref a :: st) (P ++ T) cb sb :=
  sm_get hd hf (pt_at hw) hv k
theorem p_iast {a n : Nat} (kk : Nat) {f : Nat → Int32} {j v : Int32} (hd : decode M.2.1 pc = .ok (.iastore, 1)) (hw : T[kk]? = some (a, .inl (cy 0, n, .inl f))) (hj : vp_in j n) (k : sm_S l D cy a0 M d Q (pc + 1) lv st (P ++ T.set kk (a, .inl (cy 0, n, .inl (upd f j.toNatClampNeg v)))) cb sb) : sm_S l D cy a0 M d Q pc lv (.int v :: .int j :: .ref a :: st) (P ++ T) cb sb :=
  sm_iast hd (pt_at hw) hj (by rw [pt_set]; exact k)
end PT
section PI
variable {l : Launch} {D : va_G} {cy : Nat → ClassId} {a0 : Nat} {d : Nat} {P ws : va_W} {a : Nat}
theorem i_X0 : sm_S l D cy a0 mX0_init (d + 1) (fun r w => r = none ∧ w = ws) 0 [(0, .ref a)] [] ws 0 0 := by
  refine sm_aload_n dX0_init_0 0 rfl ?_
  refine sm_objInit dX0_init_1 vlX0_1 ob_i ob_c (by decide) ?_
  exact sm_vret dX0_init_4 rfl ⟨rfl, rfl⟩
theorem i_X1 : sm_S l D cy a0 mX1_init (d + 1) (fun r w => r = none ∧ ∃ q1 : Nat, w = P ++ [(a, .inr (1, [.ref q1, .int 0, .int 0, .int 0])), (q1, .inl (cy 0, 10, .inl (fun _ => 0)))]) 0 [(0, .ref a)] [] (P ++ [(a, .inr (1, [.null, .int 0, .int 0, .int 0]))]) 1 10 := by
  refine sm_aload_n dX1_init_0 0 rfl ?_
  refine sm_objInit dX1_init_1 vlX1_3 ob_i ob_c (by decide) ?_
  refine sm_aload_n dX1_init_4 0 rfl ?_
  refine sm_bipush (v := 10) dX1_init_5 (by decide) ?_
  refine p_newI (N := 10) (cb := 0) (sb := 0) dX1_init_7 rfl (by decide) (by decide) (by decide) (fun q1 => ?_)
  refine p_putF 0 dX1_init_9 fwX1_9 rfl rfl rfl rfl rfl (Nat.lt_of_lt_of_eq (by decide : 0 < 4) rfl) ?_
  exact sm_vret dX1_init_12 rfl ⟨rfl, q1, rfl⟩
theorem i_X2 : sm_S l D cy a0 mX2_init (d + 1) (fun r w => r = none ∧ ∃ q1 q2 : Nat, w = P ++ [(a, .inr (2, [.ref q1, .ref q2, .int 0, .int 0])), (q1, .inl (cy 1, 11, .inr (.inl (fun _ => 0)))), (q2, .inl (cy 0, 11, .inl (fun _ => 0)))]) 0 [(0, .ref a)] [] (P ++ [(a, .inr (2, [.null, .null, .int 0, .int 0]))]) 2 22 := by
  refine sm_aload_n dX2_init_0 0 rfl ?_
  refine sm_objInit dX2_init_1 vlX2_3 ob_i ob_c (by decide) ?_
  refine sm_aload_n dX2_init_4 0 rfl ?_
  refine sm_bipush (v := 11) dX2_init_5 (by decide) ?_
  refine p_newJ (N := 11) (cb := 1) (sb := 11) dX2_init_7 rfl (by decide) (by decide) (by decide) (fun q1 => ?_)
  refine p_putF 0 dX2_init_9 fwX2_9 rfl rfl rfl rfl rfl (Nat.lt_of_lt_of_eq (by decide : 0 < 4) rfl) ?_
  refine sm_aload_n dX2_init_12 0 rfl ?_
  refine sm_bipush (v := 11) dX2_init_13 (by decide) ?_
  refine p_newI (N := 11) (cb := 0) (sb := 0) dX2_init_15 rfl (by decide) (by decide) (by decide) (fun q2 => ?_)
  refine p_putF 0 dX2_init_17 fwX2_15 rfl rfl rfl rfl rfl (Nat.lt_of_lt_of_eq (by decide : 1 < 4) rfl) ?_
  exact sm_vret dX2_init_20 rfl ⟨rfl, q1, q2, rfl⟩
theorem i_X3 : sm_S l D cy a0 mX3_init (d + 1) (fun r w => r = none ∧ ∃ q1 q2 : Nat, w = P ++ [(a, .inr (3, [.ref q1, .ref q2])), (q1, .inl (cy 0, 40, .inl (fun _ => 0))), (q2, .inl (cy 1, 16, .inr (.inl (fun _ => 0))))]) 0 [(0, .ref a)] [] (P ++ [(a, .inr (3, [.null, .null]))]) 2 56 := by
  refine sm_aload_n dX3_init_0 0 rfl ?_
  refine sm_objInit dX3_init_1 vlX3_3 ob_i ob_c (by decide) ?_
  refine sm_aload_n dX3_init_4 0 rfl ?_
  refine sm_bipush (v := 40) dX3_init_5 (by decide) ?_
  refine p_newI (N := 40) (cb := 1) (sb := 16) dX3_init_7 rfl (by decide) (by decide) (by decide) (fun q1 => ?_)
  refine p_putF 0 dX3_init_9 fwX3_9 rfl rfl rfl rfl rfl (Nat.lt_of_lt_of_eq (by decide : 0 < 2) rfl) ?_
  refine sm_aload_n dX3_init_12 0 rfl ?_
  refine sm_bipush (v := 16) dX3_init_13 (by decide) ?_
  refine p_newJ (N := 16) (cb := 0) (sb := 0) dX3_init_15 rfl (by decide) (by decide) (by decide) (fun q2 => ?_)
  refine p_putF 0 dX3_init_17 fwX3_15 rfl rfl rfl rfl rfl (Nat.lt_of_lt_of_eq (by decide : 1 < 2) rfl) ?_
  exact sm_vret dX3_init_20 rfl ⟨rfl, q1, q2, rfl⟩
theorem i_X4 : sm_S l D cy a0 mX4_init (d + 1) (fun r w => r = none ∧ ∃ q1 q2 q3 : Nat, w = P ++ [(a, .inr (4, [.ref q1, .ref q2, .ref q3, .int 0, .int 1])), (q1, .inl (cy 0, 10, .inl (fun _ => 0))), (q2, .inl (cy 1, 10, .inr (.inl (fun _ => 0)))), (q3, .inl (cy 1, 10, .inr (.inl (fun _ => 0))))]) 0 [(0, .ref a)] [] (P ++ [(a, .inr (4, [.null, .null, .null, .int 0, .int 0]))]) 3 30 := by
  refine sm_aload_n dX4_init_0 0 rfl ?_
  refine sm_objInit dX4_init_1 vlX4_3 ob_i ob_c (by decide) ?_
  refine sm_aload_n dX4_init_4 0 rfl ?_
  refine sm_bipush (v := 10) dX4_init_5 (by decide) ?_
  refine p_newI (N := 10) (cb := 2) (sb := 20) dX4_init_7 rfl (by decide) (by decide) (by decide) (fun q1 => ?_)
  refine p_putF 0 dX4_init_9 fwX4_9 rfl rfl rfl rfl rfl (Nat.lt_of_lt_of_eq (by decide : 0 < 5) rfl) ?_
  refine sm_aload_n dX4_init_12 0 rfl ?_
  refine sm_bipush (v := 10) dX4_init_13 (by decide) ?_
  refine p_newJ (N := 10) (cb := 1) (sb := 10) dX4_init_15 rfl (by decide) (by decide) (by decide) (fun q2 => ?_)
  refine p_putF 0 dX4_init_17 fwX4_15 rfl rfl rfl rfl rfl (Nat.lt_of_lt_of_eq (by decide : 1 < 5) rfl) ?_
  refine sm_aload_n dX4_init_20 0 rfl ?_
  refine sm_bipush (v := 10) dX4_init_21 (by decide) ?_
  refine p_newJ (N := 10) (cb := 0) (sb := 0) dX4_init_23 rfl (by decide) (by decide) (by decide) (fun q3 => ?_)
  refine p_putF 0 dX4_init_25 fwX4_19 rfl rfl rfl rfl rfl (Nat.lt_of_lt_of_eq (by decide : 2 < 5) rfl) ?_
  refine sm_aload_n dX4_init_28 0 rfl ?_
  refine sm_iconst (v := 1) dX4_init_29 (by decide) ?_
  refine p_put 0 dX4_init_30 fwX4_22 rfl rfl rfl (Nat.lt_of_lt_of_eq (by decide : 4 < 5) rfl) ?_
  exact sm_vret dX4_init_33 rfl ⟨rfl, q1, q2, q3, rfl⟩
theorem i_X5 : sm_S l D cy a0 mX5_init (d + 1) (fun r w => r = none ∧ ∃ q1 : Nat, w = P ++ [(a, .inr (5, [.ref q1, .int 0, .int 0, .int 0])), (q1, .inl (cy 1, 1100, .inr (.inl (fun _ => 0))))]) 0 [(0, .ref a)] [] (P ++ [(a, .inr (5, [.null, .int 0, .int 0, .int 0]))]) 1 1100 := by
  refine sm_aload_n dX5_init_0 0 rfl ?_
  refine sm_objInit dX5_init_1 vlX5_3 ob_i ob_c (by decide) ?_
  refine sm_aload_n dX5_init_4 0 rfl ?_
  refine sm_sipush (v := 1100) dX5_init_5 (by decide) ?_
  refine p_newJ (N := 1100) (cb := 0) (sb := 0) dX5_init_8 rfl (by decide) (by decide) (by decide) (fun q1 => ?_)
  refine p_putF 0 dX5_init_10 fwX5_9 rfl rfl rfl rfl rfl (Nat.lt_of_lt_of_eq (by decide : 0 < 4) rfl) ?_
  exact sm_vret dX5_init_13 rfl ⟨rfl, q1, rfl⟩
theorem i_X6 : sm_S l D cy a0 mX6_init (d + 2) (fun r w => r = none ∧ ∃ q1 q2 q3 q4 q5 q6 : Nat, w = P ++ [(a, .inr (6, [.ref q1, .ref q2, .ref q5, .ref q6, .int 0, .int 0, .int 0, .int 0, .int 0])), (q1, .inl (cy 1, 1024, .inr (.inl (fun _ => 0)))), (q2, .inr (3, [.ref q3, .ref q4])), (q3, .inl (cy 0, 40, .inl (fun _ => 0))), (q4, .inl (cy 1, 16, .inr (.inl (fun _ => 0)))), (q5, .inl (cy 0, 10, .inl (fun _ => 0))), (q6, .inl (cy 0, 10, .inl (fun _ => 0)))]) 0 [(0, .ref a)] [] (P ++ [(a, .inr (6, [.null, .null, .null, .null, .int 0, .int 0, .int 0, .int 0, .int 0]))]) 6 1102 := by
  refine sm_aload_n dX6_init_0 0 rfl ?_
  refine sm_objInit dX6_init_1 vlX6_3 ob_i ob_c (by decide) ?_
  refine sm_aload_n dX6_init_4 0 rfl ?_
  refine sm_sipush (v := 1024) dX6_init_5 (by decide) ?_
  refine p_newJ (N := 1024) (cb := 5) (sb := 78) dX6_init_8 rfl (by decide) (by decide) (by decide) (fun q1 => ?_)
  refine p_putF 0 dX6_init_10 fwX6_9 rfl rfl rfl rfl rfl (Nat.lt_of_lt_of_eq (by decide : 0 < 9) rfl) ?_
  refine sm_aload_n dX6_init_13 0 rfl ?_
  refine p_new (n := 2) (cb := 4) (sb := 76) dX6_init_14 nwX6_15 (fun q2 => ?_)
  refine sm_dup dX6_init_17 rfl ?_
  rw [← List.append_assoc]
  refine sm_callIN (As := []) (cb := 2) (sb := 20) (mc := 2) (ms := 56) (n := 0) dX6_init_18 vlX6_17 clX3_init rfl rfl (Nat.le_of_ble_eq_true rfl) (Nat.le_of_ble_eq_true rfl) i_X3 ?_
  rintro r w ⟨rfl, q3, q4, rfl⟩
  rw [List.append_assoc]
  refine p_putF 0 dX6_init_21 fwX6_18 rfl rfl rfl rfl rfl (Nat.lt_of_lt_of_eq (by decide : 1 < 9) rfl) ?_
  refine sm_aload_n dX6_init_24 0 rfl ?_
  refine sm_bipush (v := 10) dX6_init_25 (by decide) ?_
  refine p_newI (N := 10) (cb := 1) (sb := 10) dX6_init_27 rfl (by decide) (by decide) (by decide) (fun q5 => ?_)
  refine p_putF 0 dX6_init_29 fwX6_22 rfl rfl rfl rfl rfl (Nat.lt_of_lt_of_eq (by decide : 2 < 9) rfl) ?_
  refine sm_aload_n dX6_init_32 0 rfl ?_
  refine sm_bipush (v := 10) dX6_init_33 (by decide) ?_
  refine p_newI (N := 10) (cb := 0) (sb := 0) dX6_init_35 rfl (by decide) (by decide) (by decide) (fun q6 => ?_)
  refine p_putF 0 dX6_init_37 fwX6_26 rfl rfl rfl rfl rfl (Nat.lt_of_lt_of_eq (by decide : 3 < 9) rfl) ?_
  exact sm_vret dX6_init_40 rfl ⟨rfl, q1, q2, q3, q4, q5, q6, rfl⟩
end PI
