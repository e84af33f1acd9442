/-! rules over the cells: fields, arrays, new ones -/
/-- a field's link: from a class, by a number of its pool, to field kf of class ci -/
def sm_FL (own : String) (ix ci kf : Nat) : Prop := ∃ (C : String) (T : u_T) (N : Nat), vwCl[ci]? = some (C, T, N) ∧ kf < N ∧ (∀ w ∈ u_ws C T N, w ∈ sm_tbl) ∧ Cond.fieldLink own ix (T kf).1 (T kf).2.1 (T kf).2.2.1 ∈ sm_tbl
/-- the same, to write: of type ty, final or not -/
def sm_FW (own : String) (ix ci kf : Nat) (ty : FieldType) (fin : Bool) : Prop := ∃ (C : String) (T : u_T) (N : Nat) (ty0 : Nat → FieldType), vwCl[ci]? = some (C, T, N) ∧ kf < N ∧ (∀ w ∈ u_ws C T N, w ∈ sm_tbl) ∧ Cond.fieldLink own ix (T kf).1 (T kf).2.1 (T kf).2.2.1 ∈ sm_tbl ∧ (∀ k, k < N → parseFieldDescriptor (T k).2.2.1 = some (ty0 k)) ∧ (∀ a, a < N → ∀ b, b < N → a ≠ b → (T a).2.1 ≠ (T b).2.1) ∧ (T kf).2.2.2 = fin ∧ parseFieldDescriptor (T kf).2.2.1 = some ty ∧ (T kf).1 = C
/-- a class that can be made: its fields' first values -/
def sm_NW (own : String) (ix ci n : Nat) (fs : List Value) : Prop := ∃ (C : String) (T : u_T) (ty : Nat → FieldType), vwCl[ci]? = some (C, T, n) ∧ (∀ w ∈ u_ws C T n, w ∈ sm_tbl) ∧ (∀ k, k < n → parseFieldDescriptor (T k).2.2.1 = some (ty k)) ∧ Cond.classLink own ix C ∈ sm_tbl ∧ Cond.instantiable C n ∈ sm_tbl ∧ Cond.initialized C ∈ sm_tbl ∧ ∀ j, j < n → defaultValue (ty j) = vp_V fs j
section SC
variable {l : Launch} {D : va_G} {cy : Nat → ClassId} {a0 : Nat} {M : sm_M} {d : Nat} {Q : Option Value → va_W → Prop} {pc : Nat} {lv : List (Nat × Value)} {st : List Value} {ws : va_W} {cb sb : Nat}
theorem sm_get {ix ci kf i a : Nat} {fs : List Value} {v : Value} (hd : decode M.2.1 pc = .ok (.getfield ix, 3)) (hf : sm_FL M.1.cls ix ci kf) (hw : ws[i]? = some (a, .inr (ci, fs))) (hv : fs[kf]? = some v) (k : sm_S l D cy a0 M d Q (pc + 3) lv (v :: st) ws cb sb) : sm_S l D cy a0 M d Q pc lv (.ref a :: st) ws cb sb := by
  intro p e R s m args below meth c H locs cells slots Z ls CM SM C hret hP hD hS hl hc
  obtain ⟨Cn, T, N, g1, g2, g3, g4⟩ := hf
  exact va_get C.1 C.2.1 C.2.2.2.2.1 g3 C.2.2.2.1 C.2.2.2.2.2.1.1 hP i hw g1 kf g2 (C.2.2.2.2.1 _ g4) (fun _ h9 => h9) hv hd (k p e R s m args below meth c H locs cells slots Z ls CM SM C hret hP hD hS hl hc)
theorem sm_put {ix ci kf i a : Nat} {ty : FieldType} {fs : List Value} {v : Value} (hd : decode M.2.1 pc = .ok (.putfield ix, 3)) (hf : sm_FW M.1.cls ix ci kf ty false) (hw : ws[i]? = some (a, .inr (ci, fs))) (hn : narrow ty v = v) (ht : fits ty v = true) (hk : kf < fs.length) (k : sm_S l D cy a0 M d Q (pc + 3) lv st (ws.set i (a, .inr (ci, fs.set kf v))) cb sb) : sm_S l D cy a0 M d Q pc lv (v :: .ref a :: st) ws cb sb := by
  intro p e R s m args below meth c H locs cells slots Z ls CM SM C hret hP hD hS hl hc
  obtain ⟨Cn, T, N, ty0, g1, g2, g3, g4, g5, g6, g7, g8, g9⟩ := hf
  exact va_put C.1 C.2.1 C.2.2.2.2.1 g3 ty0 g5 g6 C.2.2.2.1 C.2.2.2.2.2.1.1 hP hD hS i hw g1 kf g2 (C.2.2.2.2.1 _ g4) (fun _ h9 => h9) g7 g8 hn ht hk hd (fun H locs hP hD hS => k p e R s m args below meth c H locs cells slots Z ls CM SM C hret hP hD hS hl hc)
theorem sm_putF {ix ci kf i a : Nat} {ty : FieldType} {fs : List Value} {v : Value} (hd : decode M.2.1 pc = .ok (.putfield ix, 3)) (hf : sm_FW M.1.cls ix ci kf ty true) (hM : M.1.name = "<init>") (hcl : (vwCl[ci]?).map (fun q => q.1) = some M.1.cls) (hw : ws[i]? = some (a, .inr (ci, fs))) (hn : narrow ty v = v) (ht : fits ty v = true) (hk : kf < fs.length) (k : sm_S l D cy a0 M d Q (pc + 3) lv st (ws.set i (a, .inr (ci, fs.set kf v))) cb sb) : sm_S l D cy a0 M d Q pc lv (v :: .ref a :: st) ws cb sb := by
  intro p e R s m args below meth c H locs cells slots Z ls CM SM C hret hP hD hS hl hc
  obtain ⟨Cn, T, N, ty0, g1, g2, g3, g4, g5, g6, g7, g8, g9⟩ := hf
  have hcn : Cn = M.1.cls := by rw [g1] at hcl; exact Option.some.inj hcl
  exact va_putF C.1 C.2.1 C.2.2.2.2.1 g3 ty0 g5 g6 C.2.2.2.1 C.2.2.2.2.2.1.1 hP hD hS i hw g1 kf g2 (C.2.2.2.2.1 _ g4) (fun _ h9 => h9) g7 (C.2.2.2.2.2.2.2.2.2 hM) (g9.trans hcn) g8 hn ht hk hd (fun H locs hP hD hS => k p e R s m args below meth c H locs cells slots Z ls CM SM C hret hP hD hS hl hc)
theorem sm_iald {i a n : Nat} {f : Nat → Int32} {j : Int32} (hd : decode M.2.1 pc = .ok (.iaload, 1)) (hw : ws[i]? = some (a, .inl (cy 0, n, .inl f))) (hj : vp_in j n) (k : sm_S l D cy a0 M d Q (pc + 1) lv (.int (f j.toNatClampNeg) :: st) ws cb sb) : sm_S l D cy a0 M d Q pc lv (.int j :: .ref a :: st) ws cb sb := by
  intro p e R s m args below meth c H locs cells slots Z ls CM SM C hret hP hD hS hl hc
  exact va_iald C.1 C.2.1 C.2.2.2.2.2.1.1 hP i 0 hw rfl hj hd (k p e R s m args below meth c H locs cells slots Z ls CM SM C hret hP hD hS hl hc)
theorem sm_lald {i a n : Nat} {f : Nat → Int64} {j : Int32} (hd : decode M.2.1 pc = .ok (.laload, 1)) (hw : ws[i]? = some (a, .inl (cy 1, n, .inr (.inl f)))) (hj : vp_in j n) (k : sm_S l D cy a0 M d Q (pc + 1) lv (.long (f j.toNatClampNeg) :: st) ws cb sb) : sm_S l D cy a0 M d Q pc lv (.int j :: .ref a :: st) ws cb sb := by
  intro p e R s m args below meth c H locs cells slots Z ls CM SM C hret hP hD hS hl hc
  exact va_lald C.1 C.2.1 C.2.2.2.2.2.1.1 hP i 1 hw rfl hj hd (k p e R s m args below meth c H locs cells slots Z ls CM SM C hret hP hD hS hl hc)
theorem sm_zald {i a n : Nat} {f : Nat → Int32} {j : Int32} (hd : decode M.2.1 pc = .ok (.baload, 1)) (hw : ws[i]? = some (a, .inl (cy 2, n, .inl f))) (hj : vp_in j n) (k : sm_S l D cy a0 M d Q (pc + 1) lv (.int (f j.toNatClampNeg) :: st) ws cb sb) : sm_S l D cy a0 M d Q pc lv (.int j :: .ref a :: st) ws cb sb := by
  intro p e R s m args below meth c H locs cells slots Z ls CM SM C hret hP hD hS hl hc
  exact va_zald C.1 C.2.1 C.2.2.2.2.2.1.1 hP i 2 hw rfl hj hd (k p e R s m args below meth c H locs cells slots Z ls CM SM C hret hP hD hS hl hc)
theorem sm_aald {i t a n : Nat} {C' : String} {f : Nat → Option Nat} {j : Int32} (hd : decode M.2.1 pc = .ok (.aaload, 1)) (hw : ws[i]? = some (a, .inl (cy t, n, .inr (.inr (.inr (.inr f)))))) (ht : (sm_tys cy)[t]? = some (cy t, .object C')) (hj : vp_in j n) {b : Nat} (hb : f j.toNatClampNeg = some b) (k : sm_S l D cy a0 M d Q (pc + 1) lv (.ref b :: st) ws cb sb) : sm_S l D cy a0 M d Q pc lv (.int j :: .ref a :: st) ws cb sb := by
  intro p e R s m args below meth c H locs cells slots Z ls CM SM C hret hP hD hS hl hc
  refine va_aldq C.1 C.2.1 C.2.2.2.2.2.1.1 hP i t hw ht hj hd ?_
  rw [hb]
  exact k p e R s m args below meth c H locs cells slots Z ls CM SM C hret hP hD hS hl hc
theorem sm_iast {i a n : Nat} {f : Nat → Int32} {j v : Int32} (hd : decode M.2.1 pc = .ok (.iastore, 1)) (hw : ws[i]? = some (a, .inl (cy 0, n, .inl f))) (hj : vp_in j n) (k : sm_S l D cy a0 M d Q (pc + 1) lv st (ws.set i (a, .inl (cy 0, n, .inl (upd f j.toNatClampNeg v)))) cb sb) : sm_S l D cy a0 M d Q pc lv (.int v :: .int j :: .ref a :: st) ws cb sb := by
  intro p e R s m args below meth c H locs cells slots Z ls CM SM C hret hP hD hS hl hc
  exact va_iast C.1 C.2.1 C.2.2.2.2.2.1.1 hP hD hS i 0 hw rfl hj hd (fun H locs hP hD hS => k p e R s m args below meth c H locs cells slots Z ls CM SM C hret hP hD hS hl hc)
theorem sm_last {i a n : Nat} {f : Nat → Int64} {j : Int32} {v : Int64} (hd : decode M.2.1 pc = .ok (.lastore, 1)) (hw : ws[i]? = some (a, .inl (cy 1, n, .inr (.inl f)))) (hj : vp_in j n) (k : sm_S l D cy a0 M d Q (pc + 1) lv st (ws.set i (a, .inl (cy 1, n, .inr (.inl (vp_updL f j.toNatClampNeg v))))) cb sb) : sm_S l D cy a0 M d Q pc lv (.long v :: .int j :: .ref a :: st) ws cb sb := by
  intro p e R s m args below meth c H locs cells slots Z ls CM SM C hret hP hD hS hl hc
  exact va_last C.1 C.2.1 C.2.2.2.2.2.1.1 hP hD hS i 1 hw rfl hj hd (fun H locs hP hD hS => k p e R s m args below meth c H locs cells slots Z ls CM SM C hret hP hD hS hl hc)
theorem sm_zast {i a n : Nat} {f : Nat → Int32} {j v : Int32} (hd : decode M.2.1 pc = .ok (.bastore, 1)) (hw : ws[i]? = some (a, .inl (cy 2, n, .inl f))) (hj : vp_in j n) (k : sm_S l D cy a0 M d Q (pc + 1) lv st (ws.set i (a, .inl (cy 2, n, .inl (upd f j.toNatClampNeg (vp_nar .boolean v))))) cb sb) : sm_S l D cy a0 M d Q pc lv (.int v :: .int j :: .ref a :: st) ws cb sb := by
  intro p e R s m args below meth c H locs cells slots Z ls CM SM C hret hP hD hS hl hc
  exact va_zast C.1 C.2.1 C.2.2.2.2.2.1.1 hP hD hS i 2 hw rfl hj hd (fun H locs hP hD hS => k p e R s m args below meth c H locs cells slots Z ls CM SM C hret hP hD hS hl hc)
theorem sm_aast {i t q ci a n b : Nat} {r : vw_C} {vs : List Value} {f : Nat → Option Nat} {j : Int32} (hd : decode M.2.1 pc = .ok (.aastore, 1)) (hw : ws[i]? = some (a, .inl (cy t, n, .inr (.inr (.inr (.inr f)))))) (ht : (sm_tys cy)[t]? = some (cy t, .object r.1)) (hv : ws[q]? = some (b, .inr (ci, vs))) (hr : vwCl[ci]? = some r) (hj : vp_in j n) (k : sm_S l D cy a0 M d Q (pc + 1) lv st (ws.set i (a, .inl (cy t, n, .inr (.inr (.inr (.inr (va_up f j.toNatClampNeg (some b)))))))) cb sb) : sm_S l D cy a0 M d Q pc lv (.ref b :: .int j :: .ref a :: st) ws cb sb := by
  intro p e R s m args below meth c H locs cells slots Z ls CM SM C hret hP hD hS hl hc
  exact va_astq C.1 C.2.1 C.2.2.2.2.2.1.1 hP hD hS i t q ci hw ht hv hr hj hd (fun H locs hP hD hS => k p e R s m args below meth c H locs cells slots Z ls CM SM C hret hP hD hS hl hc)
theorem sm_new {ix ci n : Nat} {fs : List Value} (hd : decode M.2.1 pc = .ok (.new ix, 3)) (hf : sm_NW M.1.cls ix ci n fs) (k : ∀ q : Nat, sm_S l D cy a0 M d Q (pc + 3) lv (.ref q :: st) (ws ++ [(q, .inr (ci, fs))]) cb sb) : sm_S l D cy a0 M d Q pc lv st ws (cb + 1) (sb + n) := by
  intro p e R s m args below meth c H locs cells slots Z ls CM SM C hret hP hD hS hl hc
  obtain ⟨Cn, T, ty, g1, g2, g3, g4, g5, g6, g7⟩ := hf
  exact va_new C.1 C.2.1 C.2.2.2.2.1 g2 ty g3 C.2.2.2.1 (C.2.2.2.2.1 _ g4) (C.2.2.2.2.1 _ g5) (C.2.2.2.2.1 _ g6) C.2.2.2.2.2.1.1 hP hD hS (fun q hq => Nat.le_trans C.2.2.2.2.2.2.2.2.1 hq) g1 g7 (by omega) (by omega) hd (fun q H hP hD hS => k q p e R s m args below meth c H locs (cells + 1) (slots + n) Z ls CM SM C hret hP hD hS hl ⟨by omega, by omega, hc.2.2.1, hc.2.2.2⟩)
theorem sm_newI {at' : ArrayType} {n : Int32} {N : Nat} (hd : decode M.2.1 pc = .ok (.newarray at', 2)) (hty : newarray.typeOf at' = .int) (hw : Cond.arrayClass .int ∈ sm_tbl) (hn : ¬ n < 0) (hN : n.toNatClampNeg = N) (hb : N * componentBytes .int ≤ 536870912) (k : ∀ q : Nat, sm_S l D cy a0 M d Q (pc + 2) lv (.ref q :: st) (ws ++ [(q, .inl (cy 0, N, .inl (fun _ => 0)))]) cb sb) : sm_S l D cy a0 M d Q pc lv (.int n :: st) ws (cb + 1) (sb + N) := by
  intro p e R s m args below meth c H locs cells slots Z ls CM SM C hret hP hD hS hl hc
  refine va_newa (a0 := (N, .inl (fun _ => 0))) C.1 C.2.1 (by rw [hty]; exact C.2.2.2.2.1 _ hw) hty C.2.2.2.2.2.1.1 hP hD hS (fun q hq => Nat.le_trans C.2.2.2.2.2.2.2.2.1 hq) (fun cA => rfl) hn hN hb (by omega) (by omega) hd (fun q cA H hK hP hD hS => ?_)
  have e1 : cA = cy 0 := Option.some.inj ((hK.2 5 _ rfl).2.symm.trans (C.2.2.2.2.2.1.1.2 0 _ rfl).2)
  subst e1
  exact k q p e R s m args below meth c H locs (cells + 1) (slots + N) Z ls CM SM C hret hP hD hS hl ⟨by omega, by omega, hc.2.2.1, hc.2.2.2⟩
theorem sm_newJ {at' : ArrayType} {n : Int32} {N : Nat} (hd : decode M.2.1 pc = .ok (.newarray at', 2)) (hty : newarray.typeOf at' = .long) (hw : Cond.arrayClass .long ∈ sm_tbl) (hn : ¬ n < 0) (hN : n.toNatClampNeg = N) (hb : N * componentBytes .long ≤ 536870912) (k : ∀ q : Nat, sm_S l D cy a0 M d Q (pc + 2) lv (.ref q :: st) (ws ++ [(q, .inl (cy 1, N, .inr (.inl (fun _ => 0))))]) cb sb) : sm_S l D cy a0 M d Q pc lv (.int n :: st) ws (cb + 1) (sb + N) := by
  intro p e R s m args below meth c H locs cells slots Z ls CM SM C hret hP hD hS hl hc
  refine va_newa (a0 := (N, .inr (.inl (fun _ => 0)))) C.1 C.2.1 (by rw [hty]; exact C.2.2.2.2.1 _ hw) hty C.2.2.2.2.2.1.1 hP hD hS (fun q hq => Nat.le_trans C.2.2.2.2.2.2.2.2.1 hq) (fun cA => rfl) hn hN hb (by omega) (by omega) hd (fun q cA H hK hP hD hS => ?_)
  have e1 : cA = cy 1 := Option.some.inj ((hK.2 5 _ rfl).2.symm.trans (C.2.2.2.2.2.1.1.2 1 _ rfl).2)
  subst e1
  exact k q p e R s m args below meth c H locs (cells + 1) (slots + N) Z ls CM SM C hret hP hD hS hl ⟨by omega, by omega, hc.2.2.1, hc.2.2.2⟩
theorem sm_newZ {at' : ArrayType} {n : Int32} {N : Nat} (hd : decode M.2.1 pc = .ok (.newarray at', 2)) (hty : newarray.typeOf at' = .boolean) (hw : Cond.arrayClass .boolean ∈ sm_tbl) (hn : ¬ n < 0) (hN : n.toNatClampNeg = N) (hb : N * componentBytes .boolean ≤ 536870912) (k : ∀ q : Nat, sm_S l D cy a0 M d Q (pc + 2) lv (.ref q :: st) (ws ++ [(q, .inl (cy 2, N, .inl (fun _ => 0)))]) cb sb) : sm_S l D cy a0 M d Q pc lv (.int n :: st) ws (cb + 1) (sb + N) := by
  intro p e R s m args below meth c H locs cells slots Z ls CM SM C hret hP hD hS hl hc
  refine va_newa (a0 := (N, .inl (fun _ => 0))) C.1 C.2.1 (by rw [hty]; exact C.2.2.2.2.1 _ hw) hty C.2.2.2.2.2.1.1 hP hD hS (fun q hq => Nat.le_trans C.2.2.2.2.2.2.2.2.1 hq) (fun cA => rfl) hn hN hb (by omega) (by omega) hd (fun q cA H hK hP hD hS => ?_)
  have e1 : cA = cy 2 := Option.some.inj ((hK.2 5 _ rfl).2.symm.trans (C.2.2.2.2.2.1.1.2 2 _ rfl).2)
  subst e1
  exact k q p e R s m args below meth c H locs (cells + 1) (slots + N) Z ls CM SM C hret hP hD hS hl ⟨by omega, by omega, hc.2.2.1, hc.2.2.2⟩
theorem sm_newA {ix t : Nat} {C' : String} {n : Int32} {N : Nat} (hd : decode M.2.1 pc = .ok (.anewarray ix, 3)) (hw : Cond.classLink M.1.cls ix C' ∈ sm_tbl) (ho : ∀ U, sm_K D cy U → va_AO C' U) (ht : (sm_tys cy)[t]? = some (cy t, .object C')) (hn : ¬ n < 0) (hN : n.toNatClampNeg = N) (hb : N * 4 ≤ 536870912) (k : ∀ q : Nat, sm_S l D cy a0 M d Q (pc + 3) lv (.ref q :: st) (ws ++ [(q, .inl (cy t, N, .inr (.inr (.inr (.inr (fun _ => none))))))]) cb sb) : sm_S l D cy a0 M d Q pc lv (.int n :: st) ws (cb + 1) (sb + N) := by
  intro p e R s m args below meth c H locs cells slots Z ls CM SM C hret hP hD hS hl hc
  refine va_newq C.1 C.2.1 C.2.2.2.1 (C.2.2.2.2.1 _ hw) (ho s C.2.2.2.2.2.1) C.2.2.2.2.2.1.1 hP hD hS (fun q hq => Nat.le_trans C.2.2.2.2.2.2.2.2.1 hq) hn hN hb (by omega) (by omega) hd (fun q cA H hK hP hD hS => ?_)
  obtain ⟨-, -, -, -, -, h1⟩ := (hK.2 5 _ rfl).2
  obtain ⟨-, -, -, -, -, h2⟩ := (C.2.2.2.2.2.1.1.2 t _ ht).2
  have e1 : cA = cy t := Option.some.inj (h1.symm.trans h2)
  subst e1
  exact k q p e R s m args below meth c H locs (cells + 1) (slots + N) Z ls CM SM C hret hP hD hS hl ⟨by omega, by omega, hc.2.2.1, hc.2.2.2⟩
theorem sm_objInit {ix a d' : Nat} (hd : decode M.2.1 pc = .ok (.invokespecial ix, 3)) (h1 : Cond.methodLink M.1.cls ix Lib.objectInit ∈ sm_tbl) (h2 : Cond.instanceMethod Lib.objectInit ∈ sm_tbl) (h3 : Cond.code Lib.objectInit ⟨#[0xb1]⟩ 1 none ∈ sm_tbl) (hs : (st.map fun v => v.category).sum ≤ 8) (k : sm_S l D cy a0 M (d' + 1) Q (pc + 3) lv st ws cb sb) : sm_S l D cy a0 M (d' + 1) Q pc lv (.ref a :: st) ws cb sb := by
  intro p e R s m args below meth c H locs cells slots Z ls CM SM C hret hP hD hS hl hc
  obtain ⟨C1, C2, C3, C4, C5, C6, C7, C8, C9, C10⟩ := id C
  refine W.objInit C1 C2 C4 (C5 _ h1) (C5 _ h2) (C5 _ h3) rfl (by rw [C3]; exact hl.1) rfl hd (by omega) (by show 2 * 0 + _ + 12 ≤ _; omega) ?_
  exact k p e R s m args below meth c H locs cells slots Z ls CM SM C hret hP hD hS hl hc
end SC
