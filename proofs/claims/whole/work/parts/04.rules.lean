/-! a method: its name, code, number of locals, answer's type -/
abbrev sm_M : Type := MethodName × ByteArray × Nat × Option FieldType
def sm_tbl : List Cond := lw_tbl.filter goodWord
def sm_isn (w : Cond) : Option (String × Nat × MethodName × String) := match w with
  | .methodLinkNest a i x h => some (a, i, x, h)
  | _ => none
def sm_nw : List (String × Nat × MethodName × String) := lw_tbl.filterMap sm_isn
def sm_tys (cy : Nat → ClassId) : List (ClassId × FieldType) := [(cy 0, .int), (cy 1, .long), (cy 2, .boolean), (cy 3, .object RX6), (cy 4, .object RX5)]
abbrev sm_A (a0 : Nat) : Nat → Prop := fun q => a0 ≤ q
/-- what the tables say at a state, beside their words -/
def sm_K (D : va_G) (cy : Nat → ClassId) (U : State) : Prop := va_K D vwCl (sm_tys cy) U ∧ (∀ q ∈ sm_nw, va_Nw (.methodLinkNest q.1 q.2.1 q.2.2.1 q.2.2.2) U) ∧ va_AO RX6 U ∧ va_AO RX5 U
theorem sm_K.warm {D : va_G} {cy : Nat → ClassId} {s U : State} (hW : s.WarmedH U.vm) (h : sm_K D cy s) : sm_K D cy U := ⟨va_K.moved hW.alike h.1, fun q hq => va_Nw.warmM hW (h.2.1 q hq), va_AO.moved hW.alike h.2.2.1, va_AO.moved hW.alike h.2.2.2⟩
theorem sm_K.same {D : va_G} {cy : Nat → ClassId} {s U : State} (hv : s.vm = U.vm) (h : sm_K D cy s) : sm_K D cy U := ⟨va_K.moved (by rw [hv]; exact Vm.Alike.refl _) h.1, fun q hq => va_tabs rfl hv (h.2.1 q hq), va_AO.moved (by rw [hv]; exact Vm.Alike.refl _) h.2.2.1, va_AO.moved (by rw [hv]; exact Vm.Alike.refl _) h.2.2.2⟩
/-- a method's frame of reference -/
def sm_C (D : va_G) (cy : Nat → ClassId) (a0 : Nat) (M : sm_M) (d : Nat) (p : Program) (R : Room) (s : State) (m : MethodId) (args : Array Value) (meth : Method) (c : Code) : Prop :=
  p.tables.exec = Jvm.exec ∧ c.code = M.2.1 ∧ c.maxLocals = M.2.2.1 ∧ s.vm.findClass M.1.cls = some m.cls ∧ (∀ w ∈ sm_tbl, w.before args s = true) ∧ sm_K D cy s ∧ d ≤ R.frames ∧ 30 * d ≤ R.locals ∧ a0 ≤ s.heap.size ∧ (M.1.name = "<init>" → meth.name = "<init>")
/-- an instruction that ends a method with an answer -/
def sm_E (M : sm_M) (pc : Nat) (r : Option Value) : Prop := match r with
  | none => decode M.2.1 pc = .ok (.return_, 1) ∧ M.2.2.2 = none
  | some (.int v) => decode M.2.1 pc = .ok (.ireturn, 1) ∧ ∃ ty, M.2.2.2 = some ty ∧ narrow ty (.int v) = .int v
  | some (.long _) => decode M.2.1 pc = .ok (.lreturn, 1) ∧ M.2.2.2 = some .long
  | _ => False
/-- from here the method comes to its end, with an answer and cells of which Q holds; at most cb cells of sb slots are made -/
def sm_S (l : Launch) (D : va_G) (cy : Nat → ClassId) (a0 : Nat) (M : sm_M) (d : Nat) (Q : Option Value → va_W → Prop) (pc : Nat) (lv : List (Nat × Value)) (st : List Value) (ws : va_W) (cb sb : Nat) : Prop :=
  ∀ (p : Program) (e : Env) (R : Room) (s : State) (m : MethodId) (args : Array Value) (below : List Frame) (meth : Method) (c : Code) (H : Heap) (locs : List Loc) (cells slots : Nat) (Z : State → Prop) (ls : Array Slot) (CM SM : Nat),
    sm_C D cy a0 M d p R s m args meth c →
    (∀ (r : Option Value) (ws' : va_W) (H' : Heap) (locs' : List Loc) (cells' slots' pc' : Nat) (ls' : Array Slot), Q r ws' → sm_E M pc' r → va_P D vwCl ws' H' → va_D (sm_A a0) ws' → va_S (sm_A a0) s.heap H' locs' → cells' ≤ CM → slots' ≤ SM → W p l e R s m args below meth c H' locs' cells' slots' Z (F0 m pc' ls' r.toList)) →
    va_P D vwCl ws H → va_D (sm_A a0) ws → va_S (sm_A a0) s.heap H locs → lv_has ls M.2.2.1 lv → (cells + cb ≤ CM ∧ slots + sb ≤ SM ∧ CM ≤ R.cells ∧ SM ≤ R.slots) →
    W p l e R s m args below meth c H locs cells slots Z (F0 m pc ls st)
section SM
variable {l : Launch} {D : va_G} {cy : Nat → ClassId} {a0 : Nat} {M : sm_M} {d : Nat} {Q : Option Value → va_W → Prop} {pc : Nat} {lv : List (Nat × Value)} {st : List Value} {ws : va_W} {cb sb : Nat}
theorem sm_iconst {n : Int} {v : Int32} (hd : decode M.2.1 pc = .ok (.iconst n, 1)) (hv : Int32.ofInt n = v) (k : sm_S l D cy a0 M d Q (pc + 1) lv (.int v :: st) ws cb sb) : sm_S l D cy a0 M d Q pc lv st ws cb sb := by
  intro p e R s m args below meth c H locs cells slots Z ls CM SM C hret hP hD hS hl hc
  exact lv_iconst C.1 C.2.1 hd hv (k p e R s m args below meth c H locs cells slots Z ls CM SM C hret hP hD hS hl hc)
theorem sm_bipush {n : Int} {v : Int32} (hd : decode M.2.1 pc = .ok (.bipush n, 2)) (hv : (Int8.ofInt n).toInt32 = v) (k : sm_S l D cy a0 M d Q (pc + 2) lv (.int v :: st) ws cb sb) : sm_S l D cy a0 M d Q pc lv st ws cb sb := by
  intro p e R s m args below meth c H locs cells slots Z ls CM SM C hret hP hD hS hl hc
  exact lv_bipush C.1 C.2.1 hd hv (k p e R s m args below meth c H locs cells slots Z ls CM SM C hret hP hD hS hl hc)
theorem sm_sipush {n : Int} {v : Int32} (hd : decode M.2.1 pc = .ok (.sipush n, 3)) (hv : (Int16.ofInt n).toInt32 = v) (k : sm_S l D cy a0 M d Q (pc + 3) lv (.int v :: st) ws cb sb) : sm_S l D cy a0 M d Q pc lv st ws cb sb := by
  intro p e R s m args below meth c H locs cells slots Z ls CM SM C hret hP hD hS hl hc
  exact lv_sipush C.1 C.2.1 hd hv (k p e R s m args below meth c H locs cells slots Z ls CM SM C hret hP hD hS hl hc)
theorem sm_lconst {n : Fin 2} {v : Int64} (hd : decode M.2.1 pc = .ok (.lconst n, 1)) (hv : Int64.ofNat (n : Nat) = v) (k : sm_S l D cy a0 M d Q (pc + 1) lv (.long v :: st) ws cb sb) : sm_S l D cy a0 M d Q pc lv st ws cb sb := by
  intro p e R s m args below meth c H locs cells slots Z ls CM SM C hret hP hD hS hl hc
  exact lv_lconst C.1 C.2.1 hd hv (k p e R s m args below meth c H locs cells slots Z ls CM SM C hret hP hD hS hl hc)
theorem sm_ldc {ix : Nat} {v : Int32} (hd : decode M.2.1 pc = .ok (.ldc ix, 2)) (hw : Cond.constant M.1.cls ix v ∈ sm_tbl) (k : sm_S l D cy a0 M d Q (pc + 2) lv (.int v :: st) ws cb sb) : sm_S l D cy a0 M d Q pc lv st ws cb sb := by
  intro p e R s m args below meth c H locs cells slots Z ls CM SM C hret hP hD hS hl hc
  exact lv_ldc C.1 C.2.1 C.2.2.2.1 (C.2.2.2.2.1 _ hw) hd (k p e R s m args below meth c H locs cells slots Z ls CM SM C hret hP hD hS hl hc)
theorem sm_ldcw {ix : Nat} {v : Int32} (hd : decode M.2.1 pc = .ok (.ldc_w ix, 3)) (hw : Cond.constant M.1.cls ix v ∈ sm_tbl) (k : sm_S l D cy a0 M d Q (pc + 3) lv (.int v :: st) ws cb sb) : sm_S l D cy a0 M d Q pc lv st ws cb sb := by
  intro p e R s m args below meth c H locs cells slots Z ls CM SM C hret hP hD hS hl hc
  exact lv_ldcw C.1 C.2.1 C.2.2.2.1 (C.2.2.2.2.1 _ hw) hd (k p e R s m args below meth c H locs cells slots Z ls CM SM C hret hP hD hS hl hc)
theorem sm_ldc2 {ix : Nat} {v : Int64} (hd : decode M.2.1 pc = .ok (.ldc2_w ix, 3)) (hw : Cond.constantLong M.1.cls ix v ∈ sm_tbl) (k : sm_S l D cy a0 M d Q (pc + 3) lv (.long v :: st) ws cb sb) : sm_S l D cy a0 M d Q pc lv st ws cb sb := by
  intro p e R s m args below meth c H locs cells slots Z ls CM SM C hret hP hD hS hl hc
  exact lv_ldc2 C.1 C.2.1 C.2.2.2.1 (C.2.2.2.2.1 _ hw) hd (k p e R s m args below meth c H locs cells slots Z ls CM SM C hret hP hD hS hl hc)
theorem sm_iload_n {i : Fin 4} {v : Int32} (hd : decode M.2.1 pc = .ok (.iload_n i, 1)) (j : Nat) (hj : lv[j]? = some (i.val, .int v)) (k : sm_S l D cy a0 M d Q (pc + 1) lv (.int v :: st) ws cb sb) : sm_S l D cy a0 M d Q pc lv st ws cb sb := by
  intro p e R s m args below meth c H locs cells slots Z ls CM SM C hret hP hD hS hl hc
  exact lv_iload_n C.1 C.2.1 hd rfl (lv_at hl j hj) (k p e R s m args below meth c H locs cells slots Z ls CM SM C hret hP hD hS hl hc)
theorem sm_iload {i : Nat} {v : Int32} (hd : decode M.2.1 pc = .ok (.iload i, 2)) (j : Nat) (hj : lv[j]? = some (i, .int v)) (k : sm_S l D cy a0 M d Q (pc + 2) lv (.int v :: st) ws cb sb) : sm_S l D cy a0 M d Q pc lv st ws cb sb := by
  intro p e R s m args below meth c H locs cells slots Z ls CM SM C hret hP hD hS hl hc
  exact lv_iload C.1 C.2.1 hd (lv_at hl j hj) (k p e R s m args below meth c H locs cells slots Z ls CM SM C hret hP hD hS hl hc)
theorem sm_lload_n {i : Fin 4} {v : Int64} (hd : decode M.2.1 pc = .ok (.lload_n i, 1)) (j : Nat) (hj : lv[j]? = some (i.val, .long v)) (k : sm_S l D cy a0 M d Q (pc + 1) lv (.long v :: st) ws cb sb) : sm_S l D cy a0 M d Q pc lv st ws cb sb := by
  intro p e R s m args below meth c H locs cells slots Z ls CM SM C hret hP hD hS hl hc
  exact lv_lload_n C.1 C.2.1 hd rfl (lv_at hl j hj) (k p e R s m args below meth c H locs cells slots Z ls CM SM C hret hP hD hS hl hc)
theorem sm_lload {i : Nat} {v : Int64} (hd : decode M.2.1 pc = .ok (.lload i, 2)) (j : Nat) (hj : lv[j]? = some (i, .long v)) (k : sm_S l D cy a0 M d Q (pc + 2) lv (.long v :: st) ws cb sb) : sm_S l D cy a0 M d Q pc lv st ws cb sb := by
  intro p e R s m args below meth c H locs cells slots Z ls CM SM C hret hP hD hS hl hc
  exact lv_lload C.1 C.2.1 hd (lv_at hl j hj) (k p e R s m args below meth c H locs cells slots Z ls CM SM C hret hP hD hS hl hc)
theorem sm_aload_n {i : Fin 4} {v : Nat} (hd : decode M.2.1 pc = .ok (.aload_n i, 1)) (j : Nat) (hj : lv[j]? = some (i.val, .ref v)) (k : sm_S l D cy a0 M d Q (pc + 1) lv (.ref v :: st) ws cb sb) : sm_S l D cy a0 M d Q pc lv st ws cb sb := by
  intro p e R s m args below meth c H locs cells slots Z ls CM SM C hret hP hD hS hl hc
  exact lv_aload_n C.1 C.2.1 hd rfl (lv_at hl j hj) (k p e R s m args below meth c H locs cells slots Z ls CM SM C hret hP hD hS hl hc)
theorem sm_aload {i : Nat} {v : Nat} (hd : decode M.2.1 pc = .ok (.aload i, 2)) (j : Nat) (hj : lv[j]? = some (i, .ref v)) (k : sm_S l D cy a0 M d Q (pc + 2) lv (.ref v :: st) ws cb sb) : sm_S l D cy a0 M d Q pc lv st ws cb sb := by
  intro p e R s m args below meth c H locs cells slots Z ls CM SM C hret hP hD hS hl hc
  exact lv_aload C.1 C.2.1 hd (lv_at hl j hj) (k p e R s m args below meth c H locs cells slots Z ls CM SM C hret hP hD hS hl hc)
theorem sm_istore_n {i : Fin 4} {v : Int32} {lv' : List (Nat × Value)} (hd : decode M.2.1 pc = .ok (.istore_n i, 1)) (hn : i.val < M.2.2.1) (hf : (i.val, Value.int v) :: lv.filter (fun q => !(q.1 == i.val) && !(q.1 + 1 == i.val && q.2.category == 2)) = lv') (k : sm_S l D cy a0 M d Q (pc + 1) lv' st ws cb sb) : sm_S l D cy a0 M d Q pc lv (.int v :: st) ws cb sb := by
  intro p e R s m args below meth c H locs cells slots Z ls CM SM C hret hP hD hS hl hc
  exact lv_istore_n C.1 C.2.1 hd rfl hl hn hf (fun ls hl => k p e R s m args below meth c H locs cells slots Z ls CM SM C hret hP hD hS hl hc)
theorem sm_istore {i : Nat} {v : Int32} {lv' : List (Nat × Value)} (hd : decode M.2.1 pc = .ok (.istore i, 2)) (hn : i < M.2.2.1) (hf : (i, Value.int v) :: lv.filter (fun q => !(q.1 == i) && !(q.1 + 1 == i && q.2.category == 2)) = lv') (k : sm_S l D cy a0 M d Q (pc + 2) lv' st ws cb sb) : sm_S l D cy a0 M d Q pc lv (.int v :: st) ws cb sb := by
  intro p e R s m args below meth c H locs cells slots Z ls CM SM C hret hP hD hS hl hc
  exact lv_istore C.1 C.2.1 hd hl hn hf (fun ls hl => k p e R s m args below meth c H locs cells slots Z ls CM SM C hret hP hD hS hl hc)
theorem sm_lstore_n {i : Fin 4} {v : Int64} {lv' : List (Nat × Value)} (hd : decode M.2.1 pc = .ok (.lstore_n i, 1)) (hn : i.val + 1 < M.2.2.1) (hf : (i.val, Value.long v) :: lv.filter (fun q => !(q.1 == i.val) && (!(q.1 == i.val + 1) && !(q.1 + 1 == i.val && q.2.category == 2))) = lv') (k : sm_S l D cy a0 M d Q (pc + 1) lv' st ws cb sb) : sm_S l D cy a0 M d Q pc lv (.long v :: st) ws cb sb := by
  intro p e R s m args below meth c H locs cells slots Z ls CM SM C hret hP hD hS hl hc
  exact lv_lstore_n C.1 C.2.1 hd rfl hl hn hf (fun ls hl => k p e R s m args below meth c H locs cells slots Z ls CM SM C hret hP hD hS hl hc)
theorem sm_lstore {i : Nat} {v : Int64} {lv' : List (Nat × Value)} (hd : decode M.2.1 pc = .ok (.lstore i, 2)) (hn : i + 1 < M.2.2.1) (hf : (i, Value.long v) :: lv.filter (fun q => !(q.1 == i) && (!(q.1 == i + 1) && !(q.1 + 1 == i && q.2.category == 2))) = lv') (k : sm_S l D cy a0 M d Q (pc + 2) lv' st ws cb sb) : sm_S l D cy a0 M d Q pc lv (.long v :: st) ws cb sb := by
  intro p e R s m args below meth c H locs cells slots Z ls CM SM C hret hP hD hS hl hc
  exact lv_lstore C.1 C.2.1 hd hl hn hf (fun ls hl => k p e R s m args below meth c H locs cells slots Z ls CM SM C hret hP hD hS hl hc)
theorem sm_astore_n {i : Fin 4} {v : Nat} {lv' : List (Nat × Value)} (hd : decode M.2.1 pc = .ok (.astore_n i, 1)) (hn : i.val < M.2.2.1) (hf : (i.val, Value.ref v) :: lv.filter (fun q => !(q.1 == i.val) && !(q.1 + 1 == i.val && q.2.category == 2)) = lv') (k : sm_S l D cy a0 M d Q (pc + 1) lv' st ws cb sb) : sm_S l D cy a0 M d Q pc lv (.ref v :: st) ws cb sb := by
  intro p e R s m args below meth c H locs cells slots Z ls CM SM C hret hP hD hS hl hc
  exact lv_astore_n C.1 C.2.1 hd rfl hl hn hf (fun ls hl => k p e R s m args below meth c H locs cells slots Z ls CM SM C hret hP hD hS hl hc)
theorem sm_astore {i : Nat} {v : Nat} {lv' : List (Nat × Value)} (hd : decode M.2.1 pc = .ok (.astore i, 2)) (hn : i < M.2.2.1) (hf : (i, Value.ref v) :: lv.filter (fun q => !(q.1 == i) && !(q.1 + 1 == i && q.2.category == 2)) = lv') (k : sm_S l D cy a0 M d Q (pc + 2) lv' st ws cb sb) : sm_S l D cy a0 M d Q pc lv (.ref v :: st) ws cb sb := by
  intro p e R s m args below meth c H locs cells slots Z ls CM SM C hret hP hD hS hl hc
  exact lv_astore C.1 C.2.1 hd hl hn hf (fun ls hl => k p e R s m args below meth c H locs cells slots Z ls CM SM C hret hP hD hS hl hc)
theorem sm_iinc {i : Nat} {n : Int} {x v : Int32} {lv' : List (Nat × Value)} (hd : decode M.2.1 pc = .ok (.iinc i n, 3)) (j : Nat) (hj : lv[j]? = some (i, .int x)) (hv : x + Int32.ofInt n = v) (hn : i < M.2.2.1) (hf : (i, Value.int v) :: lv.filter (fun q => !(q.1 == i) && !(q.1 + 1 == i && q.2.category == 2)) = lv') (k : sm_S l D cy a0 M d Q (pc + 3) lv' st ws cb sb) : sm_S l D cy a0 M d Q pc lv st ws cb sb := by
  intro p e R s m args below meth c H locs cells slots Z ls CM SM C hret hP hD hS hl hc
  exact lv_iinc C.1 C.2.1 hd hl hj hv hn hf (fun ls hl => k p e R s m args below meth c H locs cells slots Z ls CM SM C hret hP hD hS hl hc)
theorem sm_iadd {x y : Int32} (hd : decode M.2.1 pc = .ok (.iadd, 1)) (k : sm_S l D cy a0 M d Q (pc + 1) lv (.int (x + y) :: st) ws cb sb) : sm_S l D cy a0 M d Q pc lv (.int y :: .int x :: st) ws cb sb := by
  intro p e R s m args below meth c H locs cells slots Z ls CM SM C hret hP hD hS hl hc
  exact lv_iadd C.1 C.2.1 hd (k p e R s m args below meth c H locs cells slots Z ls CM SM C hret hP hD hS hl hc)
theorem sm_isub {x y : Int32} (hd : decode M.2.1 pc = .ok (.isub, 1)) (k : sm_S l D cy a0 M d Q (pc + 1) lv (.int (x - y) :: st) ws cb sb) : sm_S l D cy a0 M d Q pc lv (.int y :: .int x :: st) ws cb sb := by
  intro p e R s m args below meth c H locs cells slots Z ls CM SM C hret hP hD hS hl hc
  exact lv_isub C.1 C.2.1 hd (k p e R s m args below meth c H locs cells slots Z ls CM SM C hret hP hD hS hl hc)
theorem sm_imul {x y : Int32} (hd : decode M.2.1 pc = .ok (.imul, 1)) (k : sm_S l D cy a0 M d Q (pc + 1) lv (.int (x * y) :: st) ws cb sb) : sm_S l D cy a0 M d Q pc lv (.int y :: .int x :: st) ws cb sb := by
  intro p e R s m args below meth c H locs cells slots Z ls CM SM C hret hP hD hS hl hc
  exact lv_imul C.1 C.2.1 hd (k p e R s m args below meth c H locs cells slots Z ls CM SM C hret hP hD hS hl hc)
theorem sm_iand {x y : Int32} (hd : decode M.2.1 pc = .ok (.iand, 1)) (k : sm_S l D cy a0 M d Q (pc + 1) lv (.int (x &&& y) :: st) ws cb sb) : sm_S l D cy a0 M d Q pc lv (.int y :: .int x :: st) ws cb sb := by
  intro p e R s m args below meth c H locs cells slots Z ls CM SM C hret hP hD hS hl hc
  exact lv_iand C.1 C.2.1 hd (k p e R s m args below meth c H locs cells slots Z ls CM SM C hret hP hD hS hl hc)
theorem sm_ior {x y : Int32} (hd : decode M.2.1 pc = .ok (.ior, 1)) (k : sm_S l D cy a0 M d Q (pc + 1) lv (.int (x ||| y) :: st) ws cb sb) : sm_S l D cy a0 M d Q pc lv (.int y :: .int x :: st) ws cb sb := by
  intro p e R s m args below meth c H locs cells slots Z ls CM SM C hret hP hD hS hl hc
  exact lv_ior C.1 C.2.1 hd (k p e R s m args below meth c H locs cells slots Z ls CM SM C hret hP hD hS hl hc)
theorem sm_ixor {x y : Int32} (hd : decode M.2.1 pc = .ok (.ixor, 1)) (k : sm_S l D cy a0 M d Q (pc + 1) lv (.int (x ^^^ y) :: st) ws cb sb) : sm_S l D cy a0 M d Q pc lv (.int y :: .int x :: st) ws cb sb := by
  intro p e R s m args below meth c H locs cells slots Z ls CM SM C hret hP hD hS hl hc
  exact lv_ixor C.1 C.2.1 hd (k p e R s m args below meth c H locs cells slots Z ls CM SM C hret hP hD hS hl hc)
theorem sm_ishl {x y : Int32} (hd : decode M.2.1 pc = .ok (.ishl, 1)) (k : sm_S l D cy a0 M d Q (pc + 1) lv (.int (x <<< (y &&& 31)) :: st) ws cb sb) : sm_S l D cy a0 M d Q pc lv (.int y :: .int x :: st) ws cb sb := by
  intro p e R s m args below meth c H locs cells slots Z ls CM SM C hret hP hD hS hl hc
  exact lv_ishl C.1 C.2.1 hd (k p e R s m args below meth c H locs cells slots Z ls CM SM C hret hP hD hS hl hc)
theorem sm_ishr {x y : Int32} (hd : decode M.2.1 pc = .ok (.ishr, 1)) (k : sm_S l D cy a0 M d Q (pc + 1) lv (.int (x >>> (y &&& 31)) :: st) ws cb sb) : sm_S l D cy a0 M d Q pc lv (.int y :: .int x :: st) ws cb sb := by
  intro p e R s m args below meth c H locs cells slots Z ls CM SM C hret hP hD hS hl hc
  exact lv_ishr C.1 C.2.1 hd (k p e R s m args below meth c H locs cells slots Z ls CM SM C hret hP hD hS hl hc)
theorem sm_idiv {x y : Int32} (hd : decode M.2.1 pc = .ok (.idiv, 1)) (hne : ¬ y = 0) (k : sm_S l D cy a0 M d Q (pc + 1) lv (.int (x / y) :: st) ws cb sb) : sm_S l D cy a0 M d Q pc lv (.int y :: .int x :: st) ws cb sb := by
  intro p e R s m args below meth c H locs cells slots Z ls CM SM C hret hP hD hS hl hc
  exact lv_idiv C.1 C.2.1 hd hne (k p e R s m args below meth c H locs cells slots Z ls CM SM C hret hP hD hS hl hc)
theorem sm_irem {x y : Int32} (hd : decode M.2.1 pc = .ok (.irem, 1)) (hne : ¬ y = 0) (k : sm_S l D cy a0 M d Q (pc + 1) lv (.int (x - x / y * y) :: st) ws cb sb) : sm_S l D cy a0 M d Q pc lv (.int y :: .int x :: st) ws cb sb := by
  intro p e R s m args below meth c H locs cells slots Z ls CM SM C hret hP hD hS hl hc
  exact lv_irem C.1 C.2.1 hd hne (k p e R s m args below meth c H locs cells slots Z ls CM SM C hret hP hD hS hl hc)
theorem sm_ladd {x y : Int64} (hd : decode M.2.1 pc = .ok (.ladd, 1)) (k : sm_S l D cy a0 M d Q (pc + 1) lv (.long (x + y) :: st) ws cb sb) : sm_S l D cy a0 M d Q pc lv (.long y :: .long x :: st) ws cb sb := by
  intro p e R s m args below meth c H locs cells slots Z ls CM SM C hret hP hD hS hl hc
  exact lv_ladd C.1 C.2.1 hd (k p e R s m args below meth c H locs cells slots Z ls CM SM C hret hP hD hS hl hc)
theorem sm_lsub {x y : Int64} (hd : decode M.2.1 pc = .ok (.lsub, 1)) (k : sm_S l D cy a0 M d Q (pc + 1) lv (.long (x - y) :: st) ws cb sb) : sm_S l D cy a0 M d Q pc lv (.long y :: .long x :: st) ws cb sb := by
  intro p e R s m args below meth c H locs cells slots Z ls CM SM C hret hP hD hS hl hc
  exact lv_lsub C.1 C.2.1 hd (k p e R s m args below meth c H locs cells slots Z ls CM SM C hret hP hD hS hl hc)
theorem sm_lmul {x y : Int64} (hd : decode M.2.1 pc = .ok (.lmul, 1)) (k : sm_S l D cy a0 M d Q (pc + 1) lv (.long (x * y) :: st) ws cb sb) : sm_S l D cy a0 M d Q pc lv (.long y :: .long x :: st) ws cb sb := by
  intro p e R s m args below meth c H locs cells slots Z ls CM SM C hret hP hD hS hl hc
  exact lv_lmul C.1 C.2.1 hd (k p e R s m args below meth c H locs cells slots Z ls CM SM C hret hP hD hS hl hc)
theorem sm_land {x y : Int64} (hd : decode M.2.1 pc = .ok (.land, 1)) (k : sm_S l D cy a0 M d Q (pc + 1) lv (.long (x &&& y) :: st) ws cb sb) : sm_S l D cy a0 M d Q pc lv (.long y :: .long x :: st) ws cb sb := by
  intro p e R s m args below meth c H locs cells slots Z ls CM SM C hret hP hD hS hl hc
  exact lv_land C.1 C.2.1 hd (k p e R s m args below meth c H locs cells slots Z ls CM SM C hret hP hD hS hl hc)
theorem sm_lor {x y : Int64} (hd : decode M.2.1 pc = .ok (.lor, 1)) (k : sm_S l D cy a0 M d Q (pc + 1) lv (.long (x ||| y) :: st) ws cb sb) : sm_S l D cy a0 M d Q pc lv (.long y :: .long x :: st) ws cb sb := by
  intro p e R s m args below meth c H locs cells slots Z ls CM SM C hret hP hD hS hl hc
  exact lv_lor C.1 C.2.1 hd (k p e R s m args below meth c H locs cells slots Z ls CM SM C hret hP hD hS hl hc)
theorem sm_ldiv {x y : Int64} (hd : decode M.2.1 pc = .ok (.ldiv, 1)) (hne : ¬ y = 0) (k : sm_S l D cy a0 M d Q (pc + 1) lv (.long (x / y) :: st) ws cb sb) : sm_S l D cy a0 M d Q pc lv (.long y :: .long x :: st) ws cb sb := by
  intro p e R s m args below meth c H locs cells slots Z ls CM SM C hret hP hD hS hl hc
  exact lv_ldiv C.1 C.2.1 hd hne (k p e R s m args below meth c H locs cells slots Z ls CM SM C hret hP hD hS hl hc)
theorem sm_lrem {x y : Int64} (hd : decode M.2.1 pc = .ok (.lrem, 1)) (hne : ¬ y = 0) (k : sm_S l D cy a0 M d Q (pc + 1) lv (.long (x - x / y * y) :: st) ws cb sb) : sm_S l D cy a0 M d Q pc lv (.long y :: .long x :: st) ws cb sb := by
  intro p e R s m args below meth c H locs cells slots Z ls CM SM C hret hP hD hS hl hc
  exact lv_lrem C.1 C.2.1 hd hne (k p e R s m args below meth c H locs cells slots Z ls CM SM C hret hP hD hS hl hc)
theorem sm_lneg {x : Int64} (hd : decode M.2.1 pc = .ok (.lneg, 1)) (k : sm_S l D cy a0 M d Q (pc + 1) lv (.long (-x) :: st) ws cb sb) : sm_S l D cy a0 M d Q pc lv (.long x :: st) ws cb sb := by
  intro p e R s m args below meth c H locs cells slots Z ls CM SM C hret hP hD hS hl hc
  exact lv_lneg C.1 C.2.1 hd (k p e R s m args below meth c H locs cells slots Z ls CM SM C hret hP hD hS hl hc)
theorem sm_i2l {x : Int32} (hd : decode M.2.1 pc = .ok (.i2l, 1)) (k : sm_S l D cy a0 M d Q (pc + 1) lv (.long x.toInt64 :: st) ws cb sb) : sm_S l D cy a0 M d Q pc lv (.int x :: st) ws cb sb := by
  intro p e R s m args below meth c H locs cells slots Z ls CM SM C hret hP hD hS hl hc
  exact lv_i2l C.1 C.2.1 hd rfl (k p e R s m args below meth c H locs cells slots Z ls CM SM C hret hP hD hS hl hc)
theorem sm_l2i {x : Int64} (hd : decode M.2.1 pc = .ok (.l2i, 1)) (k : sm_S l D cy a0 M d Q (pc + 1) lv (.int x.toInt32 :: st) ws cb sb) : sm_S l D cy a0 M d Q pc lv (.long x :: st) ws cb sb := by
  intro p e R s m args below meth c H locs cells slots Z ls CM SM C hret hP hD hS hl hc
  exact lv_l2i C.1 C.2.1 hd rfl (k p e R s m args below meth c H locs cells slots Z ls CM SM C hret hP hD hS hl hc)
theorem sm_i2b {x : Int32} (hd : decode M.2.1 pc = .ok (.i2b, 1)) (k : sm_S l D cy a0 M d Q (pc + 1) lv (.int x.toInt8.toInt32 :: st) ws cb sb) : sm_S l D cy a0 M d Q pc lv (.int x :: st) ws cb sb := by
  intro p e R s m args below meth c H locs cells slots Z ls CM SM C hret hP hD hS hl hc
  exact lv_i2b C.1 C.2.1 hd rfl (k p e R s m args below meth c H locs cells slots Z ls CM SM C hret hP hD hS hl hc)
theorem sm_iushr {x y : Int32} (hd : decode M.2.1 pc = .ok (.iushr, 1)) (k : sm_S l D cy a0 M d Q (pc + 1) lv (.int (x.toUInt32 >>> (y.toUInt32 &&& Int32.toUInt32 31)).toInt32 :: st) ws cb sb) : sm_S l D cy a0 M d Q pc lv (.int y :: .int x :: st) ws cb sb := by
  intro p e R s m args below meth c H locs cells slots Z ls CM SM C hret hP hD hS hl hc
  exact lv_iushr C.1 C.2.1 hd rfl (k p e R s m args below meth c H locs cells slots Z ls CM SM C hret hP hD hS hl hc)
theorem sm_lshl {x : Int64} {y : Int32} (hd : decode M.2.1 pc = .ok (.lshl, 1)) (k : sm_S l D cy a0 M d Q (pc + 1) lv (.long (x <<< (y.toInt64 &&& 63)) :: st) ws cb sb) : sm_S l D cy a0 M d Q pc lv (.int y :: .long x :: st) ws cb sb := by
  intro p e R s m args below meth c H locs cells slots Z ls CM SM C hret hP hD hS hl hc
  exact lv_lshl C.1 C.2.1 hd rfl (k p e R s m args below meth c H locs cells slots Z ls CM SM C hret hP hD hS hl hc)
theorem sm_lcmp {x y : Int64} (hd : decode M.2.1 pc = .ok (.lcmp, 1)) (k : sm_S l D cy a0 M d Q (pc + 1) lv (.int (lg_cmp x y) :: st) ws cb sb) : sm_S l D cy a0 M d Q pc lv (.long y :: .long x :: st) ws cb sb := by
  intro p e R s m args below meth c H locs cells slots Z ls CM SM C hret hP hD hS hl hc
  exact W.lcmp C.1 C.2.1 hd (k p e R s m args below meth c H locs cells slots Z ls CM SM C hret hP hD hS hl hc)
theorem sm_dup {va : Value} (hd : decode M.2.1 pc = .ok (.dup, 1)) (ha : va.category = 1) (k : sm_S l D cy a0 M d Q (pc + 1) lv (va :: va :: st) ws cb sb) : sm_S l D cy a0 M d Q pc lv (va :: st) ws cb sb := by
  intro p e R s m args below meth c H locs cells slots Z ls CM SM C hret hP hD hS hl hc
  exact lv_dup C.1 C.2.1 hd ha (k p e R s m args below meth c H locs cells slots Z ls CM SM C hret hP hD hS hl hc)
theorem sm_dup2 {va vb : Value} (hd : decode M.2.1 pc = .ok (.dup2, 1)) (ha : va.category = 1) (hb : vb.category = 1) (k : sm_S l D cy a0 M d Q (pc + 1) lv (va :: vb :: va :: vb :: st) ws cb sb) : sm_S l D cy a0 M d Q pc lv (va :: vb :: st) ws cb sb := by
  intro p e R s m args below meth c H locs cells slots Z ls CM SM C hret hP hD hS hl hc
  exact lv_dup2_11 C.1 C.2.1 hd ha hb (k p e R s m args below meth c H locs cells slots Z ls CM SM C hret hP hD hS hl hc)
theorem sm_if_eq {x : Int32} {off : Int} (tgt : Nat) (hd : decode M.2.1 pc = .ok (.ifCond .eq off, 3)) (ht : (pc : Int) + off = (tgt : Int)) (kt : x = 0 → sm_S l D cy a0 M d Q tgt lv st ws cb sb) (kf : ¬ x = 0 → sm_S l D cy a0 M d Q (pc + 3) lv st ws cb sb) : sm_S l D cy a0 M d Q pc lv (.int x :: st) ws cb sb := by
  intro p e R s m args below meth c H locs cells slots Z ls CM SM C hret hP hD hS hl hc
  exact lv_if_eq C.1 C.2.1 hd ht (fun h9 => kt h9 p e R s m args below meth c H locs cells slots Z ls CM SM C hret hP hD hS hl hc) (fun h9 => kf h9 p e R s m args below meth c H locs cells slots Z ls CM SM C hret hP hD hS hl hc)
theorem sm_if_ne {x : Int32} {off : Int} (tgt : Nat) (hd : decode M.2.1 pc = .ok (.ifCond .ne off, 3)) (ht : (pc : Int) + off = (tgt : Int)) (kt : ¬ x = 0 → sm_S l D cy a0 M d Q tgt lv st ws cb sb) (kf : x = 0 → sm_S l D cy a0 M d Q (pc + 3) lv st ws cb sb) : sm_S l D cy a0 M d Q pc lv (.int x :: st) ws cb sb := by
  intro p e R s m args below meth c H locs cells slots Z ls CM SM C hret hP hD hS hl hc
  exact lv_if_ne C.1 C.2.1 hd ht (fun h9 => kt h9 p e R s m args below meth c H locs cells slots Z ls CM SM C hret hP hD hS hl hc) (fun h9 => kf h9 p e R s m args below meth c H locs cells slots Z ls CM SM C hret hP hD hS hl hc)
theorem sm_if_lt {x : Int32} {off : Int} (tgt : Nat) (hd : decode M.2.1 pc = .ok (.ifCond .lt off, 3)) (ht : (pc : Int) + off = (tgt : Int)) (kt : x < 0 → sm_S l D cy a0 M d Q tgt lv st ws cb sb) (kf : ¬ x < 0 → sm_S l D cy a0 M d Q (pc + 3) lv st ws cb sb) : sm_S l D cy a0 M d Q pc lv (.int x :: st) ws cb sb := by
  intro p e R s m args below meth c H locs cells slots Z ls CM SM C hret hP hD hS hl hc
  exact lv_if_lt C.1 C.2.1 hd ht (fun h9 => kt h9 p e R s m args below meth c H locs cells slots Z ls CM SM C hret hP hD hS hl hc) (fun h9 => kf h9 p e R s m args below meth c H locs cells slots Z ls CM SM C hret hP hD hS hl hc)
theorem sm_if_ge {x : Int32} {off : Int} (tgt : Nat) (hd : decode M.2.1 pc = .ok (.ifCond .ge off, 3)) (ht : (pc : Int) + off = (tgt : Int)) (kt : 0 ≤ x → sm_S l D cy a0 M d Q tgt lv st ws cb sb) (kf : ¬ 0 ≤ x → sm_S l D cy a0 M d Q (pc + 3) lv st ws cb sb) : sm_S l D cy a0 M d Q pc lv (.int x :: st) ws cb sb := by
  intro p e R s m args below meth c H locs cells slots Z ls CM SM C hret hP hD hS hl hc
  exact lv_if_ge C.1 C.2.1 hd ht (fun h9 => kt h9 p e R s m args below meth c H locs cells slots Z ls CM SM C hret hP hD hS hl hc) (fun h9 => kf h9 p e R s m args below meth c H locs cells slots Z ls CM SM C hret hP hD hS hl hc)
theorem sm_if_gt {x : Int32} {off : Int} (tgt : Nat) (hd : decode M.2.1 pc = .ok (.ifCond .gt off, 3)) (ht : (pc : Int) + off = (tgt : Int)) (kt : 0 < x → sm_S l D cy a0 M d Q tgt lv st ws cb sb) (kf : ¬ 0 < x → sm_S l D cy a0 M d Q (pc + 3) lv st ws cb sb) : sm_S l D cy a0 M d Q pc lv (.int x :: st) ws cb sb := by
  intro p e R s m args below meth c H locs cells slots Z ls CM SM C hret hP hD hS hl hc
  exact lv_if_gt C.1 C.2.1 hd ht (fun h9 => kt h9 p e R s m args below meth c H locs cells slots Z ls CM SM C hret hP hD hS hl hc) (fun h9 => kf h9 p e R s m args below meth c H locs cells slots Z ls CM SM C hret hP hD hS hl hc)
theorem sm_if_le {x : Int32} {off : Int} (tgt : Nat) (hd : decode M.2.1 pc = .ok (.ifCond .le off, 3)) (ht : (pc : Int) + off = (tgt : Int)) (kt : x ≤ 0 → sm_S l D cy a0 M d Q tgt lv st ws cb sb) (kf : ¬ x ≤ 0 → sm_S l D cy a0 M d Q (pc + 3) lv st ws cb sb) : sm_S l D cy a0 M d Q pc lv (.int x :: st) ws cb sb := by
  intro p e R s m args below meth c H locs cells slots Z ls CM SM C hret hP hD hS hl hc
  exact lv_if_le C.1 C.2.1 hd ht (fun h9 => kt h9 p e R s m args below meth c H locs cells slots Z ls CM SM C hret hP hD hS hl hc) (fun h9 => kf h9 p e R s m args below meth c H locs cells slots Z ls CM SM C hret hP hD hS hl hc)
theorem sm_icmp_eq {x y : Int32} {off : Int} (tgt : Nat) (hd : decode M.2.1 pc = .ok (.if_icmp .eq off, 3)) (ht : (pc : Int) + off = (tgt : Int)) (kt : x = y → sm_S l D cy a0 M d Q tgt lv st ws cb sb) (kf : ¬ x = y → sm_S l D cy a0 M d Q (pc + 3) lv st ws cb sb) : sm_S l D cy a0 M d Q pc lv (.int y :: .int x :: st) ws cb sb := by
  intro p e R s m args below meth c H locs cells slots Z ls CM SM C hret hP hD hS hl hc
  exact lv_icmp_eq C.1 C.2.1 hd ht (fun h9 => kt h9 p e R s m args below meth c H locs cells slots Z ls CM SM C hret hP hD hS hl hc) (fun h9 => kf h9 p e R s m args below meth c H locs cells slots Z ls CM SM C hret hP hD hS hl hc)
theorem sm_icmp_ne {x y : Int32} {off : Int} (tgt : Nat) (hd : decode M.2.1 pc = .ok (.if_icmp .ne off, 3)) (ht : (pc : Int) + off = (tgt : Int)) (kt : ¬ x = y → sm_S l D cy a0 M d Q tgt lv st ws cb sb) (kf : x = y → sm_S l D cy a0 M d Q (pc + 3) lv st ws cb sb) : sm_S l D cy a0 M d Q pc lv (.int y :: .int x :: st) ws cb sb := by
  intro p e R s m args below meth c H locs cells slots Z ls CM SM C hret hP hD hS hl hc
  exact lv_icmp_ne C.1 C.2.1 hd ht (fun h9 => kt h9 p e R s m args below meth c H locs cells slots Z ls CM SM C hret hP hD hS hl hc) (fun h9 => kf h9 p e R s m args below meth c H locs cells slots Z ls CM SM C hret hP hD hS hl hc)
theorem sm_icmp_lt {x y : Int32} {off : Int} (tgt : Nat) (hd : decode M.2.1 pc = .ok (.if_icmp .lt off, 3)) (ht : (pc : Int) + off = (tgt : Int)) (kt : x < y → sm_S l D cy a0 M d Q tgt lv st ws cb sb) (kf : ¬ x < y → sm_S l D cy a0 M d Q (pc + 3) lv st ws cb sb) : sm_S l D cy a0 M d Q pc lv (.int y :: .int x :: st) ws cb sb := by
  intro p e R s m args below meth c H locs cells slots Z ls CM SM C hret hP hD hS hl hc
  exact lv_icmp_lt C.1 C.2.1 hd ht (fun h9 => kt h9 p e R s m args below meth c H locs cells slots Z ls CM SM C hret hP hD hS hl hc) (fun h9 => kf h9 p e R s m args below meth c H locs cells slots Z ls CM SM C hret hP hD hS hl hc)
theorem sm_icmp_ge {x y : Int32} {off : Int} (tgt : Nat) (hd : decode M.2.1 pc = .ok (.if_icmp .ge off, 3)) (ht : (pc : Int) + off = (tgt : Int)) (kt : y ≤ x → sm_S l D cy a0 M d Q tgt lv st ws cb sb) (kf : ¬ y ≤ x → sm_S l D cy a0 M d Q (pc + 3) lv st ws cb sb) : sm_S l D cy a0 M d Q pc lv (.int y :: .int x :: st) ws cb sb := by
  intro p e R s m args below meth c H locs cells slots Z ls CM SM C hret hP hD hS hl hc
  exact lv_icmp_ge C.1 C.2.1 hd ht (fun h9 => kt h9 p e R s m args below meth c H locs cells slots Z ls CM SM C hret hP hD hS hl hc) (fun h9 => kf h9 p e R s m args below meth c H locs cells slots Z ls CM SM C hret hP hD hS hl hc)
theorem sm_icmp_gt {x y : Int32} {off : Int} (tgt : Nat) (hd : decode M.2.1 pc = .ok (.if_icmp .gt off, 3)) (ht : (pc : Int) + off = (tgt : Int)) (kt : y < x → sm_S l D cy a0 M d Q tgt lv st ws cb sb) (kf : ¬ y < x → sm_S l D cy a0 M d Q (pc + 3) lv st ws cb sb) : sm_S l D cy a0 M d Q pc lv (.int y :: .int x :: st) ws cb sb := by
  intro p e R s m args below meth c H locs cells slots Z ls CM SM C hret hP hD hS hl hc
  exact lv_icmp_gt C.1 C.2.1 hd ht (fun h9 => kt h9 p e R s m args below meth c H locs cells slots Z ls CM SM C hret hP hD hS hl hc) (fun h9 => kf h9 p e R s m args below meth c H locs cells slots Z ls CM SM C hret hP hD hS hl hc)
theorem sm_icmp_le {x y : Int32} {off : Int} (tgt : Nat) (hd : decode M.2.1 pc = .ok (.if_icmp .le off, 3)) (ht : (pc : Int) + off = (tgt : Int)) (kt : x ≤ y → sm_S l D cy a0 M d Q tgt lv st ws cb sb) (kf : ¬ x ≤ y → sm_S l D cy a0 M d Q (pc + 3) lv st ws cb sb) : sm_S l D cy a0 M d Q pc lv (.int y :: .int x :: st) ws cb sb := by
  intro p e R s m args below meth c H locs cells slots Z ls CM SM C hret hP hD hS hl hc
  exact lv_icmp_le C.1 C.2.1 hd ht (fun h9 => kt h9 p e R s m args below meth c H locs cells slots Z ls CM SM C hret hP hD hS hl hc) (fun h9 => kf h9 p e R s m args below meth c H locs cells slots Z ls CM SM C hret hP hD hS hl hc)
theorem sm_goto {off : Int} (tgt : Nat) (hd : decode M.2.1 pc = .ok (.goto off, 3)) (ht : (pc : Int) + off = (tgt : Int)) (k : sm_S l D cy a0 M d Q tgt lv st ws cb sb) : sm_S l D cy a0 M d Q pc lv st ws cb sb := by
  intro p e R s m args below meth c H locs cells slots Z ls CM SM C hret hP hD hS hl hc
  exact lv_goto C.1 C.2.1 hd ht (k p e R s m args below meth c H locs cells slots Z ls CM SM C hret hP hD hS hl hc)
theorem sm_tableOut {dflt lo hi : Int} {offs : Array Int} {len : Nat} {x : Int32} (tgt : Nat) (hd : decode M.2.1 pc = .ok (.tableswitch dflt lo hi offs, len)) (h : x.toInt < lo ∨ hi < x.toInt) (ht : (pc : Int) + dflt = (tgt : Int)) (k : sm_S l D cy a0 M d Q tgt lv st ws cb sb) : sm_S l D cy a0 M d Q pc lv (.int x :: st) ws cb sb := by
  intro p e R s m args below meth c H locs cells slots Z ls CM SM C hret hP hD hS hl hc
  exact lv_tableOut C.1 C.2.1 hd h ht (k p e R s m args below meth c H locs cells slots Z ls CM SM C hret hP hD hS hl hc)
theorem sm_tableIn {dflt lo hi : Int} {offs : Array Int} {len : Nat} {x : Int32} {off : Int} (tgt : Nat) (hd : decode M.2.1 pc = .ok (.tableswitch dflt lo hi offs, len)) (h1 : ¬ x.toInt < lo) (h2 : ¬ hi < x.toInt) (ho : offs[(x.toInt - lo).toNat]? = some off) (ht : (pc : Int) + off = (tgt : Int)) (k : sm_S l D cy a0 M d Q tgt lv st ws cb sb) : sm_S l D cy a0 M d Q pc lv (.int x :: st) ws cb sb := by
  intro p e R s m args below meth c H locs cells slots Z ls CM SM C hret hP hD hS hl hc
  exact lv_tableIn C.1 C.2.1 hd h1 h2 ho ht (k p e R s m args below meth c H locs cells slots Z ls CM SM C hret hP hD hS hl hc)
theorem sm_lookup {dflt : Int} {ps : Array (Int × Int)} {len : Nat} {x : Int32} {off : Int} (tgt : Nat) (hd : decode M.2.1 pc = .ok (.lookupswitch dflt ps, len)) (hp : (ps.toList.zip (ps.toList.drop 1)).all (fun (a, next) => a.1 < next.1) = true) (ho : Op.lookupswitch.offset ps.toList dflt x.toInt = off) (ht : (pc : Int) + off = (tgt : Int)) (k : sm_S l D cy a0 M d Q tgt lv st ws cb sb) : sm_S l D cy a0 M d Q pc lv (.int x :: st) ws cb sb := by
  intro p e R s m args below meth c H locs cells slots Z ls CM SM C hret hP hD hS hl hc
  exact lv_lookup C.1 C.2.1 hd hp ho ht (k p e R s m args below meth c H locs cells slots Z ls CM SM C hret hP hD hS hl hc)
theorem sm_sub {lv' : List (Nat × Value)} (ks : List Nat) (hf : lv_pick lv ks = lv') (k : sm_S l D cy a0 M d Q pc lv' st ws cb sb) : sm_S l D cy a0 M d Q pc lv st ws cb sb := by
  intro p e R s m args below meth c H locs cells slots Z ls CM SM C hret hP hD hS hl hc
  exact k p e R s m args below meth c H locs cells slots Z ls CM SM C hret hP hD hS (lv_sub hl ks hf) hc
theorem sm_budget {cb' sb' : Nat} (h1 : cb' ≤ cb) (h2 : sb' ≤ sb) (k : sm_S l D cy a0 M d Q pc lv st ws cb' sb') : sm_S l D cy a0 M d Q pc lv st ws cb sb := by
  intro p e R s m args below meth c H locs cells slots Z ls CM SM C hret hP hD hS hl hc
  exact k p e R s m args below meth c H locs cells slots Z ls CM SM C hret hP hD hS hl ⟨by omega, by omega, hc.2.2.1, hc.2.2.2⟩
theorem sm_iret {v : Int32} {ty : FieldType} (hd : decode M.2.1 pc = .ok (.ireturn, 1)) (hr : M.2.2.2 = some ty) (hn : narrow ty (.int v) = .int v) (hq : Q (some (.int v)) ws) : sm_S l D cy a0 M d Q pc lv [.int v] ws cb sb := by
  intro p e R s m args below meth c H locs cells slots Z ls CM SM C hret hP hD hS hl hc
  exact hret (some (.int v)) ws H locs cells slots pc ls hq ⟨hd, ty, hr, hn⟩ hP hD hS (by omega) (by omega)
theorem sm_lret {v : Int64} (hd : decode M.2.1 pc = .ok (.lreturn, 1)) (hr : M.2.2.2 = some .long) (hq : Q (some (.long v)) ws) : sm_S l D cy a0 M d Q pc lv [.long v] ws cb sb := by
  intro p e R s m args below meth c H locs cells slots Z ls CM SM C hret hP hD hS hl hc
  exact hret (some (.long v)) ws H locs cells slots pc ls hq ⟨hd, hr⟩ hP hD hS (by omega) (by omega)
theorem sm_vret (hd : decode M.2.1 pc = .ok (.return_, 1)) (hr : M.2.2.2 = none) (hq : Q none ws) : sm_S l D cy a0 M d Q pc lv [] ws cb sb := by
  intro p e R s m args below meth c H locs cells slots Z ls CM SM C hret hP hD hS hl hc
  exact hret none ws H locs cells slots pc ls hq ⟨hd, hr⟩ hP hD hS (by omega) (by omega)
theorem sm_mono {Q' : Option Value → va_W → Prop} (hq : ∀ r w, Q r w → Q' r w) (k : sm_S l D cy a0 M d Q pc lv st ws cb sb) : sm_S l D cy a0 M d Q' pc lv st ws cb sb := by
  intro p e R s m args below meth c H locs cells slots Z ls CM SM C hret hP hD hS hl hc
  exact k p e R s m args below meth c H locs cells slots Z ls CM SM C (fun r ws' H' locs' cells' slots' pc' ls' h => hret r ws' H' locs' cells' slots' pc' ls' (hq r ws' h)) hP hD hS hl hc
theorem sm_min {ix : Nat} {x y : Int64} {d' : Nat} (hd : decode M.2.1 pc = .ok (.invokestatic ix, 3)) (hw : Cond.methodLink M.1.cls ix Lib.MathLoose.min_long.x ∈ sm_tbl) (h1 : Cond.static Lib.MathLoose.min_long.x ∈ sm_tbl) (h2 : Cond.initialized "java/lang/Math" ∈ sm_tbl) (h3 : Cond.code Lib.MathLoose.min_long.x Lib.MathLoose.min_long.code 4 (some .long) ∈ sm_tbl) (hs : (st.map fun v => v.category).sum ≤ 8) (k : sm_S l D cy a0 M (d' + 1) Q (pc + 3) lv (.long (if y < x then y else x) :: st) ws cb sb) : sm_S l D cy a0 M (d' + 1) Q pc lv (.long y :: .long x :: st) ws cb sb := by
  intro p e R s m args below meth c H locs cells slots Z ls CM SM C hret hP hD hS hl hc
  obtain ⟨C1, C2, C3, C4, C5, C6, C7, C8, C9, C10⟩ := id C
  exact va_mmin_long C1 C2 (C3.trans hl.1.symm) C4 (C5 _ hw) (C5 _ h1) (C5 _ h2) (C5 _ h3) (by omega) (by omega) (by omega) (by omega) hd (k p e R s m args below meth c H locs cells slots Z ls CM SM C hret hP hD hS hl hc)
theorem sm_max {ix : Nat} {x y : Int64} {d' : Nat} (hd : decode M.2.1 pc = .ok (.invokestatic ix, 3)) (hw : Cond.methodLink M.1.cls ix Lib.MathLoose.max_long.x ∈ sm_tbl) (h1 : Cond.static Lib.MathLoose.max_long.x ∈ sm_tbl) (h2 : Cond.initialized "java/lang/Math" ∈ sm_tbl) (h3 : Cond.code Lib.MathLoose.max_long.x Lib.MathLoose.max_long.code 4 (some .long) ∈ sm_tbl) (hs : (st.map fun v => v.category).sum ≤ 8) (k : sm_S l D cy a0 M (d' + 1) Q (pc + 3) lv (.long (if y < x then x else y) :: st) ws cb sb) : sm_S l D cy a0 M (d' + 1) Q pc lv (.long y :: .long x :: st) ws cb sb := by
  intro p e R s m args below meth c H locs cells slots Z ls CM SM C hret hP hD hS hl hc
  obtain ⟨C1, C2, C3, C4, C5, C6, C7, C8, C9, C10⟩ := id C
  exact va_mmax_long C1 C2 (C3.trans hl.1.symm) C4 (C5 _ hw) (C5 _ h1) (C5 _ h2) (C5 _ h3) (by omega) (by omega) (by omega) (by omega) hd (k p e R s m args below meth c H locs cells slots Z ls CM SM C hret hP hD hS hl hc)
end SM
