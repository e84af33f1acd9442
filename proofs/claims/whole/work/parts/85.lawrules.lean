/-! the law: walked beside its script -/
def ly_X (bs Ls : Nat) (xss : Nat → Int32) (a0 : Nat) (s : State) : Prop := va_X bs Ls xss s s.heap ∧ bs < s.heap.size ∧ ¬ sm_A a0 bs
def ly_S (bs Ls : Nat) (xss : Nat → Int32) (l : Launch) (D : va_G) (cy : Nat → ClassId) (a0 : Nat) (M : sm_M) (d : Nat) (Q : Option Value → va_W → Prop) (pc : Nat) (lv : List (Nat × Value)) (st : List Value) (ws : va_W) (cb sb : Nat) : Prop :=
  ∀ (p : Program) (e : Env) (R : Room) (s : State) (m : MethodId) (args : Array Value) (below : List Frame) (meth : Method) (c : Code) (H : Heap) (locs : List Loc) (cells slots : Nat) (Z : State → Prop) (ls : Array Slot) (CM SM : Nat),
    sm_C D cy a0 M d p R s m args meth c → ly_X bs Ls xss a0 s →
    (∀ (r : Option Value) (ws' : va_W) (H' : Heap) (locs' : List Loc) (cells' slots' pc' : Nat) (ls' : Array Slot), Q r ws' → sm_E M pc' r → va_P D vwCl ws' H' → va_D (sm_A a0) ws' → va_S (sm_A a0) s.heap H' locs' → cells' ≤ CM → slots' ≤ SM → W p l e R s m args below meth c H' locs' cells' slots' Z (F0 m pc' ls' r.toList)) →
    va_P D vwCl ws H → va_D (sm_A a0) ws → va_S (sm_A a0) s.heap H locs → lv_has ls M.2.2.1 lv → (cells + cb ≤ CM ∧ slots + sb ≤ SM ∧ CM ≤ R.cells ∧ SM ≤ R.slots) →
    W p l e R s m args below meth c H locs cells slots Z (F0 m pc ls st)
section LY
variable {bs Ls : Nat} {xss : Nat → Int32} {l : Launch} {D : va_G} {cy : Nat → ClassId} {a0 : Nat} {M M' : sm_M} {d : Nat} {Q post : Option Value → va_W → Prop} {pc : Nat} {lv : List (Nat × Value)} {As rest st : List Value} {ws : va_W} {cb sb mc ms ix n : Nat}
theorem ly_iconst {n : Int} {v : Int32} (hd : decode M.2.1 pc = .ok (.iconst n, 1)) (hv : Int32.ofInt n = v) (k : ly_S bs Ls xss l D cy a0 M d Q (pc + 1) lv (.int v :: st) ws cb sb) : ly_S bs Ls xss l D cy a0 M d Q pc lv st ws cb sb := by
  intro p e R s m args below meth c H locs cells slots Z ls CM SM C hx hret hP hD hS hl hc
  exact lv_iconst C.1 C.2.1 hd hv (k p e R s m args below meth c H locs cells slots Z ls CM SM C hx hret hP hD hS hl hc)
theorem ly_bipush {n : Int} {v : Int32} (hd : decode M.2.1 pc = .ok (.bipush n, 2)) (hv : (Int8.ofInt n).toInt32 = v) (k : ly_S bs Ls xss l D cy a0 M d Q (pc + 2) lv (.int v :: st) ws cb sb) : ly_S bs Ls xss l D cy a0 M d Q pc lv st ws cb sb := by
  intro p e R s m args below meth c H locs cells slots Z ls CM SM C hx hret hP hD hS hl hc
  exact lv_bipush C.1 C.2.1 hd hv (k p e R s m args below meth c H locs cells slots Z ls CM SM C hx hret hP hD hS hl hc)
theorem ly_ldc2 {ix : Nat} {v : Int64} (hd : decode M.2.1 pc = .ok (.ldc2_w ix, 3)) (hw : Cond.constantLong M.1.cls ix v ∈ sm_tbl) (k : ly_S bs Ls xss l D cy a0 M d Q (pc + 3) lv (.long v :: st) ws cb sb) : ly_S bs Ls xss l D cy a0 M d Q pc lv st ws cb sb := by
  intro p e R s m args below meth c H locs cells slots Z ls CM SM C hx hret hP hD hS hl hc
  exact lv_ldc2 C.1 C.2.1 C.2.2.2.1 (C.2.2.2.2.1 _ hw) hd (k p e R s m args below meth c H locs cells slots Z ls CM SM C hx hret hP hD hS hl hc)
theorem ly_iload_n {i : Fin 4} {v : Int32} (hd : decode M.2.1 pc = .ok (.iload_n i, 1)) (j : Nat) (hj : lv[j]? = some (i.val, .int v)) (k : ly_S bs Ls xss l D cy a0 M d Q (pc + 1) lv (.int v :: st) ws cb sb) : ly_S bs Ls xss l D cy a0 M d Q pc lv st ws cb sb := by
  intro p e R s m args below meth c H locs cells slots Z ls CM SM C hx hret hP hD hS hl hc
  exact lv_iload_n C.1 C.2.1 hd rfl (lv_at hl j hj) (k p e R s m args below meth c H locs cells slots Z ls CM SM C hx hret hP hD hS hl hc)
theorem ly_aload_n {i : Fin 4} {v : Nat} (hd : decode M.2.1 pc = .ok (.aload_n i, 1)) (j : Nat) (hj : lv[j]? = some (i.val, .ref v)) (k : ly_S bs Ls xss l D cy a0 M d Q (pc + 1) lv (.ref v :: st) ws cb sb) : ly_S bs Ls xss l D cy a0 M d Q pc lv st ws cb sb := by
  intro p e R s m args below meth c H locs cells slots Z ls CM SM C hx hret hP hD hS hl hc
  exact lv_aload_n C.1 C.2.1 hd rfl (lv_at hl j hj) (k p e R s m args below meth c H locs cells slots Z ls CM SM C hx hret hP hD hS hl hc)
theorem ly_istore_n {i : Fin 4} {v : Int32} {lv' : List (Nat × Value)} (hd : decode M.2.1 pc = .ok (.istore_n i, 1)) (hn : i.val < M.2.2.1) (hf : (i.val, Value.int v) :: lv.filter (fun q => !(q.1 == i.val) && !(q.1 + 1 == i.val && q.2.category == 2)) = lv') (k : ly_S bs Ls xss l D cy a0 M d Q (pc + 1) lv' st ws cb sb) : ly_S bs Ls xss l D cy a0 M d Q pc lv (.int v :: st) ws cb sb := by
  intro p e R s m args below meth c H locs cells slots Z ls CM SM C hx hret hP hD hS hl hc
  exact lv_istore_n C.1 C.2.1 hd rfl hl hn hf (fun ls hl => k p e R s m args below meth c H locs cells slots Z ls CM SM C hx hret hP hD hS hl hc)
theorem ly_astore_n {i : Fin 4} {v : Nat} {lv' : List (Nat × Value)} (hd : decode M.2.1 pc = .ok (.astore_n i, 1)) (hn : i.val < M.2.2.1) (hf : (i.val, Value.ref v) :: lv.filter (fun q => !(q.1 == i.val) && !(q.1 + 1 == i.val && q.2.category == 2)) = lv') (k : ly_S bs Ls xss l D cy a0 M d Q (pc + 1) lv' st ws cb sb) : ly_S bs Ls xss l D cy a0 M d Q pc lv (.ref v :: st) ws cb sb := by
  intro p e R s m args below meth c H locs cells slots Z ls CM SM C hx hret hP hD hS hl hc
  exact lv_astore_n C.1 C.2.1 hd rfl hl hn hf (fun ls hl => k p e R s m args below meth c H locs cells slots Z ls CM SM C hx hret hP hD hS hl hc)
theorem ly_iinc {i : Nat} {n : Int} {x v : Int32} {lv' : List (Nat × Value)} (hd : decode M.2.1 pc = .ok (.iinc i n, 3)) (j : Nat) (hj : lv[j]? = some (i, .int x)) (hv : x + Int32.ofInt n = v) (hn : i < M.2.2.1) (hf : (i, Value.int v) :: lv.filter (fun q => !(q.1 == i) && !(q.1 + 1 == i && q.2.category == 2)) = lv') (k : ly_S bs Ls xss l D cy a0 M d Q (pc + 3) lv' st ws cb sb) : ly_S bs Ls xss l D cy a0 M d Q pc lv st ws cb sb := by
  intro p e R s m args below meth c H locs cells slots Z ls CM SM C hx hret hP hD hS hl hc
  exact lv_iinc C.1 C.2.1 hd hl hj hv hn hf (fun ls hl => k p e R s m args below meth c H locs cells slots Z ls CM SM C hx hret hP hD hS hl hc)
theorem ly_iadd {x y : Int32} (hd : decode M.2.1 pc = .ok (.iadd, 1)) (k : ly_S bs Ls xss l D cy a0 M d Q (pc + 1) lv (.int (x + y) :: st) ws cb sb) : ly_S bs Ls xss l D cy a0 M d Q pc lv (.int y :: .int x :: st) ws cb sb := by
  intro p e R s m args below meth c H locs cells slots Z ls CM SM C hx hret hP hD hS hl hc
  exact lv_iadd C.1 C.2.1 hd (k p e R s m args below meth c H locs cells slots Z ls CM SM C hx hret hP hD hS hl hc)
theorem ly_isub {x y : Int32} (hd : decode M.2.1 pc = .ok (.isub, 1)) (k : ly_S bs Ls xss l D cy a0 M d Q (pc + 1) lv (.int (x - y) :: st) ws cb sb) : ly_S bs Ls xss l D cy a0 M d Q pc lv (.int y :: .int x :: st) ws cb sb := by
  intro p e R s m args below meth c H locs cells slots Z ls CM SM C hx hret hP hD hS hl hc
  exact lv_isub C.1 C.2.1 hd (k p e R s m args below meth c H locs cells slots Z ls CM SM C hx hret hP hD hS hl hc)
theorem ly_iand {x y : Int32} (hd : decode M.2.1 pc = .ok (.iand, 1)) (k : ly_S bs Ls xss l D cy a0 M d Q (pc + 1) lv (.int (x &&& y) :: st) ws cb sb) : ly_S bs Ls xss l D cy a0 M d Q pc lv (.int y :: .int x :: st) ws cb sb := by
  intro p e R s m args below meth c H locs cells slots Z ls CM SM C hx hret hP hD hS hl hc
  exact lv_iand C.1 C.2.1 hd (k p e R s m args below meth c H locs cells slots Z ls CM SM C hx hret hP hD hS hl hc)
theorem ly_i2l {x : Int32} (hd : decode M.2.1 pc = .ok (.i2l, 1)) (k : ly_S bs Ls xss l D cy a0 M d Q (pc + 1) lv (.long x.toInt64 :: st) ws cb sb) : ly_S bs Ls xss l D cy a0 M d Q pc lv (.int x :: st) ws cb sb := by
  intro p e R s m args below meth c H locs cells slots Z ls CM SM C hx hret hP hD hS hl hc
  exact lv_i2l C.1 C.2.1 hd rfl (k p e R s m args below meth c H locs cells slots Z ls CM SM C hx hret hP hD hS hl hc)
theorem ly_lshl {x : Int64} {y : Int32} (hd : decode M.2.1 pc = .ok (.lshl, 1)) (k : ly_S bs Ls xss l D cy a0 M d Q (pc + 1) lv (.long (x <<< (y.toInt64 &&& 63)) :: st) ws cb sb) : ly_S bs Ls xss l D cy a0 M d Q pc lv (.int y :: .long x :: st) ws cb sb := by
  intro p e R s m args below meth c H locs cells slots Z ls CM SM C hx hret hP hD hS hl hc
  exact lv_lshl C.1 C.2.1 hd rfl (k p e R s m args below meth c H locs cells slots Z ls CM SM C hx hret hP hD hS hl hc)
theorem ly_land {x y : Int64} (hd : decode M.2.1 pc = .ok (.land, 1)) (k : ly_S bs Ls xss l D cy a0 M d Q (pc + 1) lv (.long (x &&& y) :: st) ws cb sb) : ly_S bs Ls xss l D cy a0 M d Q pc lv (.long y :: .long x :: st) ws cb sb := by
  intro p e R s m args below meth c H locs cells slots Z ls CM SM C hx hret hP hD hS hl hc
  exact lv_land C.1 C.2.1 hd (k p e R s m args below meth c H locs cells slots Z ls CM SM C hx hret hP hD hS hl hc)
theorem ly_lor {x y : Int64} (hd : decode M.2.1 pc = .ok (.lor, 1)) (k : ly_S bs Ls xss l D cy a0 M d Q (pc + 1) lv (.long (x ||| y) :: st) ws cb sb) : ly_S bs Ls xss l D cy a0 M d Q pc lv (.long y :: .long x :: st) ws cb sb := by
  intro p e R s m args below meth c H locs cells slots Z ls CM SM C hx hret hP hD hS hl hc
  exact lv_lor C.1 C.2.1 hd (k p e R s m args below meth c H locs cells slots Z ls CM SM C hx hret hP hD hS hl hc)
theorem ly_dup {va : Value} (hd : decode M.2.1 pc = .ok (.dup, 1)) (ha : va.category = 1) (k : ly_S bs Ls xss l D cy a0 M d Q (pc + 1) lv (va :: va :: st) ws cb sb) : ly_S bs Ls xss l D cy a0 M d Q pc lv (va :: st) ws cb sb := by
  intro p e R s m args below meth c H locs cells slots Z ls CM SM C hx hret hP hD hS hl hc
  exact lv_dup C.1 C.2.1 hd ha (k p e R s m args below meth c H locs cells slots Z ls CM SM C hx hret hP hD hS hl hc)
theorem ly_if_eq {x : Int32} {off : Int} (tgt : Nat) (hd : decode M.2.1 pc = .ok (.ifCond .eq off, 3)) (ht : (pc : Int) + off = (tgt : Int)) (kt : x = 0 → ly_S bs Ls xss l D cy a0 M d Q tgt lv st ws cb sb) (kf : ¬ x = 0 → ly_S bs Ls xss l D cy a0 M d Q (pc + 3) lv st ws cb sb) : ly_S bs Ls xss l D cy a0 M d Q pc lv (.int x :: st) ws cb sb := by
  intro p e R s m args below meth c H locs cells slots Z ls CM SM C hx hret hP hD hS hl hc
  exact lv_if_eq C.1 C.2.1 hd ht (fun h9 => kt h9 p e R s m args below meth c H locs cells slots Z ls CM SM C hx hret hP hD hS hl hc) (fun h9 => kf h9 p e R s m args below meth c H locs cells slots Z ls CM SM C hx hret hP hD hS hl hc)
theorem ly_icmp_eq {x y : Int32} {off : Int} (tgt : Nat) (hd : decode M.2.1 pc = .ok (.if_icmp .eq off, 3)) (ht : (pc : Int) + off = (tgt : Int)) (kt : x = y → ly_S bs Ls xss l D cy a0 M d Q tgt lv st ws cb sb) (kf : ¬ x = y → ly_S bs Ls xss l D cy a0 M d Q (pc + 3) lv st ws cb sb) : ly_S bs Ls xss l D cy a0 M d Q pc lv (.int y :: .int x :: st) ws cb sb := by
  intro p e R s m args below meth c H locs cells slots Z ls CM SM C hx hret hP hD hS hl hc
  exact lv_icmp_eq C.1 C.2.1 hd ht (fun h9 => kt h9 p e R s m args below meth c H locs cells slots Z ls CM SM C hx hret hP hD hS hl hc) (fun h9 => kf h9 p e R s m args below meth c H locs cells slots Z ls CM SM C hx hret hP hD hS hl hc)
theorem ly_icmp_gt {x y : Int32} {off : Int} (tgt : Nat) (hd : decode M.2.1 pc = .ok (.if_icmp .gt off, 3)) (ht : (pc : Int) + off = (tgt : Int)) (kt : y < x → ly_S bs Ls xss l D cy a0 M d Q tgt lv st ws cb sb) (kf : ¬ y < x → ly_S bs Ls xss l D cy a0 M d Q (pc + 3) lv st ws cb sb) : ly_S bs Ls xss l D cy a0 M d Q pc lv (.int y :: .int x :: st) ws cb sb := by
  intro p e R s m args below meth c H locs cells slots Z ls CM SM C hx hret hP hD hS hl hc
  exact lv_icmp_gt C.1 C.2.1 hd ht (fun h9 => kt h9 p e R s m args below meth c H locs cells slots Z ls CM SM C hx hret hP hD hS hl hc) (fun h9 => kf h9 p e R s m args below meth c H locs cells slots Z ls CM SM C hx hret hP hD hS hl hc)
theorem ly_lcmp {x y : Int64} (hd : decode M.2.1 pc = .ok (.lcmp, 1)) (k : ly_S bs Ls xss l D cy a0 M d Q (pc + 1) lv (.int (lg_cmp x y) :: st) ws cb sb) : ly_S bs Ls xss l D cy a0 M d Q pc lv (.long y :: .long x :: st) ws cb sb := by
  intro p e R s m args below meth c H locs cells slots Z ls CM SM C hx hret hP hD hS hl hc
  exact W.lcmp C.1 C.2.1 hd (k p e R s m args below meth c H locs cells slots Z ls CM SM C hx hret hP hD hS hl hc)
theorem ly_goto {off : Int} (tgt : Nat) (hd : decode M.2.1 pc = .ok (.goto off, 3)) (ht : (pc : Int) + off = (tgt : Int)) (k : ly_S bs Ls xss l D cy a0 M d Q tgt lv st ws cb sb) : ly_S bs Ls xss l D cy a0 M d Q pc lv st ws cb sb := by
  intro p e R s m args below meth c H locs cells slots Z ls CM SM C hx hret hP hD hS hl hc
  exact lv_goto C.1 C.2.1 hd ht (k p e R s m args below meth c H locs cells slots Z ls CM SM C hx hret hP hD hS hl hc)
theorem ly_tableOut {dflt lo hi : Int} {offs : Array Int} {len : Nat} {x : Int32} (tgt : Nat) (hd : decode M.2.1 pc = .ok (.tableswitch dflt lo hi offs, len)) (h : x.toInt < lo ∨ hi < x.toInt) (ht : (pc : Int) + dflt = (tgt : Int)) (k : ly_S bs Ls xss l D cy a0 M d Q tgt lv st ws cb sb) : ly_S bs Ls xss l D cy a0 M d Q pc lv (.int x :: st) ws cb sb := by
  intro p e R s m args below meth c H locs cells slots Z ls CM SM C hx hret hP hD hS hl hc
  exact lv_tableOut C.1 C.2.1 hd h ht (k p e R s m args below meth c H locs cells slots Z ls CM SM C hx hret hP hD hS hl hc)
theorem ly_tableIn {dflt lo hi : Int} {offs : Array Int} {len : Nat} {x : Int32} {off : Int} (tgt : Nat) (hd : decode M.2.1 pc = .ok (.tableswitch dflt lo hi offs, len)) (h1 : ¬ x.toInt < lo) (h2 : ¬ hi < x.toInt) (ho : offs[(x.toInt - lo).toNat]? = some off) (ht : (pc : Int) + off = (tgt : Int)) (k : ly_S bs Ls xss l D cy a0 M d Q tgt lv st ws cb sb) : ly_S bs Ls xss l D cy a0 M d Q pc lv (.int x :: st) ws cb sb := by
  intro p e R s m args below meth c H locs cells slots Z ls CM SM C hx hret hP hD hS hl hc
  exact lv_tableIn C.1 C.2.1 hd h1 h2 ho ht (k p e R s m args below meth c H locs cells slots Z ls CM SM C hx hret hP hD hS hl hc)
theorem ly_sub {lv' : List (Nat × Value)} (ks : List Nat) (hf : lv_pick lv ks = lv') (k : ly_S bs Ls xss l D cy a0 M d Q pc lv' st ws cb sb) : ly_S bs Ls xss l D cy a0 M d Q pc lv st ws cb sb := by
  intro p e R s m args below meth c H locs cells slots Z ls CM SM C hx hret hP hD hS hl hc
  exact k p e R s m args below meth c H locs cells slots Z ls CM SM C hx hret hP hD hS (lv_sub hl ks hf) hc
theorem ly_budget {cb' sb' : Nat} (h1 : cb' ≤ cb) (h2 : sb' ≤ sb) (k : ly_S bs Ls xss l D cy a0 M d Q pc lv st ws cb' sb') : ly_S bs Ls xss l D cy a0 M d Q pc lv st ws cb sb := by
  intro p e R s m args below meth c H locs cells slots Z ls CM SM C hx hret hP hD hS hl hc
  exact k p e R s m args below meth c H locs cells slots Z ls CM SM C hx hret hP hD hS hl ⟨by omega, by omega, hc.2.2.1, hc.2.2.2⟩
theorem ly_iret {v : Int32} {ty : FieldType} (hd : decode M.2.1 pc = .ok (.ireturn, 1)) (hr : M.2.2.2 = some ty) (hn : narrow ty (.int v) = .int v) (hq : Q (some (.int v)) ws) : ly_S bs Ls xss l D cy a0 M d Q pc lv [.int v] ws cb sb := by
  intro p e R s m args below meth c H locs cells slots Z ls CM SM C hx hret hP hD hS hl hc
  exact hret (some (.int v)) ws H locs cells slots pc ls hq ⟨hd, ty, hr, hn⟩ hP hD hS (by omega) (by omega)
theorem ly_new {ix ci n : Nat} {fs : List Value} (hd : decode M.2.1 pc = .ok (.new ix, 3)) (hf : sm_NW M.1.cls ix ci n fs) (k : ∀ q : Nat, ly_S bs Ls xss l D cy a0 M d Q (pc + 3) lv (.ref q :: st) (ws ++ [(q, .inr (ci, fs))]) cb sb) : ly_S bs Ls xss l D cy a0 M d Q pc lv st ws (cb + 1) (sb + n) := by
  intro p e R s m args below meth c H locs cells slots Z ls CM SM C hx hret hP hD hS hl hc
  obtain ⟨Cn, T, ty, g1, g2, g3, g4, g5, g6, g7⟩ := hf
  exact va_new C.1 C.2.1 C.2.2.2.2.1 g2 ty g3 C.2.2.2.1 (C.2.2.2.2.1 _ g4) (C.2.2.2.2.1 _ g5) (C.2.2.2.2.1 _ g6) C.2.2.2.2.2.1.1 hP hD hS (fun q hq => Nat.le_trans C.2.2.2.2.2.2.2.2.1 hq) g1 g7 (by omega) (by omega) hd (fun q H hP hD hS => k q p e R s m args below meth c H locs (cells + 1) (slots + n) Z ls CM SM C hx hret hP hD hS hl ⟨by omega, by omega, hc.2.2.1, hc.2.2.2⟩)
theorem ly_callV {i ci b : Nat} {fs : List Value} (hd : decode M.2.1 pc = .ok (.invokevirtual ix, 3)) (hL : sm_VL M.1.cls ix M') (hC : sm_CL M' n) (hn : As.length = n) (hst : st = As.reverse ++ .ref b :: rest) (hw : ws[i]? = some (b, .inr (ci, fs))) (hcl : (vwCl[ci]?).map (fun q => q.1) = some M'.1.cls) (hs : (rest.map fun v => v.category).sum ≤ 8) (hlen : (lg_sl (.ref b :: As)).length ≤ M'.2.2.1) (hc : sm_S l D cy a0 M' d post 0 (lv_args 0 (.ref b :: As)) [] ws mc ms)
    (k : ∀ (r : Option Value) (ws' : va_W), post r ws' → ly_S bs Ls xss l D cy a0 M (d + 1) Q (pc + 3) lv (r.toList ++ rest) ws' cb sb) : ly_S bs Ls xss l D cy a0 M (d + 1) Q pc lv st ws (cb + mc) (sb + ms) := by
  intro p e R s m args below meth c H locs cells slots Z ls CM SM C hx hret hP hD hS hl hcc
  obtain ⟨C1, C2, C3, C4, C5, C6, C7, C8, C9, C10⟩ := id C
  obtain ⟨q, hq1, hq2⟩ : ∃ q, vwCl[ci]? = some q ∧ q.1 = M'.1.cls := by
    cases hq : vwCl[ci]? with
    | none => rw [hq] at hcl; cases hcl
    | some q => rw [hq] at hcl; exact ⟨q, rfl, Option.some.inj hcl⟩
  have hrecv := va_recv C6.1 hP hq1 hw
  rw [hq2] at hrecv
  subst hst
  refine sm_back (va_runV (As := As) (rest := rest) (C := M'.1.cls) ⟨C1, C2, C3, C4, C5⟩ (sm_met hC.2.2.1 hlen hc) ⟨callB_of n C5 (sm_goodIn hC.1) rfl rfl rfl (C5 _ hC.2.1) (C5 _ hL.1) hC.2.2.2.2 ⟨by show d + 1 ≤ _; omega, by show 8 + (_ + 11) + 30 * d ≤ _; have := hC.2.2.2.1; omega⟩, C5 _ hL.2.1, C5 _ hL.2.2⟩ ⟨sm_blind, hrecv, sm_pre C6 hP hD C9 hS⟩ rfl hn hl.1 rfl (lv_room hs) hd ⟨by omega, by omega⟩) hS (fun r ws' H1 locs1 hp hP1 hD1 hS1 => ?_)
  exact k r ws' hp p e R s m args below meth c H1 locs1 (cells + mc) (slots + ms) Z ls CM SM C hx hret hP1 hD1 hS1 hl ⟨by omega, by omega, hcc.2.2.1, hcc.2.2.2⟩
theorem ly_callI {b : Nat} (hd : decode M.2.1 pc = .ok (.invokespecial ix, 3)) (hL : sm_IL M.1.cls ix M') (hC : sm_CL M' n) (hn : As.length = n) (hst : st = As.reverse ++ .ref b :: rest) (hs : (rest.map fun v => v.category).sum ≤ 8) (hlen : (lg_sl (.ref b :: As)).length ≤ M'.2.2.1) (hc : sm_S l D cy a0 M' d post 0 (lv_args 0 (.ref b :: As)) [] ws mc ms)
    (k : ∀ (r : Option Value) (ws' : va_W), post r ws' → ly_S bs Ls xss l D cy a0 M (d + 1) Q (pc + 3) lv (r.toList ++ rest) ws' cb sb) : ly_S bs Ls xss l D cy a0 M (d + 1) Q pc lv st ws (cb + mc) (sb + ms) := by
  intro p e R s m args below meth c H locs cells slots Z ls CM SM C hx hret hP hD hS hl hcc
  obtain ⟨C1, C2, C3, C4, C5, C6, C7, C8, C9, C10⟩ := id C
  subst hst
  obtain ⟨y, cd, mx, rt⟩ := M'
  obtain ⟨hL1, hL2, hL3, hL4⟩ := hL
  have hL4 : rt = none := hL4
  subst hL4
  refine sm_back (va_runI (As := As) (rest := rest) ⟨C1, C2, C3, C4, C5⟩ (sm_met hC.2.2.1 hlen hc) ⟨callB_of n C5 (sm_goodIn hC.1) rfl rfl rfl (C5 _ hC.2.1) (C5 _ hL1) hC.2.2.2.2 ⟨by show d + 1 ≤ _; omega, by show 8 + (_ + 11) + 30 * d ≤ _; have := hC.2.2.2.1; omega⟩, hL3, C5 _ hL2⟩ ⟨sm_blind, sm_pre C6 hP hD C9 hS⟩ rfl hn hl.1 rfl (lv_room hs) hd ⟨by omega, by omega⟩) hS (fun r ws' H1 locs1 hp hP1 hD1 hS1 => ?_)
  exact k r ws' hp p e R s m args below meth c H1 locs1 (cells + mc) (slots + ms) Z ls CM SM C hx hret hP1 hD1 hS1 hl ⟨by omega, by omega, hcc.2.2.1, hcc.2.2.2⟩
theorem ly_sld {i : Nat} (hd : decode M.2.1 pc = .ok (.iaload, 1)) (hi : i < Ls) (hL : Ls < 2 ^ 31) (k : ly_S bs Ls xss l D cy a0 M d Q (pc + 1) lv (.int (xss i) :: st) ws cb sb) : ly_S bs Ls xss l D cy a0 M d Q pc lv (.int (nI i) :: .ref bs :: st) ws cb sb := by
  intro p e R s m args below meth c H locs cells slots Z ls CM SM C hx hret hP hD hS hl hc
  refine va_sld C.1 C.2.1 hx.1 hx.2.1 hx.2.2 hS (vp_in_nI hi hL) hd ?_
  rw [nI_clamp (by omega)]
  exact k p e R s m args below meth c H locs cells slots Z ls CM SM C hx hret hP hD hS hl hc
theorem ly_slen (hd : decode M.2.1 pc = .ok (.arraylength, 1)) (k : ly_S bs Ls xss l D cy a0 M d Q (pc + 1) lv (.int (nI Ls) :: st) ws cb sb) : ly_S bs Ls xss l D cy a0 M d Q pc lv (.ref bs :: st) ws cb sb := by
  intro p e R s m args below meth c H locs cells slots Z ls CM SM C hx hret hP hD hS hl hc
  exact va_slen C.1 C.2.1 hx.1 hx.2.1 hx.2.2 hS hd (k p e R s m args below meth c H locs cells slots Z ls CM SM C hx hret hP hD hS hl hc)
theorem ly_add {a b : Nat} (hd : decode M.2.1 pc = .ok (.iadd, 1)) (k : ly_S bs Ls xss l D cy a0 M d Q (pc + 1) lv (.int (nI (a + b)) :: st) ws cb sb) : ly_S bs Ls xss l D cy a0 M d Q pc lv (.int (nI b) :: .int (nI a) :: st) ws cb sb := ly_iadd hd (by rw [nI_add]; exact k)
end LY
/-- the law between two calls, in the world of 126 cells -/
abbrev lz (c : cx) (bs Ls : Nat) (xss : Nat → Int32) (Q : Option Value → va_W → Prop) (pc : Nat) (lv : List (Nat × Value)) (st : List Value) (X : nX) (Y : nY) : Prop := ly_S bs Ls xss c.1 c.2.1 (c_cy c) c.2.2.2.1 mL_law 10 Q pc lv st (zw (c_ad c) (c_cy c) X Y) 0 0
abbrev lvL (c : cx) (bs i : Nat) : List (Nat × Value) := [(3, .int (nI i)), (2, .ref (c_ad c 105)), (1, .ref (c_ad c 0)), (0, .ref bs)]
section LZ
variable {c : cx} {bs Ls : Nat} {xss : Nat → Int32} {Q : Option Value → va_W → Prop} {pc : Nat} {lv : List (Nat × Value)} {st : List Value} {X : nX} {Y : nY}
theorem lz_callV {M' : sm_M} {ix n i ci : Nat} {fs : List Value} {As rest : List Value} {r : Value} {X' : nX} {Y' : nY} (hd : decode mL_law.2.1 pc = .ok (.invokevirtual ix, 3)) (hL : sm_VL RL ix M') (hC : sm_CL M' n) (hn : As.length = n) (hst : st = As.reverse ++ .ref (c_ad c i) :: rest) (hi : i < 126) (hs : sh (c_ad c) (c_cy c) i (X i) (Y i) = .inr (ci, fs)) (hcl : (vwCl[ci]?).map (fun q => q.1) = some M'.1.cls) (hsum : (rest.map fun v => v.category).sum ≤ 8) (hlen : (lg_sl (.ref (c_ad c i) :: As)).length ≤ M'.2.2.1) (hc : sc c M' 9 (.ref (c_ad c i) :: As) X Y (some r) X' Y') (k : lz c bs Ls xss Q (pc + 3) lv (r :: rest) X' Y') : lz c bs Ls xss Q pc lv st X Y :=
  ly_callV (M := mL_law) (M' := M') (cb := 0) (sb := 0) (mc := 0) (ms := 0) (d := 9) (post := fun r' ws' => ∃ X2 Y2, ws' = zw (c_ad c) (c_cy c) X2 Y2 ∧ (r' = some r ∧ X2 = X' ∧ Y2 = Y')) hd hL hC hn hst (by rw [zw_at hi, hs]) hcl hsum hlen (hc (fun r' X2 Y2 => r' = some r ∧ X2 = X' ∧ Y2 = Y') ⟨rfl, rfl, rfl⟩) (fun r' ws' h => by
    obtain ⟨X2, Y2, rfl, rfl, rfl, rfl⟩ := h
    exact k)
end LZ
