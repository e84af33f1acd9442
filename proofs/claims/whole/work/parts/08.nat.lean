/-! rules over numbers that are counts, and over truths -/
def bI (b : Bool) : Int32 := if b = true then 1 else 0
theorem bI_t : bI true = 1 := rfl
theorem bI_f : bI false = 0 := rfl
theorem bI_eq0 (b : Bool) : bI b = 0 ↔ b = false := by cases b <;> decide
theorem bI_ne0 (b : Bool) : ¬ bI b = 0 ↔ b = true := by cases b <;> decide
theorem bI_nar (b : Bool) : narrow .boolean (.int (bI b)) = .int (bI b) := by cases b <;> rfl
theorem bI_fit (b : Bool) : fits .boolean (.int (bI b)) = true := by cases b <;> rfl
theorem bI_vp (b : Bool) : vp_nar .boolean (bI b) = bI b := by cases b <;> rfl
theorem bI_inj {a b : Bool} : bI a = bI b ↔ a = b := by cases a <;> cases b <;> decide
theorem bI_1 (b : Bool) : bI b = 1 ↔ b = true := by cases b <;> decide
theorem xn_and (a b : Nat) : nI a &&& nI b = nI (a &&& b) := by
  apply Int32.toBitVec_inj.1
  show BitVec.ofNat 32 a &&& BitVec.ofNat 32 b = BitVec.ofNat 32 (a &&& b)
  apply BitVec.eq_of_getLsbD_eq
  intro i hi
  simp [hi]
theorem xn_or (a b : Nat) : nI a ||| nI b = nI (a ||| b) := by
  apply Int32.toBitVec_inj.1
  show BitVec.ofNat 32 a ||| BitVec.ofNat 32 b = BitVec.ofNat 32 (a ||| b)
  apply BitVec.eq_of_getLsbD_eq
  intro i hi
  simp [hi]
theorem xn_xor (a b : Nat) : nI a ^^^ nI b = nI (a ^^^ b) := by
  apply Int32.toBitVec_inj.1
  show BitVec.ofNat 32 a ^^^ BitVec.ofNat 32 b = BitVec.ofNat 32 (a ^^^ b)
  apply BitVec.eq_of_getLsbD_eq
  intro i hi
  simp [hi]
theorem xn_sl : ∀ n, n < 32 → ((nI n &&& 31).toBitVec.smod 32).toNat = n := by decide +kernel
theorem xn_shl {a b : Nat} (hb : b < 32) (h : a * 2 ^ b < 2 ^ 32) : nI a <<< (nI b &&& 31) = nI (a <<< b) := by
  rw [pk_shlN _ b (xn_sl b hb) h, Nat.shiftLeft_eq]
theorem xn_shr {a b : Nat} (hb : b < 32) (h : a < 2 ^ 31) : nI a >>> (nI b &&& 31) = nI (a >>> b) := by
  rw [pk_shrN h _ b (xn_sl b hb), Nat.shiftRight_eq_div_pow]
theorem lg_cmp_lt0 (x y : Int64) : lg_cmp x y < 0 ↔ x < y := by
  have h := lg_cmp_ge x y
  simp only [Int64.lt_iff_toInt_lt, Int64.le_iff_toInt_le, Int32.lt_iff_toInt_lt, Int32.le_iff_toInt_le] at *
  omega
theorem lg_cmp_swap (x y : Int64) : lg_cmp y x = - lg_cmp x y := by
  unfold lg_cmp
  simp only [gt_iff_lt, Int64.lt_iff_toInt_lt, ← Int64.toInt_inj]
  repeat' split
  all_goals first | rfl | omega
theorem lg_cmp_le0 (x y : Int64) : lg_cmp x y ≤ 0 ↔ x ≤ y := by
  unfold lg_cmp
  simp only [gt_iff_lt, Int64.lt_iff_toInt_lt, Int64.le_iff_toInt_le, ← Int64.toInt_inj]
  repeat' split
  all_goals first | (constructor <;> intro h <;> first | omega | exact absurd h (by decide) | decide)
theorem lg_cmp_gt0 (x y : Int64) : 0 < lg_cmp x y ↔ y < x := by
  have h := lg_cmp_le0 x y
  simp only [Int64.lt_iff_toInt_lt, Int64.le_iff_toInt_le, Int32.lt_iff_toInt_lt, Int32.le_iff_toInt_le] at *
  omega
theorem lg_cmp_eq0 (x y : Int64) : lg_cmp x y = 0 ↔ x = y := by
  unfold lg_cmp
  simp only [gt_iff_lt, Int64.lt_iff_toInt_lt, ← Int64.toInt_inj]
  repeat' split
  all_goals first | (constructor <;> intro h <;> first | omega | exact absurd h (by decide) | decide | rfl)
section SN
variable {l : Launch} {D : va_G} {cy : Nat → ClassId} {a0 : Nat} {M : sm_M} {d : Nat} {Q : Option Value → va_W → Prop} {pc : Nat} {lv : List (Nat × Value)} {st : List Value} {ws : va_W} {cb sb : Nat}
theorem sn_iadd {a b : Nat} (hd : decode M.2.1 pc = .ok (.iadd, 1))  (k : sm_S l D cy a0 M d Q (pc + 1) lv (.int (nI (a + b)) :: st) ws cb sb) : sm_S l D cy a0 M d Q pc lv (.int (nI b) :: .int (nI a) :: st) ws cb sb := sm_iadd hd (by rw [nI_add]; exact k)
theorem sn_isub {a b : Nat} (hd : decode M.2.1 pc = .ok (.isub, 1)) (h : b ≤ a) (k : sm_S l D cy a0 M d Q (pc + 1) lv (.int (nI (a - b)) :: st) ws cb sb) : sm_S l D cy a0 M d Q pc lv (.int (nI b) :: .int (nI a) :: st) ws cb sb := sm_isub hd (by rw [pk_sub h]; exact k)
theorem sn_imul {a b : Nat} (hd : decode M.2.1 pc = .ok (.imul, 1))  (k : sm_S l D cy a0 M d Q (pc + 1) lv (.int (nI (a * b)) :: st) ws cb sb) : sm_S l D cy a0 M d Q pc lv (.int (nI b) :: .int (nI a) :: st) ws cb sb := sm_imul hd (by rw [pk_mul]; exact k)
theorem sn_iand {a b : Nat} (hd : decode M.2.1 pc = .ok (.iand, 1))  (k : sm_S l D cy a0 M d Q (pc + 1) lv (.int (nI (a &&& b)) :: st) ws cb sb) : sm_S l D cy a0 M d Q pc lv (.int (nI b) :: .int (nI a) :: st) ws cb sb := sm_iand hd (by rw [xn_and]; exact k)
theorem sn_ior {a b : Nat} (hd : decode M.2.1 pc = .ok (.ior, 1))  (k : sm_S l D cy a0 M d Q (pc + 1) lv (.int (nI (a ||| b)) :: st) ws cb sb) : sm_S l D cy a0 M d Q pc lv (.int (nI b) :: .int (nI a) :: st) ws cb sb := sm_ior hd (by rw [xn_or]; exact k)
theorem sn_ixor {a b : Nat} (hd : decode M.2.1 pc = .ok (.ixor, 1))  (k : sm_S l D cy a0 M d Q (pc + 1) lv (.int (nI (a ^^^ b)) :: st) ws cb sb) : sm_S l D cy a0 M d Q pc lv (.int (nI b) :: .int (nI a) :: st) ws cb sb := sm_ixor hd (by rw [xn_xor]; exact k)
theorem sn_ishl {a b : Nat} (hd : decode M.2.1 pc = .ok (.ishl, 1)) (hb : b < 32) (h : a * 2 ^ b < 2 ^ 32) (k : sm_S l D cy a0 M d Q (pc + 1) lv (.int (nI (a <<< b)) :: st) ws cb sb) : sm_S l D cy a0 M d Q pc lv (.int (nI b) :: .int (nI a) :: st) ws cb sb := sm_ishl hd (by rw [xn_shl hb h]; exact k)
theorem sn_ishr {a b : Nat} (hd : decode M.2.1 pc = .ok (.ishr, 1)) (hb : b < 32) (h : a < 2 ^ 31) (k : sm_S l D cy a0 M d Q (pc + 1) lv (.int (nI (a >>> b)) :: st) ws cb sb) : sm_S l D cy a0 M d Q pc lv (.int (nI b) :: .int (nI a) :: st) ws cb sb := sm_ishr hd (by rw [xn_shr hb h]; exact k)
theorem sn_idiv {a b : Nat} (hd : decode M.2.1 pc = .ok (.idiv, 1)) (ha : a < 2 ^ 31) (h0 : 0 < b) (hb : b < 2 ^ 31) (k : sm_S l D cy a0 M d Q (pc + 1) lv (.int (nI (a / b)) :: st) ws cb sb) : sm_S l D cy a0 M d Q pc lv (.int (nI b) :: .int (nI a) :: st) ws cb sb := sm_idiv hd (nI_ne0 h0 hb) (by rw [pk_div ha h0 hb]; exact k)
theorem sn_irem {a b : Nat} (hd : decode M.2.1 pc = .ok (.irem, 1)) (ha : a < 2 ^ 31) (h0 : 0 < b) (hb : b < 2 ^ 31) (k : sm_S l D cy a0 M d Q (pc + 1) lv (.int (nI (a % b)) :: st) ws cb sb) : sm_S l D cy a0 M d Q pc lv (.int (nI b) :: .int (nI a) :: st) ws cb sb := sm_irem hd (nI_ne0 h0 hb) (by rw [pk_rem ha h0 hb]; exact k)
theorem sn_i2l {a : Nat} (hd : decode M.2.1 pc = .ok (.i2l, 1)) (ha : a < 2 ^ 31) (k : sm_S l D cy a0 M d Q (pc + 1) lv (.long (lN a) :: st) ws cb sb) : sm_S l D cy a0 M d Q pc lv (.int (nI a) :: st) ws cb sb := sm_i2l hd (by rw [nI_l ha]; exact k)
theorem sn_inc {i a : Nat} {lv' : List (Nat × Value)} (hd : decode M.2.1 pc = .ok (.iinc i 1, 3)) (j : Nat) (hj : lv[j]? = some (i, .int (nI a))) (hn : i < M.2.2.1) (hf : (i, Value.int (nI (a + 1))) :: lv.filter (fun q => !(q.1 == i) && !(q.1 + 1 == i && q.2.category == 2)) = lv') (k : sm_S l D cy a0 M d Q (pc + 3) lv' st ws cb sb) : sm_S l D cy a0 M d Q pc lv st ws cb sb := sm_iinc hd j hj (nI_1 a) hn hf k
theorem sn_dec {i a : Nat} {lv' : List (Nat × Value)} (hd : decode M.2.1 pc = .ok (.iinc i (-1), 3)) (j : Nat) (hj : lv[j]? = some (i, .int (nI a))) (h1 : 1 ≤ a) (hn : i < M.2.2.1) (hf : (i, Value.int (nI (a - 1))) :: lv.filter (fun q => !(q.1 == i) && !(q.1 + 1 == i && q.2.category == 2)) = lv') (k : sm_S l D cy a0 M d Q (pc + 3) lv' st ws cb sb) : sm_S l D cy a0 M d Q pc lv st ws cb sb := sm_iinc hd j hj (by show nI a + (-1) = nI (a - 1); exact sb_m1 h1) hn hf k
theorem sn_icmp_eq {a b : Nat} {off : Int} (tgt : Nat) (hd : decode M.2.1 pc = .ok (.if_icmp .eq off, 3)) (ht : (pc : Int) + off = (tgt : Int)) (ha : a < 2 ^ 31) (hb : b < 2 ^ 31) (kt : a = b → sm_S l D cy a0 M d Q tgt lv st ws cb sb) (kf : ¬ a = b → sm_S l D cy a0 M d Q (pc + 3) lv st ws cb sb) : sm_S l D cy a0 M d Q pc lv (.int (nI b) :: .int (nI a) :: st) ws cb sb := sm_icmp_eq tgt hd ht (fun h => kt ((nI_eq ha hb).mp h)) (fun h => kf (fun q => h ((nI_eq ha hb).mpr q)))
theorem sn_icmp_ne {a b : Nat} {off : Int} (tgt : Nat) (hd : decode M.2.1 pc = .ok (.if_icmp .ne off, 3)) (ht : (pc : Int) + off = (tgt : Int)) (ha : a < 2 ^ 31) (hb : b < 2 ^ 31) (kt : ¬ a = b → sm_S l D cy a0 M d Q tgt lv st ws cb sb) (kf : a = b → sm_S l D cy a0 M d Q (pc + 3) lv st ws cb sb) : sm_S l D cy a0 M d Q pc lv (.int (nI b) :: .int (nI a) :: st) ws cb sb := sm_icmp_ne tgt hd ht (fun h => kt (fun q => h ((nI_eq ha hb).mpr q))) (fun h => kf ((nI_eq ha hb).mp h))
theorem sn_icmp_lt {a b : Nat} {off : Int} (tgt : Nat) (hd : decode M.2.1 pc = .ok (.if_icmp .lt off, 3)) (ht : (pc : Int) + off = (tgt : Int)) (ha : a < 2 ^ 31) (hb : b < 2 ^ 31) (kt : a < b → sm_S l D cy a0 M d Q tgt lv st ws cb sb) (kf : ¬ a < b → sm_S l D cy a0 M d Q (pc + 3) lv st ws cb sb) : sm_S l D cy a0 M d Q pc lv (.int (nI b) :: .int (nI a) :: st) ws cb sb := sm_icmp_lt tgt hd ht (fun h => kt ((nI_ltI ha hb).mp h)) (fun h => kf (fun q => h ((nI_ltI ha hb).mpr q)))
theorem sn_icmp_ge {a b : Nat} {off : Int} (tgt : Nat) (hd : decode M.2.1 pc = .ok (.if_icmp .ge off, 3)) (ht : (pc : Int) + off = (tgt : Int)) (ha : a < 2 ^ 31) (hb : b < 2 ^ 31) (kt : b ≤ a → sm_S l D cy a0 M d Q tgt lv st ws cb sb) (kf : ¬ b ≤ a → sm_S l D cy a0 M d Q (pc + 3) lv st ws cb sb) : sm_S l D cy a0 M d Q pc lv (.int (nI b) :: .int (nI a) :: st) ws cb sb := sm_icmp_ge tgt hd ht (fun h => kt ((nI_leI hb ha).mp h)) (fun h => kf (fun q => h ((nI_leI hb ha).mpr q)))
theorem sn_icmp_gt {a b : Nat} {off : Int} (tgt : Nat) (hd : decode M.2.1 pc = .ok (.if_icmp .gt off, 3)) (ht : (pc : Int) + off = (tgt : Int)) (ha : a < 2 ^ 31) (hb : b < 2 ^ 31) (kt : b < a → sm_S l D cy a0 M d Q tgt lv st ws cb sb) (kf : ¬ b < a → sm_S l D cy a0 M d Q (pc + 3) lv st ws cb sb) : sm_S l D cy a0 M d Q pc lv (.int (nI b) :: .int (nI a) :: st) ws cb sb := sm_icmp_gt tgt hd ht (fun h => kt ((nI_ltI hb ha).mp h)) (fun h => kf (fun q => h ((nI_ltI hb ha).mpr q)))
theorem sn_icmp_le {a b : Nat} {off : Int} (tgt : Nat) (hd : decode M.2.1 pc = .ok (.if_icmp .le off, 3)) (ht : (pc : Int) + off = (tgt : Int)) (ha : a < 2 ^ 31) (hb : b < 2 ^ 31) (kt : a ≤ b → sm_S l D cy a0 M d Q tgt lv st ws cb sb) (kf : ¬ a ≤ b → sm_S l D cy a0 M d Q (pc + 3) lv st ws cb sb) : sm_S l D cy a0 M d Q pc lv (.int (nI b) :: .int (nI a) :: st) ws cb sb := sm_icmp_le tgt hd ht (fun h => kt ((nI_leI ha hb).mp h)) (fun h => kf (fun q => h ((nI_leI ha hb).mpr q)))
theorem sn_if_eq {a : Nat} {off : Int} (tgt : Nat) (hd : decode M.2.1 pc = .ok (.ifCond .eq off, 3)) (ht : (pc : Int) + off = (tgt : Int)) (ha : a < 2 ^ 31) (kt : a = 0 → sm_S l D cy a0 M d Q tgt lv st ws cb sb) (kf : ¬ a = 0 → sm_S l D cy a0 M d Q (pc + 3) lv st ws cb sb) : sm_S l D cy a0 M d Q pc lv (.int (nI a) :: st) ws cb sb := sm_if_eq tgt hd ht (fun h => kt ((nI_eq ha (Nat.two_pow_pos 31)).mp (h.trans nI_0.symm))) (fun h => kf (fun q => h (by rw [q]; exact nI_0)))
theorem sn_if_ne {a : Nat} {off : Int} (tgt : Nat) (hd : decode M.2.1 pc = .ok (.ifCond .ne off, 3)) (ht : (pc : Int) + off = (tgt : Int)) (ha : a < 2 ^ 31) (kt : ¬ a = 0 → sm_S l D cy a0 M d Q tgt lv st ws cb sb) (kf : a = 0 → sm_S l D cy a0 M d Q (pc + 3) lv st ws cb sb) : sm_S l D cy a0 M d Q pc lv (.int (nI a) :: st) ws cb sb := sm_if_ne tgt hd ht (fun h => kt (fun q => h (by rw [q]; exact nI_0))) (fun h => kf ((nI_eq ha (Nat.two_pow_pos 31)).mp (h.trans nI_0.symm)))
theorem sb_if_eq {b : Bool} {off : Int} (tgt : Nat) (hd : decode M.2.1 pc = .ok (.ifCond .eq off, 3)) (ht : (pc : Int) + off = (tgt : Int)) (kt : b = false → sm_S l D cy a0 M d Q tgt lv st ws cb sb) (kf : b = true → sm_S l D cy a0 M d Q (pc + 3) lv st ws cb sb) : sm_S l D cy a0 M d Q pc lv (.int (bI b) :: st) ws cb sb := sm_if_eq tgt hd ht (fun h => kt ((bI_eq0 b).mp h)) (fun h => kf ((bI_ne0 b).mp h))
theorem sb_if_ne {b : Bool} {off : Int} (tgt : Nat) (hd : decode M.2.1 pc = .ok (.ifCond .ne off, 3)) (ht : (pc : Int) + off = (tgt : Int)) (kt : b = true → sm_S l D cy a0 M d Q tgt lv st ws cb sb) (kf : b = false → sm_S l D cy a0 M d Q (pc + 3) lv st ws cb sb) : sm_S l D cy a0 M d Q pc lv (.int (bI b) :: st) ws cb sb := sm_if_ne tgt hd ht (fun h => kt ((bI_ne0 b).mp h)) (fun h => kf ((bI_eq0 b).mp h))
theorem sl_lt {x y : Int64} {off : Int} (tgt : Nat) (hd : decode M.2.1 pc = .ok (.lcmp, 1)) (hd2 : decode M.2.1 (pc + 1) = .ok (.ifCond .lt off, 3)) (ht : ((pc + 1 : Nat) : Int) + off = (tgt : Int)) (kt : x < y → sm_S l D cy a0 M d Q tgt lv st ws cb sb) (kf : ¬ x < y → sm_S l D cy a0 M d Q (pc + 1 + 3) lv st ws cb sb) : sm_S l D cy a0 M d Q pc lv (.long y :: .long x :: st) ws cb sb := sm_lcmp hd (sm_if_lt tgt hd2 ht (fun h => kt ((lg_cmp_lt0 x y).mp h)) (fun h => kf (fun q => h ((lg_cmp_lt0 x y).mpr q))))
theorem sl_le {x y : Int64} {off : Int} (tgt : Nat) (hd : decode M.2.1 pc = .ok (.lcmp, 1)) (hd2 : decode M.2.1 (pc + 1) = .ok (.ifCond .le off, 3)) (ht : ((pc + 1 : Nat) : Int) + off = (tgt : Int)) (kt : x ≤ y → sm_S l D cy a0 M d Q tgt lv st ws cb sb) (kf : ¬ x ≤ y → sm_S l D cy a0 M d Q (pc + 1 + 3) lv st ws cb sb) : sm_S l D cy a0 M d Q pc lv (.long y :: .long x :: st) ws cb sb := sm_lcmp hd (sm_if_le tgt hd2 ht (fun h => kt ((lg_cmp_le0 x y).mp h)) (fun h => kf (fun q => h ((lg_cmp_le0 x y).mpr q))))
theorem sl_gt {x y : Int64} {off : Int} (tgt : Nat) (hd : decode M.2.1 pc = .ok (.lcmp, 1)) (hd2 : decode M.2.1 (pc + 1) = .ok (.ifCond .gt off, 3)) (ht : ((pc + 1 : Nat) : Int) + off = (tgt : Int)) (kt : y < x → sm_S l D cy a0 M d Q tgt lv st ws cb sb) (kf : ¬ y < x → sm_S l D cy a0 M d Q (pc + 1 + 3) lv st ws cb sb) : sm_S l D cy a0 M d Q pc lv (.long y :: .long x :: st) ws cb sb := sm_lcmp hd (sm_if_gt tgt hd2 ht (fun h => kt ((lg_cmp_gt0 x y).mp h)) (fun h => kf (fun q => h ((lg_cmp_gt0 x y).mpr q))))
theorem sl_ge {x y : Int64} {off : Int} (tgt : Nat) (hd : decode M.2.1 pc = .ok (.lcmp, 1)) (hd2 : decode M.2.1 (pc + 1) = .ok (.ifCond .ge off, 3)) (ht : ((pc + 1 : Nat) : Int) + off = (tgt : Int)) (kt : y ≤ x → sm_S l D cy a0 M d Q tgt lv st ws cb sb) (kf : ¬ y ≤ x → sm_S l D cy a0 M d Q (pc + 1 + 3) lv st ws cb sb) : sm_S l D cy a0 M d Q pc lv (.long y :: .long x :: st) ws cb sb := sm_lcmp hd (sm_if_ge tgt hd2 ht (fun h => kt ((lg_cmp_ge x y).mp h)) (fun h => kf (fun q => h ((lg_cmp_ge x y).mpr q))))
theorem sl_eq {x y : Int64} {off : Int} (tgt : Nat) (hd : decode M.2.1 pc = .ok (.lcmp, 1)) (hd2 : decode M.2.1 (pc + 1) = .ok (.ifCond .eq off, 3)) (ht : ((pc + 1 : Nat) : Int) + off = (tgt : Int)) (kt : x = y → sm_S l D cy a0 M d Q tgt lv st ws cb sb) (kf : ¬ x = y → sm_S l D cy a0 M d Q (pc + 1 + 3) lv st ws cb sb) : sm_S l D cy a0 M d Q pc lv (.long y :: .long x :: st) ws cb sb := sm_lcmp hd (sm_if_eq tgt hd2 ht (fun h => kt ((lg_cmp_eq0 x y).mp h)) (fun h => kf (fun q => h ((lg_cmp_eq0 x y).mpr q))))
theorem sl_ne {x y : Int64} {off : Int} (tgt : Nat) (hd : decode M.2.1 pc = .ok (.lcmp, 1)) (hd2 : decode M.2.1 (pc + 1) = .ok (.ifCond .ne off, 3)) (ht : ((pc + 1 : Nat) : Int) + off = (tgt : Int)) (kt : ¬ x = y → sm_S l D cy a0 M d Q tgt lv st ws cb sb) (kf : x = y → sm_S l D cy a0 M d Q (pc + 1 + 3) lv st ws cb sb) : sm_S l D cy a0 M d Q pc lv (.long y :: .long x :: st) ws cb sb := sm_lcmp hd (sm_if_ne tgt hd2 ht (fun h => kt (fun q => h ((lg_cmp_eq0 x y).mpr q))) (fun h => kf ((lg_cmp_eq0 x y).mp h)))
end SN
