/-! calls: a method's contract out of its walk, and the rules of the calls -/
theorem sm_good {w : Cond} (h : w ∈ sm_tbl) : (w.onTables && w.keeps) = true ∨ ∃ ty, w = .arrayClass ty := good_of_word (List.mem_filter.mp h).2
theorem sm_goodIn {y : Cond} (h : y ∈ sm_tbl) : GoodIn sm_tbl (y :: sm_tbl) := by
  intro w hw
  rcases List.mem_cons.mp hw with rfl | hw
  · exact ⟨h, sm_good h⟩
  · exact ⟨hw, sm_good hw⟩
def sm_Q (D : va_G) (a0 : Nat) (post : Option Value → va_W → Prop) : Array Value → State → Outcome → State → Prop := fun _ st oc t => (∃ (r : Option Value) (ws' : va_W), oc = .returned r ∧ post r ws' ∧ va_P D vwCl ws' t.heap ∧ va_D (sm_A a0) ws') ∧ va_F (sm_A a0) st t
abbrev sm_P (D : va_G) (cy : Nat → ClassId) (a0 : Nat) (As : List Value) (ws : va_W) : Array Value → State → Prop := va_Pc As (fun U => a0 ≤ U.heap.size ∧ va_P D vwCl ws U.heap ∧ sm_K D cy U ∧ va_D (sm_A a0) ws)
abbrev sm_rm (d mc ms : Nat) : Room := { frames := d, cells := mc, slots := ms, locals := 30 * d }
theorem sm_met {l : Launch} {D : va_G} {cy : Nat → ClassId} {a0 : Nat} {M : sm_M} {d mc ms : Nat} {post : Option Value → va_W → Prop} {As : List Value} {ws : va_W} (hpl : plainName M.1.cls = true) (hlen : (lg_sl As).length ≤ M.2.2.1)
    (h : sm_S l D cy a0 M d post 0 (lv_args 0 As) [] ws mc ms) : Met l M.1 (Cond.code M.1 M.2.1 M.2.2.1 M.2.2.2 :: sm_tbl) (sm_rm d mc ms) (sm_P D cy a0 As ws) (sm_Q D a0 post) mc ms (sm_A a0) := by
  refine Met.ofW (cc := M.2.1) (maxL := M.2.2.1) (ret := M.2.2.2) hpl rfl ?_
  intro p e s m args below meth c s₁ B hml hv
  obtain ⟨rfl, hsz, hP, hK, hD⟩ := hv
  have hl := lv_entry As hlen
  rw [lg_entry_eq]
  have hx := B.exec
  have hb := B.bytes
  have hr := B.returns
  have hlocks := B.notSynchronized
  have hts := atoms_spec (ws := Cond.code M.1 M.2.1 M.2.2.1 M.2.2.2 :: sm_tbl) B.pre
  refine h p e _ s m _ below meth c s.heap [] 0 0 _ _ mc ms ⟨hx, hb, hml, findClass_of_methodNamed B.named, fun w hw => hts w (List.mem_cons_of_mem _ hw), hK, Nat.le_refl d, Nat.le_refl (30 * d), hsz, fun hn => ((name_of_methodNamed B.named B.method).1).trans hn⟩ ?_ hP hD va_S.rf hl ⟨by omega, by omega, Nat.le_refl mc, Nat.le_refl ms⟩
  intro r ws' H' locs' cells' slots' pc' ls' hq hE hP' hD' hS' h1 h2
  refine W.widen h1 h2 ?_
  have fin : ∀ t : State, t.heap = H' → sm_Q D a0 post As.toArray s (.returned r) t := fun t ht => ⟨⟨r, ws', rfl, hq, by rw [ht]; exact hP', hD'⟩, hS'.F ht⟩
  match r, hE, fin with
  | none, hE, fin => exact W.vret hx hb (hr.trans hE.2) (fun t ht _ => fin t ht) hS'.2.2 hE.1
  | some (.int v), hE, fin =>
    obtain ⟨hE1, ty, hE2, hE3⟩ := hE
    exact W.zret hx hb (hr.trans hE2) hE3 (fun t ht _ => fin t ht) hS'.2.2 hE1
  | some (.long v), hE, fin => exact W.lret hx hb (hr.trans hE.2) (fun t ht _ => fin t ht) hS'.2.2 hE.1
section SB
variable {p : Program} {l : Launch} {e : Env} {R : Room} {s : State} {m : MethodId} {args : Array Value} {below : List Frame} {meth : Method} {c : Code} {H : Heap} {locs : List Loc} {cells slots : Nat} {Z : State → Prop}
theorem sm_back {D : va_G} {a0 pc mc ms : Nat} {ls : Array Slot} {rest st0 : List Value} {a : Array Value} {H0 : Heap} {post : Option Value → va_W → Prop} (hr : va_Run p l e R s m args below meth c H locs cells slots mc ms (F0 m pc ls st0) rest (sm_Q D a0 post a) (sm_A a0)) (hS : va_S (sm_A a0) H0 H locs)
    (kk : ∀ (r : Option Value) (ws' : va_W) (H1 : Heap) (locs1 : List Loc), post r ws' → va_P D vwCl ws' H1 → va_D (sm_A a0) ws' → va_S (sm_A a0) H0 H1 locs1 → W p l e R s m args below meth c H1 locs1 (cells + mc) (slots + ms) Z (F0 m (pc + 3) ls (r.toList ++ rest))) : W p l e R s m args below meth c H locs cells slots Z (F0 m pc ls st0) := by
  intro T hT X
  obtain ⟨v, st₀, t, T', L, h0, X', hL, e1, e2, ⟨⟨r, ws', hv, hp, hP', hD'⟩, hz, hk⟩, st⟩ := hr T hT X
  cases hv
  rw [h0] at hz hk
  obtain ⟨t2, a1, b1⟩ := kk v ws' T'.heap (locs ++ L) hp (by rw [e1]; exact hP') hD'
    ⟨Nat.le_trans hS.1 (by rw [e1]; exact hz), fun q h1 h2 => by rw [e1, hk q (Nat.lt_of_lt_of_le h1 hS.1) h2]; exact hS.2.1 q h1 h2, fun q hq => by
      rcases List.mem_append.mp hq with h | h
      · exact hS.2.2 q h
      · exact hL q h⟩ T' rfl X'
  exact ⟨t2, st t2 a1, b1⟩
end SB
/-- what a call's site needs to know of the callee -/
def sm_CL (M' : sm_M) (n : Nat) : Prop := Cond.code M'.1 M'.2.1 M'.2.2.1 M'.2.2.2 ∈ sm_tbl ∧ Cond.initialized M'.1.cls ∈ sm_tbl ∧ plainName M'.1.cls = true ∧ M'.2.2.1 ≤ 11 ∧ (M'.1.cls ≠ "java/lang/invoke/MethodHandle" ∧ M'.1.cls ≠ "java/lang/invoke/VarHandle" ∧ (parseMethodDescriptor M'.1.desc).map (fun d => d.parameters.length) = some n)
def sm_VL (own : String) (ix : Nat) (M' : sm_M) : Prop := Cond.methodLink own ix M'.1 ∈ sm_tbl ∧ Cond.instanceMethod M'.1 ∈ sm_tbl ∧ Cond.selects M'.1.cls M'.1 M'.1 ∈ sm_tbl
def sm_SL (own : String) (ix : Nat) (M' : sm_M) : Prop := Cond.methodLink own ix M'.1 ∈ sm_tbl ∧ Cond.static M'.1 ∈ sm_tbl
def sm_IL (own : String) (ix : Nat) (M' : sm_M) : Prop := Cond.methodLink own ix M'.1 ∈ sm_tbl ∧ Cond.instanceMethod M'.1 ∈ sm_tbl ∧ M'.1.name = "<init>" ∧ M'.2.2.2 = none
def sm_SN (own : String) (ix : Nat) (M' : sm_M) : Prop := (∃ h, (own, ix, M'.1, h) ∈ sm_nw) ∧ Cond.static M'.1 ∈ sm_tbl
def sm_IN (own : String) (ix : Nat) (M' : sm_M) : Prop := (∃ h, (own, ix, M'.1, h) ∈ sm_nw) ∧ Cond.instanceMethod M'.1 ∈ sm_tbl ∧ M'.1.name = "<init>" ∧ M'.2.2.2 = none
section SK
variable {l : Launch} {D : va_G} {cy : Nat → ClassId} {a0 : Nat} {M M' : sm_M} {d : Nat} {Q post : Option Value → va_W → Prop} {pc : Nat} {lv : List (Nat × Value)} {As rest st : List Value} {ws : va_W} {cb sb mc ms ix n : Nat}
theorem sm_blind {As : List Value} {ws : va_W} : FrameBlind (sm_P D cy a0 As ws) := fun a U g mk q => by
  obtain ⟨q0, q1, qP, qK, qD⟩ := q
  exact ⟨q0, q1, qP, qK.same rfl, qD⟩
theorem sm_pre {s : State} {H H0 : Heap} {locs : List Loc} {As : List Value} {ws : va_W} (hK : sm_K D cy s) (hP : va_P D vwCl ws H) (hD : va_D (sm_A a0) ws) (h0 : a0 ≤ H0.size) (hS : va_S (sm_A a0) H0 H locs) : ∀ U : State, U.heap = H → s.WarmedH U.vm → sm_P D cy a0 As ws As.toArray U := fun U hU hW => ⟨rfl, by rw [hU]; exact Nat.le_trans h0 hS.1, by rw [hU]; exact hP, hK.warm hW, hD⟩
theorem sm_callV {i ci b : Nat} {fs : List Value} (hd : decode M.2.1 pc = .ok (.invokevirtual ix, 3)) (hL : sm_VL M.1.cls ix M') (hC : sm_CL M' n) (hn : As.length = n) (hst : st = As.reverse ++ .ref b :: rest) (hw : ws[i]? = some (b, .inr (ci, fs))) (hcl : (vwCl[ci]?).map (fun q => q.1) = some M'.1.cls) (hs : (rest.map fun v => v.category).sum ≤ 8) (hlen : (lg_sl (.ref b :: As)).length ≤ M'.2.2.1) (hc : sm_S l D cy a0 M' d post 0 (lv_args 0 (.ref b :: As)) [] ws mc ms)
    (k : ∀ (r : Option Value) (ws' : va_W), post r ws' → sm_S l D cy a0 M (d + 1) Q (pc + 3) lv (r.toList ++ rest) ws' cb sb) : sm_S l D cy a0 M (d + 1) Q pc lv st ws (cb + mc) (sb + ms) := by
  intro p e R s m args below meth c H locs cells slots Z ls CM SM C hret hP hD hS hl hcc
  obtain ⟨C1, C2, C3, C4, C5, C6, C7, C8, C9, C10⟩ := id C
  obtain ⟨q, hq1, hq2⟩ : ∃ q, vwCl[ci]? = some q ∧ q.1 = M'.1.cls := by
    cases hq : vwCl[ci]? with
    | none => rw [hq] at hcl; cases hcl
    | some q => rw [hq] at hcl; exact ⟨q, rfl, Option.some.inj hcl⟩
  have hrecv := va_recv C6.1 hP hq1 hw
  rw [hq2] at hrecv
  subst hst
  refine sm_back (va_runV (As := As) (rest := rest) (C := M'.1.cls) ⟨C1, C2, C3, C4, C5⟩ (sm_met hC.2.2.1 hlen hc) ⟨callB_of n C5 (sm_goodIn hC.1) rfl rfl rfl (C5 _ hC.2.1) (C5 _ hL.1) hC.2.2.2.2 ⟨by show d + 1 ≤ _; omega, by show 8 + (_ + 11) + 30 * d ≤ _; have := hC.2.2.2.1; omega⟩, C5 _ hL.2.1, C5 _ hL.2.2⟩ ⟨sm_blind, hrecv, sm_pre C6 hP hD C9 hS⟩ rfl hn hl.1 rfl (lv_room hs) hd ⟨by omega, by omega⟩) hS (fun r ws' H1 locs1 hp hP1 hD1 hS1 => ?_)
  exact k r ws' hp p e R s m args below meth c H1 locs1 (cells + mc) (slots + ms) Z ls CM SM C hret hP1 hD1 hS1 hl ⟨by omega, by omega, hcc.2.2.1, hcc.2.2.2⟩
theorem sm_callS (hd : decode M.2.1 pc = .ok (.invokestatic ix, 3)) (hL : sm_SL M.1.cls ix M') (hC : sm_CL M' n) (hn : As.length = n) (hst : st = As.reverse ++ rest) (hs : (rest.map fun v => v.category).sum ≤ 8) (hlen : (lg_sl As).length ≤ M'.2.2.1) (hc : sm_S l D cy a0 M' d post 0 (lv_args 0 As) [] ws mc ms)
    (k : ∀ (r : Option Value) (ws' : va_W), post r ws' → sm_S l D cy a0 M (d + 1) Q (pc + 3) lv (r.toList ++ rest) ws' cb sb) : sm_S l D cy a0 M (d + 1) Q pc lv st ws (cb + mc) (sb + ms) := by
  intro p e R s m args below meth c H locs cells slots Z ls CM SM C hret hP hD hS hl hcc
  obtain ⟨C1, C2, C3, C4, C5, C6, C7, C8, C9, C10⟩ := id C
  subst hst
  refine sm_back (va_runS (As := As) (rest := rest) ⟨C1, C2, C3, C4, C5⟩ (sm_met hC.2.2.1 hlen hc) ⟨callB_of n C5 (sm_goodIn hC.1) rfl rfl rfl (C5 _ hC.2.1) (C5 _ hL.1) hC.2.2.2.2 ⟨by show d + 1 ≤ _; omega, by show 8 + (_ + 11) + 30 * d ≤ _; have := hC.2.2.2.1; omega⟩, C5 _ hL.2⟩ ⟨sm_blind, sm_pre C6 hP hD C9 hS⟩ rfl hn hl.1 rfl (lv_room hs) hd ⟨by omega, by omega⟩) hS (fun r ws' H1 locs1 hp hP1 hD1 hS1 => ?_)
  exact k r ws' hp p e R s m args below meth c H1 locs1 (cells + mc) (slots + ms) Z ls CM SM C hret hP1 hD1 hS1 hl ⟨by omega, by omega, hcc.2.2.1, hcc.2.2.2⟩
theorem sm_callSN (hd : decode M.2.1 pc = .ok (.invokestatic ix, 3)) (hL : sm_SN M.1.cls ix M') (hC : sm_CL M' n) (hn : As.length = n) (hst : st = As.reverse ++ rest) (hs : (rest.map fun v => v.category).sum ≤ 8) (hlen : (lg_sl As).length ≤ M'.2.2.1) (hc : sm_S l D cy a0 M' d post 0 (lv_args 0 As) [] ws mc ms)
    (k : ∀ (r : Option Value) (ws' : va_W), post r ws' → sm_S l D cy a0 M (d + 1) Q (pc + 3) lv (r.toList ++ rest) ws' cb sb) : sm_S l D cy a0 M (d + 1) Q pc lv st ws (cb + mc) (sb + ms) := by
  intro p e R s m args below meth c H locs cells slots Z ls CM SM C hret hP hD hS hl hcc
  obtain ⟨C1, C2, C3, C4, C5, C6, C7, C8, C9, C10⟩ := id C
  obtain ⟨⟨host, hh⟩, hL2⟩ := hL
  subst hst
  refine sm_back (va_runSN (As := As) (rest := rest) (host := host) ⟨C1, C2, C3, C4, C5⟩ (sm_met hC.2.2.1 hlen hc) ⟨va_cnB n C5 (sm_goodIn hC.1) rfl rfl rfl (C6.2.1 _ hh) (C5 _ hC.2.1) hC.2.2.2.2 ⟨by show d + 1 ≤ _; omega, by show 8 + (_ + 11) + 30 * d ≤ _; have := hC.2.2.2.1; omega⟩, C5 _ hL2, trivial⟩ ⟨sm_blind, sm_pre C6 hP hD C9 hS⟩ rfl hn hl.1 rfl (lv_room hs) hd ⟨by omega, by omega⟩) hS (fun r ws' H1 locs1 hp hP1 hD1 hS1 => ?_)
  exact k r ws' hp p e R s m args below meth c H1 locs1 (cells + mc) (slots + ms) Z ls CM SM C hret hP1 hD1 hS1 hl ⟨by omega, by omega, hcc.2.2.1, hcc.2.2.2⟩
theorem sm_callI {b : Nat} (hd : decode M.2.1 pc = .ok (.invokespecial ix, 3)) (hL : sm_IL M.1.cls ix M') (hC : sm_CL M' n) (hn : As.length = n) (hst : st = As.reverse ++ .ref b :: rest) (hs : (rest.map fun v => v.category).sum ≤ 8) (hlen : (lg_sl (.ref b :: As)).length ≤ M'.2.2.1) (hc : sm_S l D cy a0 M' d post 0 (lv_args 0 (.ref b :: As)) [] ws mc ms)
    (k : ∀ (r : Option Value) (ws' : va_W), post r ws' → sm_S l D cy a0 M (d + 1) Q (pc + 3) lv (r.toList ++ rest) ws' cb sb) : sm_S l D cy a0 M (d + 1) Q pc lv st ws (cb + mc) (sb + ms) := by
  intro p e R s m args below meth c H locs cells slots Z ls CM SM C hret hP hD hS hl hcc
  obtain ⟨C1, C2, C3, C4, C5, C6, C7, C8, C9, C10⟩ := id C
  subst hst
  obtain ⟨y, cd, mx, rt⟩ := M'
  obtain ⟨hL1, hL2, hL3, hL4⟩ := hL
  have hL4 : rt = none := hL4
  subst hL4
  refine sm_back (va_runI (As := As) (rest := rest) ⟨C1, C2, C3, C4, C5⟩ (sm_met hC.2.2.1 hlen hc) ⟨callB_of n C5 (sm_goodIn hC.1) rfl rfl rfl (C5 _ hC.2.1) (C5 _ hL1) hC.2.2.2.2 ⟨by show d + 1 ≤ _; omega, by show 8 + (_ + 11) + 30 * d ≤ _; have := hC.2.2.2.1; omega⟩, hL3, C5 _ hL2⟩ ⟨sm_blind, sm_pre C6 hP hD C9 hS⟩ rfl hn hl.1 rfl (lv_room hs) hd ⟨by omega, by omega⟩) hS (fun r ws' H1 locs1 hp hP1 hD1 hS1 => ?_)
  exact k r ws' hp p e R s m args below meth c H1 locs1 (cells + mc) (slots + ms) Z ls CM SM C hret hP1 hD1 hS1 hl ⟨by omega, by omega, hcc.2.2.1, hcc.2.2.2⟩
theorem sm_callIN {b : Nat} (hd : decode M.2.1 pc = .ok (.invokespecial ix, 3)) (hL : sm_IN M.1.cls ix M') (hC : sm_CL M' n) (hn : As.length = n) (hst : st = As.reverse ++ .ref b :: rest) (hs : (rest.map fun v => v.category).sum ≤ 8) (hlen : (lg_sl (.ref b :: As)).length ≤ M'.2.2.1) (hc : sm_S l D cy a0 M' d post 0 (lv_args 0 (.ref b :: As)) [] ws mc ms)
    (k : ∀ (r : Option Value) (ws' : va_W), post r ws' → sm_S l D cy a0 M (d + 1) Q (pc + 3) lv (r.toList ++ rest) ws' cb sb) : sm_S l D cy a0 M (d + 1) Q pc lv st ws (cb + mc) (sb + ms) := by
  intro p e R s m args below meth c H locs cells slots Z ls CM SM C hret hP hD hS hl hcc
  obtain ⟨C1, C2, C3, C4, C5, C6, C7, C8, C9, C10⟩ := id C
  subst hst
  obtain ⟨y, cd, mx, rt⟩ := M'
  obtain ⟨⟨host, hh⟩, hL2, hL3, hL4⟩ := hL
  have hL4 : rt = none := hL4
  subst hL4
  refine sm_back (va_runIN (As := As) (rest := rest) (host := host) ⟨C1, C2, C3, C4, C5⟩ (sm_met hC.2.2.1 hlen hc) ⟨va_cnB n C5 (sm_goodIn hC.1) rfl rfl rfl (C6.2.1 _ hh) (C5 _ hC.2.1) hC.2.2.2.2 ⟨by show d + 1 ≤ _; omega, by show 8 + (_ + 11) + 30 * d ≤ _; have := hC.2.2.2.1; omega⟩, hL3, C5 _ hL2⟩ ⟨sm_blind, sm_pre C6 hP hD C9 hS⟩ rfl hn hl.1 rfl (lv_room hs) hd ⟨by omega, by omega⟩) hS (fun r ws' H1 locs1 hp hP1 hD1 hS1 => ?_)
  exact k r ws' hp p e R s m args below meth c H1 locs1 (cells + mc) (slots + ms) Z ls CM SM C hret hP1 hD1 hS1 hl ⟨by omega, by omega, hcc.2.2.1, hcc.2.2.2⟩
end SK
