/-! the class's own constructor: the cells grow -/
def gl (n : Nat) (ad : Nat → Nat) (E : Nat → va_E) : va_W := (List.range n).map (fun i => (ad i, E i))
theorem gl_s (n : Nat) (ad : Nat → Nat) (E : Nat → va_E) : gl (n + 1) ad E = gl n ad E ++ [(ad n, E n)] := by
  unfold gl
  rw [List.range_succ, List.map_append]
  rfl
theorem gl_len {n : Nat} {ad : Nat → Nat} {E : Nat → va_E} : (gl n ad E).length = n := by
  unfold gl
  rw [List.length_map, List.length_range]
theorem gl_at {n i : Nat} {ad : Nat → Nat} {E : Nat → va_E} (h : i < n) : (gl n ad E)[i]? = some (ad i, E i) := by
  unfold gl
  rw [List.getElem?_map, List.getElem?_range h]
  rfl
theorem gl_cg {n : Nat} {ad ad' : Nat → Nat} {E E' : Nat → va_E} (h : ∀ i, i < n → ad i = ad' i ∧ E i = E' i) : gl n ad E = gl n ad' E' := by
  unfold gl
  apply List.map_congr_left
  intro i hi
  have hi := List.mem_range.mp hi
  rw [(h i hi).1, (h i hi).2]
theorem gl_set {n i : Nat} {ad : Nat → Nat} {E E' : Nat → va_E} {e : va_E} (h : i < n) (he : E' i = e) (hE : ∀ j, j < n → j ≠ i → E' j = E j) : (gl n ad E).set i (ad i, e) = gl n ad E' := by
  apply List.ext_getElem?
  intro k
  by_cases hk : k = i
  · subst hk
    rw [List.getElem?_set_self (by rw [gl_len]; exact h), gl_at h, he]
  · rw [List.getElem?_set_ne (Ne.symm hk)]
    by_cases hn : k < n
    · rw [gl_at hn, gl_at hn, hE k hn hk]
    · rw [List.getElem?_eq_none (by rw [gl_len]; omega), List.getElem?_eq_none (by rw [gl_len]; omega)]
theorem gl_7 (n : Nat) (ad : Nat → Nat) (E : Nat → va_E) : gl (n + 7) ad E = gl n ad E ++ [(ad n, E n), (ad (n + 1), E (n + 1)), (ad (n + 2), E (n + 2)), (ad (n + 3), E (n + 3)), (ad (n + 4), E (n + 4)), (ad (n + 5), E (n + 5)), (ad (n + 6), E (n + 6))] := by
  rw [gl_s (n + 6), gl_s (n + 5), gl_s (n + 4), gl_s (n + 3), gl_s (n + 2), gl_s (n + 1), gl_s n]
  simp only [List.append_assoc, List.cons_append, List.nil_append]
theorem gl_2 (n : Nat) (ad : Nat → Nat) (E : Nat → va_E) : gl (n + 2) ad E = gl n ad E ++ [(ad n, E n), (ad (n + 1), E (n + 1))] := by
  rw [gl_s (n + 1), gl_s n]
  simp only [List.append_assoc, List.cons_append, List.nil_append]
theorem ad_ext (n : Nat) (ad : Nat → Nat) (qs : List Nat) : ∃ ad' : Nat → Nat, (∀ i, i < n → ad' i = ad i) ∧ ∀ k, ad' (n + k) = qs.getD k 0 :=
  ⟨fun i => if i < n then ad i else qs.getD (i - n) 0, fun i hi => if_pos hi, fun k => by
    show (if n + k < n then ad (n + k) else qs.getD (n + k - n) 0) = qs.getD k 0
    rw [if_neg (by omega), Nat.add_sub_cancel_left]⟩
def xZ : nX := fun a => if a = 101 then (fun k => if k = 4 then 1 else 0) else fun _ => 0
def yZ : nY := fun _ _ => 0
theorem xZ_ne {a : Nat} (h : a ≠ 101) : xZ a = fun _ => 0 := if_neg h
def arW (ad : Nat → Nat) (cy : Nat → ClassId) (w : Nat) : va_E := .inl (cy 3, 12, .inr (.inr (.inr (.inr (fun v => if v < w then some (ad (2 + 7 * v)) else none)))))
def arS (ad : Nat → Nat) (cy : Nat → ClassId) (w : Nat) : va_E := .inl (cy 4, 4, .inr (.inr (.inr (.inr (fun v => if v < w then some (ad (87 + 2 * v)) else none)))))
def e1 (ad : Nat → Nat) (cy : Nat → ClassId) (w i : Nat) : va_E := if i = 0 then .inr (7, [.ref (ad 1), .null, .null, .null, .null, .null, .int 0, .int 0, .int 0]) else if i = 1 then arW ad cy w else sh ad cy i (xZ i) (yZ i)
def e2 (ad : Nat → Nat) (cy : Nat → ClassId) (w i : Nat) : va_E := if i = 0 then .inr (7, [.ref (ad 1), .ref (ad 86), .null, .null, .null, .null, .int 0, .int 0, .int 0]) else if i = 86 then arS ad cy w else sh ad cy i (xZ i) (yZ i)
def e3 (ad : Nat → Nat) (cy : Nat → ClassId) (m : va_E) (i : Nat) : va_E := if i = 0 then m else sh ad cy i (xZ i) (yZ i)
theorem arW_cg {ad ad' : Nat → Nat} {cy : Nat → ClassId} {w : Nat} (h : ∀ v, v < w → ad' (2 + 7 * v) = ad (2 + 7 * v)) : arW ad' cy w = arW ad cy w := by
  unfold arW
  have e : (fun v => if v < w then some (ad' (2 + 7 * v)) else none) = (fun v => if v < w then some (ad (2 + 7 * v)) else none) := by
    funext v
    by_cases hv : v < w
    · rw [if_pos hv, if_pos hv, h v hv]
    · rw [if_neg hv, if_neg hv]
  rw [e]
theorem arS_cg {ad ad' : Nat → Nat} {cy : Nat → ClassId} {w : Nat} (h : ∀ v, v < w → ad' (87 + 2 * v) = ad (87 + 2 * v)) : arS ad' cy w = arS ad cy w := by
  unfold arS
  have e : (fun v => if v < w then some (ad' (87 + 2 * v)) else none) = (fun v => if v < w then some (ad (87 + 2 * v)) else none) := by
    funext v
    by_cases hv : v < w
    · rw [if_pos hv, if_pos hv, h v hv]
    · rw [if_neg hv, if_neg hv]
  rw [e]
theorem sh_w_cg {ad ad' : Nat → Nat} {cy : Nat → ClassId} {v k : Nat} {f : Nat → Int32} {g : Nat → Int64} (h : ∀ j, j ≤ 8 + 7 * v → ad' j = ad j) : sh_w ad' cy v k f g = sh_w ad cy v k f g := by
  unfold sh_w
  rw [h (3 + 7 * v) (by omega), h (4 + 7 * v) (by omega), h (5 + 7 * v) (by omega), h (6 + 7 * v) (by omega), h (7 + 7 * v) (by omega), h (8 + 7 * v) (by omega)]
theorem sh_s_cg {ad ad' : Nat → Nat} {cy : Nat → ClassId} {v k : Nat} {f : Nat → Int32} {g : Nat → Int64} (h : ∀ j, j ≤ 88 + 2 * v → ad' j = ad j) : sh_s ad' cy v k f g = sh_s ad cy v k f g := by
  unfold sh_s
  rw [h (88 + 2 * v) (by omega)]
/-- a worth's cell reads no cell behind its own seven -/
theorem sh_cgW {ad ad' : Nat → Nat} {cy : Nat → ClassId} {w i : Nat} {f : Nat → Int32} {g : Nat → Int64} (hw : w ≤ 12) (h2 : 2 ≤ i) (hi : i < 2 + 7 * w) (h : ∀ j, j < 2 + 7 * w → ad' j = ad j) : sh ad' cy i f g = sh ad cy i f g := by
  unfold sh
  rw [if_pos ⟨h2, by omega⟩, if_pos ⟨h2, by omega⟩]
  exact sh_w_cg (fun j hj => h j (by omega))
theorem sh_cgS {ad ad' : Nat → Nat} {cy : Nat → ClassId} {w i : Nat} {f : Nat → Int32} {g : Nat → Int64} (hw : w ≤ 4) (h1 : 1 ≤ i) (h86 : i ≠ 86) (hi : i < 87 + 2 * w) (h : ∀ j, j < 87 + 2 * w → ad' j = ad j) : sh ad' cy i f g = sh ad cy i f g := by
  by_cases h2 : 2 ≤ i
  · by_cases h3 : i < 86
    · exact sh_cgW (w := 12) (Nat.le_refl _) h2 h3 (fun j hj => h j (by omega))
    · unfold sh
      have hc : ¬ (2 ≤ i ∧ i < 86) := by omega
      have hs : 87 ≤ i ∧ i < 95 := ⟨by omega, by omega⟩
      rw [if_neg hc, if_neg hc, if_pos hs, if_pos hs]
      exact sh_s_cg (fun j hj => h j (by omega))
  · have e : i = 1 := by omega
    subst e
    exact arW_cg (w := 12) (fun v hv => h _ (by omega))
theorem sh_cg95 {ad ad' : Nat → Nat} {cy : Nat → ClassId} {i : Nat} {f : Nat → Int32} {g : Nat → Int64} (h1 : 1 ≤ i) (hi : i < 95) (h : ∀ j, j < 95 → ad' j = ad j) : sh ad' cy i f g = sh ad cy i f g := by
  by_cases h86 : i = 86
  · subst h86
    exact arS_cg (w := 4) (fun v hv => h _ (by omega))
  · exact sh_cgS (w := 4) (Nat.le_refl _) h1 h86 hi h
theorem gw_step {ad ad' : Nat → Nat} {cy : Nat → ClassId} {w q0 q1 q2 q3 q4 q5 q6 : Nat} (hw : w < 12) (hlo : ∀ i, i < 2 + 7 * w → ad' i = ad i) (hhi : ∀ k, ad' (2 + 7 * w + k) = [q0, q1, q2, q3, q4, q5, q6].getD k 0) :
    (gl (2 + 7 * w) ad (e1 ad cy w) ++ ([(q0, .inr (6, [.ref q1, .ref q2, .ref q5, .ref q6, .int 0, .int 0, .int 0, .int 0, .int 0])), (q1, .inl (cy 1, 1024, .inr (.inl (fun _ => 0)))), (q2, .inr (3, [.ref q3, .ref q4])), (q3, .inl (cy 0, 40, .inl (fun _ => 0))), (q4, .inl (cy 1, 16, .inr (.inl (fun _ => 0)))), (q5, .inl (cy 0, 10, .inl (fun _ => 0))), (q6, .inl (cy 0, 10, .inl (fun _ => 0)))] : va_W)).set 1 (ad 1, .inl (cy 3, 12, .inr (.inr (.inr (.inr (va_up (fun v => if v < w then some (ad (2 + 7 * v)) else none) w (some q0))))))) = gl (2 + 7 * (w + 1)) ad' (e1 ad' cy (w + 1)) := by
  have a0 : ad' (2 + 7 * w) = q0 := hhi 0
  have a1 : ad' (2 + 7 * w + 1) = q1 := hhi 1
  have a2 : ad' (2 + 7 * w + 2) = q2 := hhi 2
  have a3 : ad' (2 + 7 * w + 3) = q3 := hhi 3
  have a4 : ad' (2 + 7 * w + 4) = q4 := hhi 4
  have a5 : ad' (2 + 7 * w + 5) = q5 := hhi 5
  have a6 : ad' (2 + 7 * w + 6) = q6 := hhi 6
  have b1 : ad' (3 + 7 * w) = q1 := by rw [← a1]; congr 1; omega
  have b2 : ad' (4 + 7 * w) = q2 := by rw [← a2]; congr 1; omega
  have b3 : ad' (5 + 7 * w) = q3 := by rw [← a3]; congr 1; omega
  have b4 : ad' (6 + 7 * w) = q4 := by rw [← a4]; congr 1; omega
  have b5 : ad' (7 + 7 * w) = q5 := by rw [← a5]; congr 1; omega
  have b6 : ad' (8 + 7 * w) = q6 := by rw [← a6]; congr 1; omega
  have eF : (va_up (fun v => if v < w then some (ad (2 + 7 * v)) else none) w (some q0)) = fun v => if v < w + 1 then some (ad' (2 + 7 * v)) else none := by
    funext v
    unfold va_up
    by_cases hv : v = w
    · subst hv
      rw [if_pos rfl, if_pos (by omega), a0]
    · rw [if_neg hv]
      show (if v < w then some (ad (2 + 7 * v)) else none) = _
      by_cases hl : v < w
      · rw [if_pos hl, if_pos (by omega), hlo _ (by omega)]
      · rw [if_neg hl, if_neg (by omega)]
  rw [eF, List.set_append_left _ _ (by rw [gl_len]; omega), gl_set (i := 1) (e := .inl (cy 3, 12, .inr (.inr (.inr (.inr (fun v => if v < w + 1 then some (ad' (2 + 7 * v)) else none)))))) (E' := e1 ad' cy (w + 1)) (by omega) rfl (fun j hj h1 => by
    unfold e1
    by_cases h0 : j = 0
    · rw [if_pos h0, if_pos h0, hlo 1 (by omega)]
    · rw [if_neg h0, if_neg h0, if_neg h1, if_neg h1]
      exact sh_cgW (by omega) (by omega) hj hlo), show 2 + 7 * (w + 1) = 2 + 7 * w + 7 by omega, gl_7, gl_cg (ad := ad) (ad' := ad') (E' := e1 ad' cy (w + 1)) (fun i hi => ⟨(hlo i hi).symm, rfl⟩)]
  have c0 : e1 ad' cy (w + 1) (2 + 7 * w) = .inr (6, [.ref q1, .ref q2, .ref q5, .ref q6, .int 0, .int 0, .int 0, .int 0, .int 0]) := by
    unfold e1
    rw [if_neg (by omega), if_neg (by omega), sh_w0 hw, xZ_ne (by omega), b1, b2, b5, b6]
  have c1 : e1 ad' cy (w + 1) (2 + 7 * w + 1) = .inl (cy 1, 1024, .inr (.inl (fun _ => 0))) := by
    rw [show 2 + 7 * w + 1 = 3 + 7 * w by omega]
    unfold e1
    rw [if_neg (by omega), if_neg (by omega), sh_w1 hw]
    rfl
  have c2 : e1 ad' cy (w + 1) (2 + 7 * w + 2) = .inr (3, [.ref q3, .ref q4]) := by
    rw [show 2 + 7 * w + 2 = 4 + 7 * w by omega]
    unfold e1
    rw [if_neg (by omega), if_neg (by omega), sh_w2 hw, b3, b4]
  have c3 : e1 ad' cy (w + 1) (2 + 7 * w + 3) = .inl (cy 0, 40, .inl (fun _ => 0)) := by
    rw [show 2 + 7 * w + 3 = 5 + 7 * w by omega]
    unfold e1
    rw [if_neg (by omega), if_neg (by omega), sh_w3 hw, xZ_ne (by omega)]
  have c4 : e1 ad' cy (w + 1) (2 + 7 * w + 4) = .inl (cy 1, 16, .inr (.inl (fun _ => 0))) := by
    rw [show 2 + 7 * w + 4 = 6 + 7 * w by omega]
    unfold e1
    rw [if_neg (by omega), if_neg (by omega), sh_w4 hw]
    rfl
  have c5 : e1 ad' cy (w + 1) (2 + 7 * w + 5) = .inl (cy 0, 10, .inl (fun _ => 0)) := by
    rw [show 2 + 7 * w + 5 = 7 + 7 * w by omega]
    unfold e1
    rw [if_neg (by omega), if_neg (by omega), sh_w5 hw, xZ_ne (by omega)]
  have c6 : e1 ad' cy (w + 1) (2 + 7 * w + 6) = .inl (cy 0, 10, .inl (fun _ => 0)) := by
    rw [show 2 + 7 * w + 6 = 8 + 7 * w by omega]
    unfold e1
    rw [if_neg (by omega), if_neg (by omega), sh_w6 hw, xZ_ne (by omega)]
  rw [c0, c1, c2, c3, c4, c5, c6, a0, a1, a2, a3, a4, a5, a6]
theorem gs_step {ad ad' : Nat → Nat} {cy : Nat → ClassId} {w q0 q1 : Nat} (hw : w < 4) (hlo : ∀ i, i < 87 + 2 * w → ad' i = ad i) (hhi : ∀ k, ad' (87 + 2 * w + k) = [q0, q1].getD k 0) :
    (gl (87 + 2 * w) ad (e2 ad cy w) ++ ([(q0, .inr (5, [.ref q1, .int 0, .int 0, .int 0])), (q1, .inl (cy 1, 1100, .inr (.inl (fun _ => 0))))] : va_W)).set 86 (ad 86, .inl (cy 4, 4, .inr (.inr (.inr (.inr (va_up (fun v => if v < w then some (ad (87 + 2 * v)) else none) w (some q0))))))) = gl (87 + 2 * (w + 1)) ad' (e2 ad' cy (w + 1)) := by
  have a0 : ad' (87 + 2 * w) = q0 := hhi 0
  have a1 : ad' (87 + 2 * w + 1) = q1 := hhi 1
  have b1 : ad' (88 + 2 * w) = q1 := by rw [← a1]; congr 1; omega
  have eF : (va_up (fun v => if v < w then some (ad (87 + 2 * v)) else none) w (some q0)) = fun v => if v < w + 1 then some (ad' (87 + 2 * v)) else none := by
    funext v
    unfold va_up
    by_cases hv : v = w
    · subst hv
      rw [if_pos rfl, if_pos (by omega), a0]
    · rw [if_neg hv]
      show (if v < w then some (ad (87 + 2 * v)) else none) = _
      by_cases hl : v < w
      · rw [if_pos hl, if_pos (by omega), hlo _ (by omega)]
      · rw [if_neg hl, if_neg (by omega)]
  rw [eF, List.set_append_left _ _ (by rw [gl_len]; omega), gl_set (i := 86) (e := .inl (cy 4, 4, .inr (.inr (.inr (.inr (fun v => if v < w + 1 then some (ad' (87 + 2 * v)) else none)))))) (E' := e2 ad' cy (w + 1)) (by omega) rfl (fun j hj h1 => by
    unfold e2
    by_cases h0 : j = 0
    · rw [if_pos h0, if_pos h0, hlo 1 (by omega), hlo 86 (by omega)]
    · rw [if_neg h0, if_neg h0, if_neg h1, if_neg h1]
      exact sh_cgS (by omega) (by omega) h1 hj hlo), show 87 + 2 * (w + 1) = 87 + 2 * w + 2 by omega, gl_2, gl_cg (ad := ad) (ad' := ad') (E' := e2 ad' cy (w + 1)) (fun i hi => ⟨(hlo i hi).symm, rfl⟩)]
  have c0 : e2 ad' cy (w + 1) (87 + 2 * w) = .inr (5, [.ref q1, .int 0, .int 0, .int 0]) := by
    unfold e2
    rw [if_neg (by omega), if_neg (by omega), sh_s0 hw, xZ_ne (by omega), b1]
  have c1 : e2 ad' cy (w + 1) (87 + 2 * w + 1) = .inl (cy 1, 1100, .inr (.inl (fun _ => 0))) := by
    rw [show 87 + 2 * w + 1 = 88 + 2 * w by omega]
    unfold e2
    rw [if_neg (by omega), if_neg (by omega), sh_s1 hw]
    rfl
  rw [c0, c1, a0, a1]
