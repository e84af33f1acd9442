/-! the world: 126 cells; cell i lies at ad i; its numbers are f (ints, truths) and g (longs) -/
def sh_w (ad : Nat → Nat) (cy : Nat → ClassId) (w k : Nat) (f : Nat → Int32) (g : Nat → Int64) : va_E := match k with
  | 0 => .inr (6, [.ref (ad (3 + 7 * w)), .ref (ad (4 + 7 * w)), .ref (ad (7 + 7 * w)), .ref (ad (8 + 7 * w)), .int (f 4), .int (f 5), .int (f 6), .int (f 7), .int (f 8)])
  | 1 => .inl (cy 1, 1024, .inr (.inl g))
  | 2 => .inr (3, [.ref (ad (5 + 7 * w)), .ref (ad (6 + 7 * w))])
  | 3 => .inl (cy 0, 40, .inl f)
  | 4 => .inl (cy 1, 16, .inr (.inl g))
  | 5 => .inl (cy 0, 10, .inl f)
  | _ => .inl (cy 0, 10, .inl f)
def sh_s (ad : Nat → Nat) (cy : Nat → ClassId) (w k : Nat) (f : Nat → Int32) (g : Nat → Int64) : va_E := match k with
  | 0 => .inr (5, [.ref (ad (88 + 2 * w)), .int (f 1), .int (f 2), .int (f 3)])
  | _ => .inl (cy 1, 1100, .inr (.inl g))
def sh_r (ad : Nat → Nat) (cy : Nat → ClassId) (i : Nat) (f : Nat → Int32) (g : Nat → Int64) : va_E := match i with
  | 0 => .inr (7, [.ref (ad (1)), .ref (ad (86)), .ref (ad (95)), .ref (ad (96)), .ref (ad (98)), .ref (ad (101)), .int (f 6), .int (f 7), .int (f 8)])
  | 1 => .inl (cy 3, 12, .inr (.inr (.inr (.inr (fun w => if w < 12 then some (ad (2 + 7 * w)) else none)))))
  | 86 => .inl (cy 4, 4, .inr (.inr (.inr (.inr (fun w => if w < 4 then some (ad (87 + 2 * w)) else none)))))
  | 95 => .inr (0, [.int (f 0), .int (f 1), .int (f 2)])
  | 96 => .inr (1, [.ref (ad (97)), .int (f 1), .int (f 2), .int (f 3)])
  | 97 => .inl (cy 0, 10, .inl f)
  | 98 => .inr (2, [.ref (ad (99)), .ref (ad (100)), .int (f 2), .int (f 3)])
  | 99 => .inl (cy 1, 11, .inr (.inl g))
  | 100 => .inl (cy 0, 11, .inl f)
  | 101 => .inr (4, [.ref (ad (102)), .ref (ad (103)), .ref (ad (104)), .int (f 3), .int (f 4)])
  | 102 => .inl (cy 0, 10, .inl f)
  | 103 => .inl (cy 1, 10, .inr (.inl g))
  | 104 => .inl (cy 1, 10, .inr (.inl g))
  | 105 => .inr (8, [.int (f 0), .int (f 1), .ref (ad (106)), .ref (ad (107)), .ref (ad (108)), .ref (ad (109)), .ref (ad (110)), .ref (ad (111)), .ref (ad (112)), .ref (ad (113)), .ref (ad (114)), .ref (ad (115)), .ref (ad (116)), .ref (ad (117)), .ref (ad (118)), .long (g 15), .ref (ad (119)), .ref (ad (120)), .ref (ad (121)), .int (f 19), .ref (ad (122)), .ref (ad (123)), .ref (ad (124)), .ref (ad (125))])
  | 106 => .inl (cy 0, 12, .inl f)
  | 107 => .inl (cy 2, 12, .inl f)
  | 108 => .inl (cy 1, 12288, .inr (.inl g))
  | 109 => .inl (cy 0, 12, .inl f)
  | 110 => .inl (cy 0, 288, .inl f)
  | 111 => .inl (cy 0, 288, .inl f)
  | 112 => .inl (cy 0, 288, .inl f)
  | 113 => .inl (cy 0, 480, .inl f)
  | 114 => .inl (cy 0, 120, .inl f)
  | 115 => .inl (cy 0, 12, .inl f)
  | 116 => .inl (cy 0, 12, .inl f)
  | 117 => .inl (cy 0, 10, .inl f)
  | 118 => .inl (cy 1, 10, .inr (.inl g))
  | 119 => .inl (cy 0, 4, .inl f)
  | 120 => .inl (cy 0, 4, .inl f)
  | 121 => .inl (cy 1, 4400, .inr (.inl g))
  | 122 => .inl (cy 1, 40, .inr (.inl g))
  | 123 => .inl (cy 0, 11, .inl f)
  | 124 => .inl (cy 1, 11, .inr (.inl g))
  | _ => .inl (cy 1, 10, .inr (.inl g))
def sh (ad : Nat → Nat) (cy : Nat → ClassId) (i : Nat) (f : Nat → Int32) (g : Nat → Int64) : va_E :=
  if 2 ≤ i ∧ i < 86 then sh_w ad cy ((i - 2) / 7) ((i - 2) % 7) f g else if 87 ≤ i ∧ i < 95 then sh_s ad cy ((i - 87) / 2) ((i - 87) % 2) f g else sh_r ad cy i f g
abbrev cx : Type := Launch × va_G × (Nat → ClassId) × Nat × (Nat → Nat)
abbrev c_ad (c : cx) : Nat → Nat := c.2.2.2.2
abbrev c_cy (c : cx) : Nat → ClassId := c.2.2.1
abbrev nX : Type := Nat → Nat → Int32
abbrev nY : Type := Nat → Nat → Int64
def zw (ad : Nat → Nat) (cy : Nat → ClassId) (X : nX) (Y : nY) : va_W := (List.range 126).map (fun i => (ad i, sh ad cy i (X i) (Y i)))
def up2 (X : nX) (i k : Nat) (v : Int32) : nX := fun a => if a = i then upd (X i) k v else X a
def upl (Y : nY) (i k : Nat) (v : Int64) : nY := fun a => if a = i then vp_updL (Y i) k v else Y a
theorem up2_at (X : nX) (i k : Nat) (v : Int32) (a b : Nat) : up2 X i k v a b = if a = i ∧ b = k then v else X a b := by
  unfold up2 upd
  by_cases h : a = i <;> by_cases h2 : b = k <;> simp [h, h2]
theorem upl_at (Y : nY) (i k : Nat) (v : Int64) (a b : Nat) : upl Y i k v a b = if a = i ∧ b = k then v else Y a b := by
  unfold upl vp_updL
  by_cases h : a = i <;> by_cases h2 : b = k <;> simp [h, h2]
theorem zw_at {ad : Nat → Nat} {cy : Nat → ClassId} {X : nX} {Y : nY} {i : Nat} (h : i < 126) : (zw ad cy X Y)[i]? = some (ad i, sh ad cy i (X i) (Y i)) := by
  unfold zw
  rw [List.getElem?_map, List.getElem?_range h]
  rfl
theorem zw_set {ad : Nat → Nat} {cy : Nat → ClassId} {X X' : nX} {Y Y' : nY} {i : Nat} {e : va_E} (h : i < 126) (he : sh ad cy i (X' i) (Y' i) = e) (hX : ∀ a, a ≠ i → X' a = X a) (hY : ∀ a, a ≠ i → Y' a = Y a) : (zw ad cy X Y).set i (ad i, e) = zw ad cy X' Y' := by
  apply List.ext_getElem?
  intro k
  by_cases hk : k = i
  · subst hk
    rw [List.getElem?_set_self (by unfold zw; simpa using h), zw_at h, he]
  · rw [List.getElem?_set_ne (Ne.symm hk)]
    unfold zw
    rw [List.getElem?_map, List.getElem?_map]
    cases hr : (List.range 126)[k]? with
    | none => rfl
    | some q =>
      have hq : q = k := by
        have h2 := (List.getElem?_eq_some_iff.mp hr)
        obtain ⟨h3, h4⟩ := h2
        rw [List.getElem_range] at h4
        exact h4.symm
      subst hq
      show some (ad q, sh ad cy q (X q) (Y q)) = some (ad q, sh ad cy q (X' q) (Y' q))
      rw [hX q hk, hY q hk]
theorem up2_ne {X : nX} {i k : Nat} {v : Int32} : ∀ a, a ≠ i → up2 X i k v a = X a := fun a h => by unfold up2; rw [if_neg h]
theorem upl_ne {Y : nY} {i k : Nat} {v : Int64} : ∀ a, a ≠ i → upl Y i k v a = Y a := fun a h => by unfold upl; rw [if_neg h]
theorem up2_eq {X : nX} {i k : Nat} {v : Int32} : up2 X i k v i = upd (X i) k v := by unfold up2; rw [if_pos rfl]
theorem upl_eq {Y : nY} {i k : Nat} {v : Int64} : upl Y i k v i = vp_updL (Y i) k v := by unfold upl; rw [if_pos rfl]
theorem sh_w0 {ad : Nat → Nat} {cy : Nat → ClassId} {w : Nat} (h : w < 12) (f : Nat → Int32) (g : Nat → Int64) : sh ad cy (2 + 7 * w) f g = .inr (6, [.ref (ad (3 + 7 * w)), .ref (ad (4 + 7 * w)), .ref (ad (7 + 7 * w)), .ref (ad (8 + 7 * w)), .int (f 4), .int (f 5), .int (f 6), .int (f 7), .int (f 8)]) := by
  unfold sh
  rw [if_pos ⟨by omega, by omega⟩, show (2 + 7 * w - 2) / 7 = w by omega, show (2 + 7 * w - 2) % 7 = 0 by omega]
  rfl
theorem sh_w1 {ad : Nat → Nat} {cy : Nat → ClassId} {w : Nat} (h : w < 12) (f : Nat → Int32) (g : Nat → Int64) : sh ad cy (3 + 7 * w) f g = .inl (cy 1, 1024, .inr (.inl g)) := by
  unfold sh
  rw [if_pos ⟨by omega, by omega⟩, show (3 + 7 * w - 2) / 7 = w by omega, show (3 + 7 * w - 2) % 7 = 1 by omega]
  rfl
theorem sh_w2 {ad : Nat → Nat} {cy : Nat → ClassId} {w : Nat} (h : w < 12) (f : Nat → Int32) (g : Nat → Int64) : sh ad cy (4 + 7 * w) f g = .inr (3, [.ref (ad (5 + 7 * w)), .ref (ad (6 + 7 * w))]) := by
  unfold sh
  rw [if_pos ⟨by omega, by omega⟩, show (4 + 7 * w - 2) / 7 = w by omega, show (4 + 7 * w - 2) % 7 = 2 by omega]
  rfl
theorem sh_w3 {ad : Nat → Nat} {cy : Nat → ClassId} {w : Nat} (h : w < 12) (f : Nat → Int32) (g : Nat → Int64) : sh ad cy (5 + 7 * w) f g = .inl (cy 0, 40, .inl f) := by
  unfold sh
  rw [if_pos ⟨by omega, by omega⟩, show (5 + 7 * w - 2) / 7 = w by omega, show (5 + 7 * w - 2) % 7 = 3 by omega]
  rfl
theorem sh_w4 {ad : Nat → Nat} {cy : Nat → ClassId} {w : Nat} (h : w < 12) (f : Nat → Int32) (g : Nat → Int64) : sh ad cy (6 + 7 * w) f g = .inl (cy 1, 16, .inr (.inl g)) := by
  unfold sh
  rw [if_pos ⟨by omega, by omega⟩, show (6 + 7 * w - 2) / 7 = w by omega, show (6 + 7 * w - 2) % 7 = 4 by omega]
  rfl
theorem sh_w5 {ad : Nat → Nat} {cy : Nat → ClassId} {w : Nat} (h : w < 12) (f : Nat → Int32) (g : Nat → Int64) : sh ad cy (7 + 7 * w) f g = .inl (cy 0, 10, .inl f) := by
  unfold sh
  rw [if_pos ⟨by omega, by omega⟩, show (7 + 7 * w - 2) / 7 = w by omega, show (7 + 7 * w - 2) % 7 = 5 by omega]
  rfl
theorem sh_w6 {ad : Nat → Nat} {cy : Nat → ClassId} {w : Nat} (h : w < 12) (f : Nat → Int32) (g : Nat → Int64) : sh ad cy (8 + 7 * w) f g = .inl (cy 0, 10, .inl f) := by
  unfold sh
  rw [if_pos ⟨by omega, by omega⟩, show (8 + 7 * w - 2) / 7 = w by omega, show (8 + 7 * w - 2) % 7 = 6 by omega]
  rfl
theorem sh_s0 {ad : Nat → Nat} {cy : Nat → ClassId} {w : Nat} (h : w < 4) (f : Nat → Int32) (g : Nat → Int64) : sh ad cy (87 + 2 * w) f g = .inr (5, [.ref (ad (88 + 2 * w)), .int (f 1), .int (f 2), .int (f 3)]) := by
  unfold sh
  rw [if_neg (by omega), if_pos ⟨by omega, by omega⟩, show (87 + 2 * w - 87) / 2 = w by omega, show (87 + 2 * w - 87) % 2 = 0 by omega]
  rfl
theorem sh_s1 {ad : Nat → Nat} {cy : Nat → ClassId} {w : Nat} (h : w < 4) (f : Nat → Int32) (g : Nat → Int64) : sh ad cy (88 + 2 * w) f g = .inl (cy 1, 1100, .inr (.inl g)) := by
  unfold sh
  rw [if_neg (by omega), if_pos ⟨by omega, by omega⟩, show (88 + 2 * w - 87) / 2 = w by omega, show (88 + 2 * w - 87) % 2 = 1 by omega]
  rfl
theorem sh_r0 {ad : Nat → Nat} {cy : Nat → ClassId} (f : Nat → Int32) (g : Nat → Int64) : sh ad cy 0 f g = .inr (7, [.ref (ad (1)), .ref (ad (86)), .ref (ad (95)), .ref (ad (96)), .ref (ad (98)), .ref (ad (101)), .int (f 6), .int (f 7), .int (f 8)]) := rfl
theorem sh_r1 {ad : Nat → Nat} {cy : Nat → ClassId} (f : Nat → Int32) (g : Nat → Int64) : sh ad cy 1 f g = .inl (cy 3, 12, .inr (.inr (.inr (.inr (fun w => if w < 12 then some (ad (2 + 7 * w)) else none))))) := rfl
theorem sh_r86 {ad : Nat → Nat} {cy : Nat → ClassId} (f : Nat → Int32) (g : Nat → Int64) : sh ad cy 86 f g = .inl (cy 4, 4, .inr (.inr (.inr (.inr (fun w => if w < 4 then some (ad (87 + 2 * w)) else none))))) := rfl
theorem sh_r95 {ad : Nat → Nat} {cy : Nat → ClassId} (f : Nat → Int32) (g : Nat → Int64) : sh ad cy 95 f g = .inr (0, [.int (f 0), .int (f 1), .int (f 2)]) := rfl
theorem sh_r96 {ad : Nat → Nat} {cy : Nat → ClassId} (f : Nat → Int32) (g : Nat → Int64) : sh ad cy 96 f g = .inr (1, [.ref (ad (97)), .int (f 1), .int (f 2), .int (f 3)]) := rfl
theorem sh_r97 {ad : Nat → Nat} {cy : Nat → ClassId} (f : Nat → Int32) (g : Nat → Int64) : sh ad cy 97 f g = .inl (cy 0, 10, .inl f) := rfl
theorem sh_r98 {ad : Nat → Nat} {cy : Nat → ClassId} (f : Nat → Int32) (g : Nat → Int64) : sh ad cy 98 f g = .inr (2, [.ref (ad (99)), .ref (ad (100)), .int (f 2), .int (f 3)]) := rfl
theorem sh_r99 {ad : Nat → Nat} {cy : Nat → ClassId} (f : Nat → Int32) (g : Nat → Int64) : sh ad cy 99 f g = .inl (cy 1, 11, .inr (.inl g)) := rfl
theorem sh_r100 {ad : Nat → Nat} {cy : Nat → ClassId} (f : Nat → Int32) (g : Nat → Int64) : sh ad cy 100 f g = .inl (cy 0, 11, .inl f) := rfl
theorem sh_r101 {ad : Nat → Nat} {cy : Nat → ClassId} (f : Nat → Int32) (g : Nat → Int64) : sh ad cy 101 f g = .inr (4, [.ref (ad (102)), .ref (ad (103)), .ref (ad (104)), .int (f 3), .int (f 4)]) := rfl
theorem sh_r102 {ad : Nat → Nat} {cy : Nat → ClassId} (f : Nat → Int32) (g : Nat → Int64) : sh ad cy 102 f g = .inl (cy 0, 10, .inl f) := rfl
theorem sh_r103 {ad : Nat → Nat} {cy : Nat → ClassId} (f : Nat → Int32) (g : Nat → Int64) : sh ad cy 103 f g = .inl (cy 1, 10, .inr (.inl g)) := rfl
theorem sh_r104 {ad : Nat → Nat} {cy : Nat → ClassId} (f : Nat → Int32) (g : Nat → Int64) : sh ad cy 104 f g = .inl (cy 1, 10, .inr (.inl g)) := rfl
theorem sh_r105 {ad : Nat → Nat} {cy : Nat → ClassId} (f : Nat → Int32) (g : Nat → Int64) : sh ad cy 105 f g = .inr (8, [.int (f 0), .int (f 1), .ref (ad (106)), .ref (ad (107)), .ref (ad (108)), .ref (ad (109)), .ref (ad (110)), .ref (ad (111)), .ref (ad (112)), .ref (ad (113)), .ref (ad (114)), .ref (ad (115)), .ref (ad (116)), .ref (ad (117)), .ref (ad (118)), .long (g 15), .ref (ad (119)), .ref (ad (120)), .ref (ad (121)), .int (f 19), .ref (ad (122)), .ref (ad (123)), .ref (ad (124)), .ref (ad (125))]) := rfl
theorem sh_r106 {ad : Nat → Nat} {cy : Nat → ClassId} (f : Nat → Int32) (g : Nat → Int64) : sh ad cy 106 f g = .inl (cy 0, 12, .inl f) := rfl
theorem sh_r107 {ad : Nat → Nat} {cy : Nat → ClassId} (f : Nat → Int32) (g : Nat → Int64) : sh ad cy 107 f g = .inl (cy 2, 12, .inl f) := rfl
theorem sh_r108 {ad : Nat → Nat} {cy : Nat → ClassId} (f : Nat → Int32) (g : Nat → Int64) : sh ad cy 108 f g = .inl (cy 1, 12288, .inr (.inl g)) := rfl
theorem sh_r109 {ad : Nat → Nat} {cy : Nat → ClassId} (f : Nat → Int32) (g : Nat → Int64) : sh ad cy 109 f g = .inl (cy 0, 12, .inl f) := rfl
theorem sh_r110 {ad : Nat → Nat} {cy : Nat → ClassId} (f : Nat → Int32) (g : Nat → Int64) : sh ad cy 110 f g = .inl (cy 0, 288, .inl f) := rfl
theorem sh_r111 {ad : Nat → Nat} {cy : Nat → ClassId} (f : Nat → Int32) (g : Nat → Int64) : sh ad cy 111 f g = .inl (cy 0, 288, .inl f) := rfl
theorem sh_r112 {ad : Nat → Nat} {cy : Nat → ClassId} (f : Nat → Int32) (g : Nat → Int64) : sh ad cy 112 f g = .inl (cy 0, 288, .inl f) := rfl
theorem sh_r113 {ad : Nat → Nat} {cy : Nat → ClassId} (f : Nat → Int32) (g : Nat → Int64) : sh ad cy 113 f g = .inl (cy 0, 480, .inl f) := rfl
theorem sh_r114 {ad : Nat → Nat} {cy : Nat → ClassId} (f : Nat → Int32) (g : Nat → Int64) : sh ad cy 114 f g = .inl (cy 0, 120, .inl f) := rfl
theorem sh_r115 {ad : Nat → Nat} {cy : Nat → ClassId} (f : Nat → Int32) (g : Nat → Int64) : sh ad cy 115 f g = .inl (cy 0, 12, .inl f) := rfl
theorem sh_r116 {ad : Nat → Nat} {cy : Nat → ClassId} (f : Nat → Int32) (g : Nat → Int64) : sh ad cy 116 f g = .inl (cy 0, 12, .inl f) := rfl
theorem sh_r117 {ad : Nat → Nat} {cy : Nat → ClassId} (f : Nat → Int32) (g : Nat → Int64) : sh ad cy 117 f g = .inl (cy 0, 10, .inl f) := rfl
theorem sh_r118 {ad : Nat → Nat} {cy : Nat → ClassId} (f : Nat → Int32) (g : Nat → Int64) : sh ad cy 118 f g = .inl (cy 1, 10, .inr (.inl g)) := rfl
theorem sh_r119 {ad : Nat → Nat} {cy : Nat → ClassId} (f : Nat → Int32) (g : Nat → Int64) : sh ad cy 119 f g = .inl (cy 0, 4, .inl f) := rfl
theorem sh_r120 {ad : Nat → Nat} {cy : Nat → ClassId} (f : Nat → Int32) (g : Nat → Int64) : sh ad cy 120 f g = .inl (cy 0, 4, .inl f) := rfl
theorem sh_r121 {ad : Nat → Nat} {cy : Nat → ClassId} (f : Nat → Int32) (g : Nat → Int64) : sh ad cy 121 f g = .inl (cy 1, 4400, .inr (.inl g)) := rfl
theorem sh_r122 {ad : Nat → Nat} {cy : Nat → ClassId} (f : Nat → Int32) (g : Nat → Int64) : sh ad cy 122 f g = .inl (cy 1, 40, .inr (.inl g)) := rfl
theorem sh_r123 {ad : Nat → Nat} {cy : Nat → ClassId} (f : Nat → Int32) (g : Nat → Int64) : sh ad cy 123 f g = .inl (cy 0, 11, .inl f) := rfl
theorem sh_r124 {ad : Nat → Nat} {cy : Nat → ClassId} (f : Nat → Int32) (g : Nat → Int64) : sh ad cy 124 f g = .inl (cy 1, 11, .inr (.inl g)) := rfl
theorem sh_r125 {ad : Nat → Nat} {cy : Nat → ClassId} (f : Nat → Int32) (g : Nat → Int64) : sh ad cy 125 f g = .inl (cy 1, 10, .inr (.inl g)) := rfl
/-- from here the method comes to its end, in this world -/
def ss (c : cx) (M : sm_M) (d : Nat) (Q : Option Value → nX → nY → Prop) (pc : Nat) (lv : List (Nat × Value)) (st : List Value) (X : nX) (Y : nY) : Prop :=
  sm_S c.1 c.2.1 (c_cy c) c.2.2.2.1 M d (fun r ws => ∃ X' Y', ws = zw (c_ad c) (c_cy c) X' Y' ∧ Q r X' Y') pc lv st (zw (c_ad c) (c_cy c) X Y) 0 0
/-- a method's contract: called with As, it answers r, and the world is X', Y' -/
def sc (c : cx) (M : sm_M) (d : Nat) (As : List Value) (X : nX) (Y : nY) (r : Option Value) (X' : nX) (Y' : nY) : Prop := ∀ Q : Option Value → nX → nY → Prop, Q r X' Y' → ss c M d Q 0 (lv_args 0 As) [] X Y
section SSR
variable {c : cx} {M M' : sm_M} {d : Nat} {Q : Option Value → nX → nY → Prop} {pc : Nat} {lv : List (Nat × Value)} {st : List Value} {X : nX} {Y : nY}
theorem ss_iconst {n : Int} {v : Int32} (hd : decode M.2.1 pc = .ok (.iconst n, 1)) (hv : Int32.ofInt n = v) (k : ss c M d Q (pc + 1) lv (.int v :: st) X Y) : ss c M d Q pc lv st X Y := sm_iconst hd hv k
theorem ss_bipush {n : Int} {v : Int32} (hd : decode M.2.1 pc = .ok (.bipush n, 2)) (hv : (Int8.ofInt n).toInt32 = v) (k : ss c M d Q (pc + 2) lv (.int v :: st) X Y) : ss c M d Q pc lv st X Y := sm_bipush hd hv k
theorem ss_sipush {n : Int} {v : Int32} (hd : decode M.2.1 pc = .ok (.sipush n, 3)) (hv : (Int16.ofInt n).toInt32 = v) (k : ss c M d Q (pc + 3) lv (.int v :: st) X Y) : ss c M d Q pc lv st X Y := sm_sipush hd hv k
theorem ss_lconst {n : Fin 2} {v : Int64} (hd : decode M.2.1 pc = .ok (.lconst n, 1)) (hv : Int64.ofNat (n : Nat) = v) (k : ss c M d Q (pc + 1) lv (.long v :: st) X Y) : ss c M d Q pc lv st X Y := sm_lconst hd hv k
theorem ss_ldc {ix : Nat} {v : Int32} (hd : decode M.2.1 pc = .ok (.ldc ix, 2)) (hw : Cond.constant M.1.cls ix v ∈ sm_tbl) (k : ss c M d Q (pc + 2) lv (.int v :: st) X Y) : ss c M d Q pc lv st X Y := sm_ldc hd hw k
theorem ss_ldcw {ix : Nat} {v : Int32} (hd : decode M.2.1 pc = .ok (.ldc_w ix, 3)) (hw : Cond.constant M.1.cls ix v ∈ sm_tbl) (k : ss c M d Q (pc + 3) lv (.int v :: st) X Y) : ss c M d Q pc lv st X Y := sm_ldcw hd hw k
theorem ss_ldc2 {ix : Nat} {v : Int64} (hd : decode M.2.1 pc = .ok (.ldc2_w ix, 3)) (hw : Cond.constantLong M.1.cls ix v ∈ sm_tbl) (k : ss c M d Q (pc + 3) lv (.long v :: st) X Y) : ss c M d Q pc lv st X Y := sm_ldc2 hd hw k
theorem ss_iload_n {i : Fin 4} {v : Int32} (hd : decode M.2.1 pc = .ok (.iload_n i, 1)) (j : Nat) (hj : lv[j]? = some (i.val, .int v)) (k : ss c M d Q (pc + 1) lv (.int v :: st) X Y) : ss c M d Q pc lv st X Y := sm_iload_n hd j hj k
theorem ss_iload {i : Nat} {v : Int32} (hd : decode M.2.1 pc = .ok (.iload i, 2)) (j : Nat) (hj : lv[j]? = some (i, .int v)) (k : ss c M d Q (pc + 2) lv (.int v :: st) X Y) : ss c M d Q pc lv st X Y := sm_iload hd j hj k
theorem ss_lload_n {i : Fin 4} {v : Int64} (hd : decode M.2.1 pc = .ok (.lload_n i, 1)) (j : Nat) (hj : lv[j]? = some (i.val, .long v)) (k : ss c M d Q (pc + 1) lv (.long v :: st) X Y) : ss c M d Q pc lv st X Y := sm_lload_n hd j hj k
theorem ss_lload {i : Nat} {v : Int64} (hd : decode M.2.1 pc = .ok (.lload i, 2)) (j : Nat) (hj : lv[j]? = some (i, .long v)) (k : ss c M d Q (pc + 2) lv (.long v :: st) X Y) : ss c M d Q pc lv st X Y := sm_lload hd j hj k
theorem ss_aload_n {i : Fin 4} {v : Nat} (hd : decode M.2.1 pc = .ok (.aload_n i, 1)) (j : Nat) (hj : lv[j]? = some (i.val, .ref v)) (k : ss c M d Q (pc + 1) lv (.ref v :: st) X Y) : ss c M d Q pc lv st X Y := sm_aload_n hd j hj k
theorem ss_aload {i : Nat} {v : Nat} (hd : decode M.2.1 pc = .ok (.aload i, 2)) (j : Nat) (hj : lv[j]? = some (i, .ref v)) (k : ss c M d Q (pc + 2) lv (.ref v :: st) X Y) : ss c M d Q pc lv st X Y := sm_aload hd j hj k
theorem ss_istore_n {i : Fin 4} {v : Int32} {lv' : List (Nat × Value)} (hd : decode M.2.1 pc = .ok (.istore_n i, 1)) (hn : i.val < M.2.2.1) (hf : (i.val, Value.int v) :: lv.filter (fun q => !(q.1 == i.val) && !(q.1 + 1 == i.val && q.2.category == 2)) = lv') (k : ss c M d Q (pc + 1) lv' st X Y) : ss c M d Q pc lv (.int v :: st) X Y := sm_istore_n hd hn hf k
theorem ss_istore {i : Nat} {v : Int32} {lv' : List (Nat × Value)} (hd : decode M.2.1 pc = .ok (.istore i, 2)) (hn : i < M.2.2.1) (hf : (i, Value.int v) :: lv.filter (fun q => !(q.1 == i) && !(q.1 + 1 == i && q.2.category == 2)) = lv') (k : ss c M d Q (pc + 2) lv' st X Y) : ss c M d Q pc lv (.int v :: st) X Y := sm_istore hd hn hf k
theorem ss_lstore_n {i : Fin 4} {v : Int64} {lv' : List (Nat × Value)} (hd : decode M.2.1 pc = .ok (.lstore_n i, 1)) (hn : i.val + 1 < M.2.2.1) (hf : (i.val, Value.long v) :: lv.filter (fun q => !(q.1 == i.val) && (!(q.1 == i.val + 1) && !(q.1 + 1 == i.val && q.2.category == 2))) = lv') (k : ss c M d Q (pc + 1) lv' st X Y) : ss c M d Q pc lv (.long v :: st) X Y := sm_lstore_n hd hn hf k
theorem ss_lstore {i : Nat} {v : Int64} {lv' : List (Nat × Value)} (hd : decode M.2.1 pc = .ok (.lstore i, 2)) (hn : i + 1 < M.2.2.1) (hf : (i, Value.long v) :: lv.filter (fun q => !(q.1 == i) && (!(q.1 == i + 1) && !(q.1 + 1 == i && q.2.category == 2))) = lv') (k : ss c M d Q (pc + 2) lv' st X Y) : ss c M d Q pc lv (.long v :: st) X Y := sm_lstore hd hn hf k
theorem ss_astore_n {i : Fin 4} {v : Nat} {lv' : List (Nat × Value)} (hd : decode M.2.1 pc = .ok (.astore_n i, 1)) (hn : i.val < M.2.2.1) (hf : (i.val, Value.ref v) :: lv.filter (fun q => !(q.1 == i.val) && !(q.1 + 1 == i.val && q.2.category == 2)) = lv') (k : ss c M d Q (pc + 1) lv' st X Y) : ss c M d Q pc lv (.ref v :: st) X Y := sm_astore_n hd hn hf k
theorem ss_astore {i : Nat} {v : Nat} {lv' : List (Nat × Value)} (hd : decode M.2.1 pc = .ok (.astore i, 2)) (hn : i < M.2.2.1) (hf : (i, Value.ref v) :: lv.filter (fun q => !(q.1 == i) && !(q.1 + 1 == i && q.2.category == 2)) = lv') (k : ss c M d Q (pc + 2) lv' st X Y) : ss c M d Q pc lv (.ref v :: st) X Y := sm_astore hd hn hf k
theorem ss_iinc {i : Nat} {n : Int} {x v : Int32} {lv' : List (Nat × Value)} (hd : decode M.2.1 pc = .ok (.iinc i n, 3)) (j : Nat) (hj : lv[j]? = some (i, .int x)) (hv : x + Int32.ofInt n = v) (hn : i < M.2.2.1) (hf : (i, Value.int v) :: lv.filter (fun q => !(q.1 == i) && !(q.1 + 1 == i && q.2.category == 2)) = lv') (k : ss c M d Q (pc + 3) lv' st X Y) : ss c M d Q pc lv st X Y := sm_iinc hd j hj hv hn hf k
theorem ss_iadd {x y : Int32} (hd : decode M.2.1 pc = .ok (.iadd, 1)) (k : ss c M d Q (pc + 1) lv (.int (x + y) :: st) X Y) : ss c M d Q pc lv (.int y :: .int x :: st) X Y := sm_iadd hd k
theorem ss_isub {x y : Int32} (hd : decode M.2.1 pc = .ok (.isub, 1)) (k : ss c M d Q (pc + 1) lv (.int (x - y) :: st) X Y) : ss c M d Q pc lv (.int y :: .int x :: st) X Y := sm_isub hd k
theorem ss_imul {x y : Int32} (hd : decode M.2.1 pc = .ok (.imul, 1)) (k : ss c M d Q (pc + 1) lv (.int (x * y) :: st) X Y) : ss c M d Q pc lv (.int y :: .int x :: st) X Y := sm_imul hd k
theorem ss_iand {x y : Int32} (hd : decode M.2.1 pc = .ok (.iand, 1)) (k : ss c M d Q (pc + 1) lv (.int (x &&& y) :: st) X Y) : ss c M d Q pc lv (.int y :: .int x :: st) X Y := sm_iand hd k
theorem ss_ior {x y : Int32} (hd : decode M.2.1 pc = .ok (.ior, 1)) (k : ss c M d Q (pc + 1) lv (.int (x ||| y) :: st) X Y) : ss c M d Q pc lv (.int y :: .int x :: st) X Y := sm_ior hd k
theorem ss_ixor {x y : Int32} (hd : decode M.2.1 pc = .ok (.ixor, 1)) (k : ss c M d Q (pc + 1) lv (.int (x ^^^ y) :: st) X Y) : ss c M d Q pc lv (.int y :: .int x :: st) X Y := sm_ixor hd k
theorem ss_ishl {x y : Int32} (hd : decode M.2.1 pc = .ok (.ishl, 1)) (k : ss c M d Q (pc + 1) lv (.int (x <<< (y &&& 31)) :: st) X Y) : ss c M d Q pc lv (.int y :: .int x :: st) X Y := sm_ishl hd k
theorem ss_ishr {x y : Int32} (hd : decode M.2.1 pc = .ok (.ishr, 1)) (k : ss c M d Q (pc + 1) lv (.int (x >>> (y &&& 31)) :: st) X Y) : ss c M d Q pc lv (.int y :: .int x :: st) X Y := sm_ishr hd k
theorem ss_idiv {x y : Int32} (hd : decode M.2.1 pc = .ok (.idiv, 1)) (hne : ¬ y = 0) (k : ss c M d Q (pc + 1) lv (.int (x / y) :: st) X Y) : ss c M d Q pc lv (.int y :: .int x :: st) X Y := sm_idiv hd hne k
theorem ss_irem {x y : Int32} (hd : decode M.2.1 pc = .ok (.irem, 1)) (hne : ¬ y = 0) (k : ss c M d Q (pc + 1) lv (.int (x - x / y * y) :: st) X Y) : ss c M d Q pc lv (.int y :: .int x :: st) X Y := sm_irem hd hne k
theorem ss_ladd {x y : Int64} (hd : decode M.2.1 pc = .ok (.ladd, 1)) (k : ss c M d Q (pc + 1) lv (.long (x + y) :: st) X Y) : ss c M d Q pc lv (.long y :: .long x :: st) X Y := sm_ladd hd k
theorem ss_lsub {x y : Int64} (hd : decode M.2.1 pc = .ok (.lsub, 1)) (k : ss c M d Q (pc + 1) lv (.long (x - y) :: st) X Y) : ss c M d Q pc lv (.long y :: .long x :: st) X Y := sm_lsub hd k
theorem ss_lmul {x y : Int64} (hd : decode M.2.1 pc = .ok (.lmul, 1)) (k : ss c M d Q (pc + 1) lv (.long (x * y) :: st) X Y) : ss c M d Q pc lv (.long y :: .long x :: st) X Y := sm_lmul hd k
theorem ss_land {x y : Int64} (hd : decode M.2.1 pc = .ok (.land, 1)) (k : ss c M d Q (pc + 1) lv (.long (x &&& y) :: st) X Y) : ss c M d Q pc lv (.long y :: .long x :: st) X Y := sm_land hd k
theorem ss_lor {x y : Int64} (hd : decode M.2.1 pc = .ok (.lor, 1)) (k : ss c M d Q (pc + 1) lv (.long (x ||| y) :: st) X Y) : ss c M d Q pc lv (.long y :: .long x :: st) X Y := sm_lor hd k
theorem ss_ldiv {x y : Int64} (hd : decode M.2.1 pc = .ok (.ldiv, 1)) (hne : ¬ y = 0) (k : ss c M d Q (pc + 1) lv (.long (x / y) :: st) X Y) : ss c M d Q pc lv (.long y :: .long x :: st) X Y := sm_ldiv hd hne k
theorem ss_lrem {x y : Int64} (hd : decode M.2.1 pc = .ok (.lrem, 1)) (hne : ¬ y = 0) (k : ss c M d Q (pc + 1) lv (.long (x - x / y * y) :: st) X Y) : ss c M d Q pc lv (.long y :: .long x :: st) X Y := sm_lrem hd hne k
theorem ss_lneg {x : Int64} (hd : decode M.2.1 pc = .ok (.lneg, 1)) (k : ss c M d Q (pc + 1) lv (.long (-x) :: st) X Y) : ss c M d Q pc lv (.long x :: st) X Y := sm_lneg hd k
theorem ss_i2l {x : Int32} (hd : decode M.2.1 pc = .ok (.i2l, 1)) (k : ss c M d Q (pc + 1) lv (.long x.toInt64 :: st) X Y) : ss c M d Q pc lv (.int x :: st) X Y := sm_i2l hd k
theorem ss_l2i {x : Int64} (hd : decode M.2.1 pc = .ok (.l2i, 1)) (k : ss c M d Q (pc + 1) lv (.int x.toInt32 :: st) X Y) : ss c M d Q pc lv (.long x :: st) X Y := sm_l2i hd k
theorem ss_i2b {x : Int32} (hd : decode M.2.1 pc = .ok (.i2b, 1)) (k : ss c M d Q (pc + 1) lv (.int x.toInt8.toInt32 :: st) X Y) : ss c M d Q pc lv (.int x :: st) X Y := sm_i2b hd k
theorem ss_iushr {x y : Int32} (hd : decode M.2.1 pc = .ok (.iushr, 1)) (k : ss c M d Q (pc + 1) lv (.int (x.toUInt32 >>> (y.toUInt32 &&& Int32.toUInt32 31)).toInt32 :: st) X Y) : ss c M d Q pc lv (.int y :: .int x :: st) X Y := sm_iushr hd k
theorem ss_lshl {x : Int64} {y : Int32} (hd : decode M.2.1 pc = .ok (.lshl, 1)) (k : ss c M d Q (pc + 1) lv (.long (x <<< (y.toInt64 &&& 63)) :: st) X Y) : ss c M d Q pc lv (.int y :: .long x :: st) X Y := sm_lshl hd k
theorem ss_lcmp {x y : Int64} (hd : decode M.2.1 pc = .ok (.lcmp, 1)) (k : ss c M d Q (pc + 1) lv (.int (lg_cmp x y) :: st) X Y) : ss c M d Q pc lv (.long y :: .long x :: st) X Y := sm_lcmp hd k
theorem ss_dup {va : Value} (hd : decode M.2.1 pc = .ok (.dup, 1)) (ha : va.category = 1) (k : ss c M d Q (pc + 1) lv (va :: va :: st) X Y) : ss c M d Q pc lv (va :: st) X Y := sm_dup hd ha k
theorem ss_dup2 {va vb : Value} (hd : decode M.2.1 pc = .ok (.dup2, 1)) (ha : va.category = 1) (hb : vb.category = 1) (k : ss c M d Q (pc + 1) lv (va :: vb :: va :: vb :: st) X Y) : ss c M d Q pc lv (va :: vb :: st) X Y := sm_dup2 hd ha hb k
theorem ss_if_eq {x : Int32} {off : Int} (tgt : Nat) (hd : decode M.2.1 pc = .ok (.ifCond .eq off, 3)) (ht : (pc : Int) + off = (tgt : Int)) (kt : x = 0 → ss c M d Q tgt lv st X Y) (kf : ¬ x = 0 → ss c M d Q (pc + 3) lv st X Y) : ss c M d Q pc lv (.int x :: st) X Y := sm_if_eq tgt hd ht kt kf
theorem ss_if_ne {x : Int32} {off : Int} (tgt : Nat) (hd : decode M.2.1 pc = .ok (.ifCond .ne off, 3)) (ht : (pc : Int) + off = (tgt : Int)) (kt : ¬ x = 0 → ss c M d Q tgt lv st X Y) (kf : x = 0 → ss c M d Q (pc + 3) lv st X Y) : ss c M d Q pc lv (.int x :: st) X Y := sm_if_ne tgt hd ht kt kf
theorem ss_if_lt {x : Int32} {off : Int} (tgt : Nat) (hd : decode M.2.1 pc = .ok (.ifCond .lt off, 3)) (ht : (pc : Int) + off = (tgt : Int)) (kt : x < 0 → ss c M d Q tgt lv st X Y) (kf : ¬ x < 0 → ss c M d Q (pc + 3) lv st X Y) : ss c M d Q pc lv (.int x :: st) X Y := sm_if_lt tgt hd ht kt kf
theorem ss_if_ge {x : Int32} {off : Int} (tgt : Nat) (hd : decode M.2.1 pc = .ok (.ifCond .ge off, 3)) (ht : (pc : Int) + off = (tgt : Int)) (kt : 0 ≤ x → ss c M d Q tgt lv st X Y) (kf : ¬ 0 ≤ x → ss c M d Q (pc + 3) lv st X Y) : ss c M d Q pc lv (.int x :: st) X Y := sm_if_ge tgt hd ht kt kf
theorem ss_if_gt {x : Int32} {off : Int} (tgt : Nat) (hd : decode M.2.1 pc = .ok (.ifCond .gt off, 3)) (ht : (pc : Int) + off = (tgt : Int)) (kt : 0 < x → ss c M d Q tgt lv st X Y) (kf : ¬ 0 < x → ss c M d Q (pc + 3) lv st X Y) : ss c M d Q pc lv (.int x :: st) X Y := sm_if_gt tgt hd ht kt kf
theorem ss_if_le {x : Int32} {off : Int} (tgt : Nat) (hd : decode M.2.1 pc = .ok (.ifCond .le off, 3)) (ht : (pc : Int) + off = (tgt : Int)) (kt : x ≤ 0 → ss c M d Q tgt lv st X Y) (kf : ¬ x ≤ 0 → ss c M d Q (pc + 3) lv st X Y) : ss c M d Q pc lv (.int x :: st) X Y := sm_if_le tgt hd ht kt kf
theorem ss_icmp_eq {x y : Int32} {off : Int} (tgt : Nat) (hd : decode M.2.1 pc = .ok (.if_icmp .eq off, 3)) (ht : (pc : Int) + off = (tgt : Int)) (kt : x = y → ss c M d Q tgt lv st X Y) (kf : ¬ x = y → ss c M d Q (pc + 3) lv st X Y) : ss c M d Q pc lv (.int y :: .int x :: st) X Y := sm_icmp_eq tgt hd ht kt kf
theorem ss_icmp_ne {x y : Int32} {off : Int} (tgt : Nat) (hd : decode M.2.1 pc = .ok (.if_icmp .ne off, 3)) (ht : (pc : Int) + off = (tgt : Int)) (kt : ¬ x = y → ss c M d Q tgt lv st X Y) (kf : x = y → ss c M d Q (pc + 3) lv st X Y) : ss c M d Q pc lv (.int y :: .int x :: st) X Y := sm_icmp_ne tgt hd ht kt kf
theorem ss_icmp_lt {x y : Int32} {off : Int} (tgt : Nat) (hd : decode M.2.1 pc = .ok (.if_icmp .lt off, 3)) (ht : (pc : Int) + off = (tgt : Int)) (kt : x < y → ss c M d Q tgt lv st X Y) (kf : ¬ x < y → ss c M d Q (pc + 3) lv st X Y) : ss c M d Q pc lv (.int y :: .int x :: st) X Y := sm_icmp_lt tgt hd ht kt kf
theorem ss_icmp_ge {x y : Int32} {off : Int} (tgt : Nat) (hd : decode M.2.1 pc = .ok (.if_icmp .ge off, 3)) (ht : (pc : Int) + off = (tgt : Int)) (kt : y ≤ x → ss c M d Q tgt lv st X Y) (kf : ¬ y ≤ x → ss c M d Q (pc + 3) lv st X Y) : ss c M d Q pc lv (.int y :: .int x :: st) X Y := sm_icmp_ge tgt hd ht kt kf
theorem ss_icmp_gt {x y : Int32} {off : Int} (tgt : Nat) (hd : decode M.2.1 pc = .ok (.if_icmp .gt off, 3)) (ht : (pc : Int) + off = (tgt : Int)) (kt : y < x → ss c M d Q tgt lv st X Y) (kf : ¬ y < x → ss c M d Q (pc + 3) lv st X Y) : ss c M d Q pc lv (.int y :: .int x :: st) X Y := sm_icmp_gt tgt hd ht kt kf
theorem ss_icmp_le {x y : Int32} {off : Int} (tgt : Nat) (hd : decode M.2.1 pc = .ok (.if_icmp .le off, 3)) (ht : (pc : Int) + off = (tgt : Int)) (kt : x ≤ y → ss c M d Q tgt lv st X Y) (kf : ¬ x ≤ y → ss c M d Q (pc + 3) lv st X Y) : ss c M d Q pc lv (.int y :: .int x :: st) X Y := sm_icmp_le tgt hd ht kt kf
theorem ss_goto {off : Int} (tgt : Nat) (hd : decode M.2.1 pc = .ok (.goto off, 3)) (ht : (pc : Int) + off = (tgt : Int)) (k : ss c M d Q tgt lv st X Y) : ss c M d Q pc lv st X Y := sm_goto tgt hd ht k
theorem ss_tableOut {dflt lo hi : Int} {offs : Array Int} {len : Nat} {x : Int32} (tgt : Nat) (hd : decode M.2.1 pc = .ok (.tableswitch dflt lo hi offs, len)) (h : x.toInt < lo ∨ hi < x.toInt) (ht : (pc : Int) + dflt = (tgt : Int)) (k : ss c M d Q tgt lv st X Y) : ss c M d Q pc lv (.int x :: st) X Y := sm_tableOut tgt hd h ht k
theorem ss_tableIn {dflt lo hi : Int} {offs : Array Int} {len : Nat} {x : Int32} {off : Int} (tgt : Nat) (hd : decode M.2.1 pc = .ok (.tableswitch dflt lo hi offs, len)) (h1 : ¬ x.toInt < lo) (h2 : ¬ hi < x.toInt) (ho : offs[(x.toInt - lo).toNat]? = some off) (ht : (pc : Int) + off = (tgt : Int)) (k : ss c M d Q tgt lv st X Y) : ss c M d Q pc lv (.int x :: st) X Y := sm_tableIn tgt hd h1 h2 ho ht k
theorem ss_lookup {dflt : Int} {ps : Array (Int × Int)} {len : Nat} {x : Int32} {off : Int} (tgt : Nat) (hd : decode M.2.1 pc = .ok (.lookupswitch dflt ps, len)) (hp : (ps.toList.zip (ps.toList.drop 1)).all (fun (a, next) => a.1 < next.1) = true) (ho : Op.lookupswitch.offset ps.toList dflt x.toInt = off) (ht : (pc : Int) + off = (tgt : Int)) (k : ss c M d Q tgt lv st X Y) : ss c M d Q pc lv (.int x :: st) X Y := sm_lookup tgt hd hp ho ht k
theorem ss_sub {lv' : List (Nat × Value)} (ks : List Nat) (hf : lv_pick lv ks = lv') (k : ss c M d Q pc lv' st X Y) : ss c M d Q pc lv st X Y := sm_sub ks hf k
theorem ss_iret {v : Int32} {ty : FieldType} (hd : decode M.2.1 pc = .ok (.ireturn, 1)) (hr : M.2.2.2 = some ty) (hn : narrow ty (.int v) = .int v) (hq : Q (some (.int v)) X Y) : ss c M d Q pc lv [.int v] X Y := sm_iret hd hr hn ⟨X, Y, rfl, hq⟩
theorem ss_lret {v : Int64} (hd : decode M.2.1 pc = .ok (.lreturn, 1)) (hr : M.2.2.2 = some .long) (hq : Q (some (.long v)) X Y) : ss c M d Q pc lv [.long v] X Y := sm_lret hd hr ⟨X, Y, rfl, hq⟩
theorem ss_vret (hd : decode M.2.1 pc = .ok (.return_, 1)) (hr : M.2.2.2 = none) (hq : Q none X Y) : ss c M d Q pc lv [] X Y := sm_vret hd hr ⟨X, Y, rfl, hq⟩
theorem ss_min {ix : Nat} {x y : Int64} {d' : Nat} (hd : decode M.2.1 pc = .ok (.invokestatic ix, 3)) (hw : Cond.methodLink M.1.cls ix Lib.MathLoose.min_long.x ∈ sm_tbl) (h1 : Cond.static Lib.MathLoose.min_long.x ∈ sm_tbl) (h2 : Cond.initialized "java/lang/Math" ∈ sm_tbl) (h3 : Cond.code Lib.MathLoose.min_long.x Lib.MathLoose.min_long.code 4 (some .long) ∈ sm_tbl) (hs : (st.map fun v => v.category).sum ≤ 8) (k : ss c M (d' + 1) Q (pc + 3) lv (.long (if y < x then y else x) :: st) X Y) : ss c M (d' + 1) Q pc lv (.long y :: .long x :: st) X Y := sm_min hd hw h1 h2 h3 hs k
theorem ss_max {ix : Nat} {x y : Int64} {d' : Nat} (hd : decode M.2.1 pc = .ok (.invokestatic ix, 3)) (hw : Cond.methodLink M.1.cls ix Lib.MathLoose.max_long.x ∈ sm_tbl) (h1 : Cond.static Lib.MathLoose.max_long.x ∈ sm_tbl) (h2 : Cond.initialized "java/lang/Math" ∈ sm_tbl) (h3 : Cond.code Lib.MathLoose.max_long.x Lib.MathLoose.max_long.code 4 (some .long) ∈ sm_tbl) (hs : (st.map fun v => v.category).sum ≤ 8) (k : ss c M (d' + 1) Q (pc + 3) lv (.long (if y < x then x else y) :: st) X Y) : ss c M (d' + 1) Q pc lv (.long y :: .long x :: st) X Y := sm_max hd hw h1 h2 h3 hs k
theorem sz_iadd {a b : Nat} (hd : decode M.2.1 pc = .ok (.iadd, 1))  (k : ss c M d Q (pc + 1) lv (.int (nI (a + b)) :: st) X Y) : ss c M d Q pc lv (.int (nI b) :: .int (nI a) :: st) X Y := sn_iadd hd k
theorem sz_isub {a b : Nat} (hd : decode M.2.1 pc = .ok (.isub, 1)) (h : b ≤ a) (k : ss c M d Q (pc + 1) lv (.int (nI (a - b)) :: st) X Y) : ss c M d Q pc lv (.int (nI b) :: .int (nI a) :: st) X Y := sn_isub hd h k
theorem sz_imul {a b : Nat} (hd : decode M.2.1 pc = .ok (.imul, 1))  (k : ss c M d Q (pc + 1) lv (.int (nI (a * b)) :: st) X Y) : ss c M d Q pc lv (.int (nI b) :: .int (nI a) :: st) X Y := sn_imul hd k
theorem sz_iand {a b : Nat} (hd : decode M.2.1 pc = .ok (.iand, 1))  (k : ss c M d Q (pc + 1) lv (.int (nI (a &&& b)) :: st) X Y) : ss c M d Q pc lv (.int (nI b) :: .int (nI a) :: st) X Y := sn_iand hd k
theorem sz_ior {a b : Nat} (hd : decode M.2.1 pc = .ok (.ior, 1))  (k : ss c M d Q (pc + 1) lv (.int (nI (a ||| b)) :: st) X Y) : ss c M d Q pc lv (.int (nI b) :: .int (nI a) :: st) X Y := sn_ior hd k
theorem sz_ixor {a b : Nat} (hd : decode M.2.1 pc = .ok (.ixor, 1))  (k : ss c M d Q (pc + 1) lv (.int (nI (a ^^^ b)) :: st) X Y) : ss c M d Q pc lv (.int (nI b) :: .int (nI a) :: st) X Y := sn_ixor hd k
theorem sz_ishl {a b : Nat} (hd : decode M.2.1 pc = .ok (.ishl, 1)) (hb : b < 32) (h : a * 2 ^ b < 2 ^ 32) (k : ss c M d Q (pc + 1) lv (.int (nI (a <<< b)) :: st) X Y) : ss c M d Q pc lv (.int (nI b) :: .int (nI a) :: st) X Y := sn_ishl hd hb h k
theorem sz_ishr {a b : Nat} (hd : decode M.2.1 pc = .ok (.ishr, 1)) (hb : b < 32) (h : a < 2 ^ 31) (k : ss c M d Q (pc + 1) lv (.int (nI (a >>> b)) :: st) X Y) : ss c M d Q pc lv (.int (nI b) :: .int (nI a) :: st) X Y := sn_ishr hd hb h k
theorem sz_idiv {a b : Nat} (hd : decode M.2.1 pc = .ok (.idiv, 1)) (ha : a < 2 ^ 31) (h0 : 0 < b) (hb : b < 2 ^ 31) (k : ss c M d Q (pc + 1) lv (.int (nI (a / b)) :: st) X Y) : ss c M d Q pc lv (.int (nI b) :: .int (nI a) :: st) X Y := sn_idiv hd ha h0 hb k
theorem sz_irem {a b : Nat} (hd : decode M.2.1 pc = .ok (.irem, 1)) (ha : a < 2 ^ 31) (h0 : 0 < b) (hb : b < 2 ^ 31) (k : ss c M d Q (pc + 1) lv (.int (nI (a % b)) :: st) X Y) : ss c M d Q pc lv (.int (nI b) :: .int (nI a) :: st) X Y := sn_irem hd ha h0 hb k
theorem sz_i2l {a : Nat} (hd : decode M.2.1 pc = .ok (.i2l, 1)) (ha : a < 2 ^ 31) (k : ss c M d Q (pc + 1) lv (.long (lN a) :: st) X Y) : ss c M d Q pc lv (.int (nI a) :: st) X Y := sn_i2l hd ha k
theorem sz_inc {i a : Nat} {lv' : List (Nat × Value)} (hd : decode M.2.1 pc = .ok (.iinc i 1, 3)) (j : Nat) (hj : lv[j]? = some (i, .int (nI a))) (hn : i < M.2.2.1) (hf : (i, Value.int (nI (a + 1))) :: lv.filter (fun q => !(q.1 == i) && !(q.1 + 1 == i && q.2.category == 2)) = lv') (k : ss c M d Q (pc + 3) lv' st X Y) : ss c M d Q pc lv st X Y := sn_inc hd j hj hn hf k
theorem sz_dec {i a : Nat} {lv' : List (Nat × Value)} (hd : decode M.2.1 pc = .ok (.iinc i (-1), 3)) (j : Nat) (hj : lv[j]? = some (i, .int (nI a))) (h1 : 1 ≤ a) (hn : i < M.2.2.1) (hf : (i, Value.int (nI (a - 1))) :: lv.filter (fun q => !(q.1 == i) && !(q.1 + 1 == i && q.2.category == 2)) = lv') (k : ss c M d Q (pc + 3) lv' st X Y) : ss c M d Q pc lv st X Y := sn_dec hd j hj h1 hn hf k
theorem sz_icmp_eq {a b : Nat} {off : Int} (tgt : Nat) (hd : decode M.2.1 pc = .ok (.if_icmp .eq off, 3)) (ht : (pc : Int) + off = (tgt : Int)) (ha : a < 2 ^ 31) (hb : b < 2 ^ 31) (kt : a = b → ss c M d Q tgt lv st X Y) (kf : ¬ a = b → ss c M d Q (pc + 3) lv st X Y) : ss c M d Q pc lv (.int (nI b) :: .int (nI a) :: st) X Y := sn_icmp_eq tgt hd ht ha hb kt kf
theorem sz_icmp_ne {a b : Nat} {off : Int} (tgt : Nat) (hd : decode M.2.1 pc = .ok (.if_icmp .ne off, 3)) (ht : (pc : Int) + off = (tgt : Int)) (ha : a < 2 ^ 31) (hb : b < 2 ^ 31) (kt : ¬ a = b → ss c M d Q tgt lv st X Y) (kf : a = b → ss c M d Q (pc + 3) lv st X Y) : ss c M d Q pc lv (.int (nI b) :: .int (nI a) :: st) X Y := sn_icmp_ne tgt hd ht ha hb kt kf
theorem sz_icmp_lt {a b : Nat} {off : Int} (tgt : Nat) (hd : decode M.2.1 pc = .ok (.if_icmp .lt off, 3)) (ht : (pc : Int) + off = (tgt : Int)) (ha : a < 2 ^ 31) (hb : b < 2 ^ 31) (kt : a < b → ss c M d Q tgt lv st X Y) (kf : ¬ a < b → ss c M d Q (pc + 3) lv st X Y) : ss c M d Q pc lv (.int (nI b) :: .int (nI a) :: st) X Y := sn_icmp_lt tgt hd ht ha hb kt kf
theorem sz_icmp_ge {a b : Nat} {off : Int} (tgt : Nat) (hd : decode M.2.1 pc = .ok (.if_icmp .ge off, 3)) (ht : (pc : Int) + off = (tgt : Int)) (ha : a < 2 ^ 31) (hb : b < 2 ^ 31) (kt : b ≤ a → ss c M d Q tgt lv st X Y) (kf : ¬ b ≤ a → ss c M d Q (pc + 3) lv st X Y) : ss c M d Q pc lv (.int (nI b) :: .int (nI a) :: st) X Y := sn_icmp_ge tgt hd ht ha hb kt kf
theorem sz_icmp_gt {a b : Nat} {off : Int} (tgt : Nat) (hd : decode M.2.1 pc = .ok (.if_icmp .gt off, 3)) (ht : (pc : Int) + off = (tgt : Int)) (ha : a < 2 ^ 31) (hb : b < 2 ^ 31) (kt : b < a → ss c M d Q tgt lv st X Y) (kf : ¬ b < a → ss c M d Q (pc + 3) lv st X Y) : ss c M d Q pc lv (.int (nI b) :: .int (nI a) :: st) X Y := sn_icmp_gt tgt hd ht ha hb kt kf
theorem sz_icmp_le {a b : Nat} {off : Int} (tgt : Nat) (hd : decode M.2.1 pc = .ok (.if_icmp .le off, 3)) (ht : (pc : Int) + off = (tgt : Int)) (ha : a < 2 ^ 31) (hb : b < 2 ^ 31) (kt : a ≤ b → ss c M d Q tgt lv st X Y) (kf : ¬ a ≤ b → ss c M d Q (pc + 3) lv st X Y) : ss c M d Q pc lv (.int (nI b) :: .int (nI a) :: st) X Y := sn_icmp_le tgt hd ht ha hb kt kf
theorem sz_if_eq {a : Nat} {off : Int} (tgt : Nat) (hd : decode M.2.1 pc = .ok (.ifCond .eq off, 3)) (ht : (pc : Int) + off = (tgt : Int)) (ha : a < 2 ^ 31) (kt : a = 0 → ss c M d Q tgt lv st X Y) (kf : ¬ a = 0 → ss c M d Q (pc + 3) lv st X Y) : ss c M d Q pc lv (.int (nI a) :: st) X Y := sn_if_eq tgt hd ht ha kt kf
theorem sz_if_ne {a : Nat} {off : Int} (tgt : Nat) (hd : decode M.2.1 pc = .ok (.ifCond .ne off, 3)) (ht : (pc : Int) + off = (tgt : Int)) (ha : a < 2 ^ 31) (kt : ¬ a = 0 → ss c M d Q tgt lv st X Y) (kf : a = 0 → ss c M d Q (pc + 3) lv st X Y) : ss c M d Q pc lv (.int (nI a) :: st) X Y := sn_if_ne tgt hd ht ha kt kf
theorem sy_if_eq {b : Bool} {off : Int} (tgt : Nat) (hd : decode M.2.1 pc = .ok (.ifCond .eq off, 3)) (ht : (pc : Int) + off = (tgt : Int)) (kt : b = false → ss c M d Q tgt lv st X Y) (kf : b = true → ss c M d Q (pc + 3) lv st X Y) : ss c M d Q pc lv (.int (bI b) :: st) X Y := sb_if_eq tgt hd ht kt kf
theorem sy_if_ne {b : Bool} {off : Int} (tgt : Nat) (hd : decode M.2.1 pc = .ok (.ifCond .ne off, 3)) (ht : (pc : Int) + off = (tgt : Int)) (kt : b = true → ss c M d Q tgt lv st X Y) (kf : b = false → ss c M d Q (pc + 3) lv st X Y) : ss c M d Q pc lv (.int (bI b) :: st) X Y := sb_if_ne tgt hd ht kt kf
theorem sv_lt {x y : Int64} {off : Int} (tgt : Nat) (hd : decode M.2.1 pc = .ok (.lcmp, 1)) (hd2 : decode M.2.1 (pc + 1) = .ok (.ifCond .lt off, 3)) (ht : ((pc + 1 : Nat) : Int) + off = (tgt : Int)) (kt : x < y → ss c M d Q tgt lv st X Y) (kf : ¬ x < y → ss c M d Q (pc + 1 + 3) lv st X Y) : ss c M d Q pc lv (.long y :: .long x :: st) X Y := sl_lt tgt hd hd2 ht kt kf
theorem sv_le {x y : Int64} {off : Int} (tgt : Nat) (hd : decode M.2.1 pc = .ok (.lcmp, 1)) (hd2 : decode M.2.1 (pc + 1) = .ok (.ifCond .le off, 3)) (ht : ((pc + 1 : Nat) : Int) + off = (tgt : Int)) (kt : x ≤ y → ss c M d Q tgt lv st X Y) (kf : ¬ x ≤ y → ss c M d Q (pc + 1 + 3) lv st X Y) : ss c M d Q pc lv (.long y :: .long x :: st) X Y := sl_le tgt hd hd2 ht kt kf
theorem sv_gt {x y : Int64} {off : Int} (tgt : Nat) (hd : decode M.2.1 pc = .ok (.lcmp, 1)) (hd2 : decode M.2.1 (pc + 1) = .ok (.ifCond .gt off, 3)) (ht : ((pc + 1 : Nat) : Int) + off = (tgt : Int)) (kt : y < x → ss c M d Q tgt lv st X Y) (kf : ¬ y < x → ss c M d Q (pc + 1 + 3) lv st X Y) : ss c M d Q pc lv (.long y :: .long x :: st) X Y := sl_gt tgt hd hd2 ht kt kf
theorem sv_ge {x y : Int64} {off : Int} (tgt : Nat) (hd : decode M.2.1 pc = .ok (.lcmp, 1)) (hd2 : decode M.2.1 (pc + 1) = .ok (.ifCond .ge off, 3)) (ht : ((pc + 1 : Nat) : Int) + off = (tgt : Int)) (kt : y ≤ x → ss c M d Q tgt lv st X Y) (kf : ¬ y ≤ x → ss c M d Q (pc + 1 + 3) lv st X Y) : ss c M d Q pc lv (.long y :: .long x :: st) X Y := sl_ge tgt hd hd2 ht kt kf
theorem sv_eq {x y : Int64} {off : Int} (tgt : Nat) (hd : decode M.2.1 pc = .ok (.lcmp, 1)) (hd2 : decode M.2.1 (pc + 1) = .ok (.ifCond .eq off, 3)) (ht : ((pc + 1 : Nat) : Int) + off = (tgt : Int)) (kt : x = y → ss c M d Q tgt lv st X Y) (kf : ¬ x = y → ss c M d Q (pc + 1 + 3) lv st X Y) : ss c M d Q pc lv (.long y :: .long x :: st) X Y := sl_eq tgt hd hd2 ht kt kf
theorem sv_ne {x y : Int64} {off : Int} (tgt : Nat) (hd : decode M.2.1 pc = .ok (.lcmp, 1)) (hd2 : decode M.2.1 (pc + 1) = .ok (.ifCond .ne off, 3)) (ht : ((pc + 1 : Nat) : Int) + off = (tgt : Int)) (kt : ¬ x = y → ss c M d Q tgt lv st X Y) (kf : x = y → ss c M d Q (pc + 1 + 3) lv st X Y) : ss c M d Q pc lv (.long y :: .long x :: st) X Y := sl_ne tgt hd hd2 ht kt kf
theorem ss_mono {Q' : Option Value → nX → nY → Prop} (hq : ∀ r X' Y', Q r X' Y' → Q' r X' Y') (k : ss c M d Q pc lv st X Y) : ss c M d Q' pc lv st X Y := sm_mono (fun r w h => by
  obtain ⟨X', Y', h1, h2⟩ := h
  exact ⟨X', Y', h1, hq r X' Y' h2⟩) k
theorem ss_get {ix ci kf i : Nat} {fs : List Value} {v : Value} (hd : decode M.2.1 pc = .ok (.getfield ix, 3)) (hf : sm_FL M.1.cls ix ci kf) (hi : i < 126) (hs : sh (c_ad c) (c_cy c) i (X i) (Y i) = .inr (ci, fs)) (hv : fs[kf]? = some v) (k : ss c M d Q (pc + 3) lv (v :: st) X Y) : ss c M d Q pc lv (.ref (c_ad c i) :: st) X Y :=
  sm_get hd hf (by rw [zw_at hi, hs]) hv k
theorem ss_put {ix ci kf i : Nat} {fs : List Value} {v : Int32} {ty : FieldType} (hd : decode M.2.1 pc = .ok (.putfield ix, 3)) (hf : sm_FW M.1.cls ix ci kf ty false) (hi : i < 126) (hs : sh (c_ad c) (c_cy c) i (X i) (Y i) = .inr (ci, fs)) (hn : narrow ty (.int v) = .int v) (ht : fits ty (.int v) = true) (hk : kf < fs.length) (he : sh (c_ad c) (c_cy c) i (upd (X i) kf v) (Y i) = .inr (ci, fs.set kf (.int v))) (k : ss c M d Q (pc + 3) lv st (up2 X i kf v) Y) : ss c M d Q pc lv (.int v :: .ref (c_ad c i) :: st) X Y :=
  sm_put (i := i) hd hf (by rw [zw_at hi, hs]) hn ht hk (by rw [zw_set (X' := up2 X i kf v) (Y' := Y) hi (by rw [up2_eq]; exact he) up2_ne (fun _ _ => rfl)]; exact k)
theorem ss_putj {ix ci kf i : Nat} {fs : List Value} {v : Int64} (hd : decode M.2.1 pc = .ok (.putfield ix, 3)) (hf : sm_FW M.1.cls ix ci kf .long false) (hi : i < 126) (hs : sh (c_ad c) (c_cy c) i (X i) (Y i) = .inr (ci, fs)) (hk : kf < fs.length) (he : sh (c_ad c) (c_cy c) i (X i) (vp_updL (Y i) kf v) = .inr (ci, fs.set kf (.long v))) (k : ss c M d Q (pc + 3) lv st X (upl Y i kf v)) : ss c M d Q pc lv (.long v :: .ref (c_ad c i) :: st) X Y :=
  sm_put (i := i) hd hf (by rw [zw_at hi, hs]) rfl rfl hk (by rw [zw_set (X' := X) (Y' := upl Y i kf v) hi (by rw [upl_eq]; exact he) (fun _ _ => rfl) upl_ne]; exact k)
theorem ss_iald {i n j : Nat} (hd : decode M.2.1 pc = .ok (.iaload, 1)) (hi : i < 126) (hs : ∀ f g, sh (c_ad c) (c_cy c) i f g = .inl (c_cy c 0, n, .inl f)) (hj : j < n) (hn : n < 2 ^ 31) (k : ss c M d Q (pc + 1) lv (.int (X i j) :: st) X Y) : ss c M d Q pc lv (.int (nI j) :: .ref (c_ad c i) :: st) X Y :=
  sm_iald hd (by rw [zw_at hi, hs]) (vp_in_nI hj hn) (by rw [nI_clamp (by omega)]; exact k)
theorem ss_lald {i n j : Nat} (hd : decode M.2.1 pc = .ok (.laload, 1)) (hi : i < 126) (hs : ∀ f g, sh (c_ad c) (c_cy c) i f g = .inl (c_cy c 1, n, .inr (.inl g))) (hj : j < n) (hn : n < 2 ^ 31) (k : ss c M d Q (pc + 1) lv (.long (Y i j) :: st) X Y) : ss c M d Q pc lv (.int (nI j) :: .ref (c_ad c i) :: st) X Y :=
  sm_lald hd (by rw [zw_at hi, hs]) (vp_in_nI hj hn) (by rw [nI_clamp (by omega)]; exact k)
theorem ss_zald {i n j : Nat} (hd : decode M.2.1 pc = .ok (.baload, 1)) (hi : i < 126) (hs : ∀ f g, sh (c_ad c) (c_cy c) i f g = .inl (c_cy c 2, n, .inl f)) (hj : j < n) (hn : n < 2 ^ 31) (k : ss c M d Q (pc + 1) lv (.int (X i j) :: st) X Y) : ss c M d Q pc lv (.int (nI j) :: .ref (c_ad c i) :: st) X Y :=
  sm_zald hd (by rw [zw_at hi, hs]) (vp_in_nI hj hn) (by rw [nI_clamp (by omega)]; exact k)
theorem ss_iast {i n j : Nat} {v : Int32} (hd : decode M.2.1 pc = .ok (.iastore, 1)) (hi : i < 126) (hs : ∀ f g, sh (c_ad c) (c_cy c) i f g = .inl (c_cy c 0, n, .inl f)) (hj : j < n) (hn : n < 2 ^ 31) (k : ss c M d Q (pc + 1) lv st (up2 X i j v) Y) : ss c M d Q pc lv (.int v :: .int (nI j) :: .ref (c_ad c i) :: st) X Y :=
  sm_iast (i := i) hd (by rw [zw_at hi, hs]) (vp_in_nI hj hn) (by rw [nI_clamp (by omega), zw_set (X' := up2 X i j v) (Y' := Y) hi (by rw [up2_eq]; exact hs _ _) up2_ne (fun _ _ => rfl)]; exact k)
theorem ss_last {i n j : Nat} {v : Int64} (hd : decode M.2.1 pc = .ok (.lastore, 1)) (hi : i < 126) (hs : ∀ f g, sh (c_ad c) (c_cy c) i f g = .inl (c_cy c 1, n, .inr (.inl g))) (hj : j < n) (hn : n < 2 ^ 31) (k : ss c M d Q (pc + 1) lv st X (upl Y i j v)) : ss c M d Q pc lv (.long v :: .int (nI j) :: .ref (c_ad c i) :: st) X Y :=
  sm_last (i := i) hd (by rw [zw_at hi, hs]) (vp_in_nI hj hn) (by rw [nI_clamp (by omega), zw_set (X' := X) (Y' := upl Y i j v) hi (by rw [upl_eq]; exact hs _ _) (fun _ _ => rfl) upl_ne]; exact k)
theorem ss_zast {i n j : Nat} {v : Int32} (hd : decode M.2.1 pc = .ok (.bastore, 1)) (hi : i < 126) (hs : ∀ f g, sh (c_ad c) (c_cy c) i f g = .inl (c_cy c 2, n, .inl f)) (hj : j < n) (hn : n < 2 ^ 31) (hv : vp_nar .boolean v = v) (k : ss c M d Q (pc + 1) lv st (up2 X i j v) Y) : ss c M d Q pc lv (.int v :: .int (nI j) :: .ref (c_ad c i) :: st) X Y :=
  sm_zast (i := i) hd (by rw [zw_at hi, hs]) (vp_in_nI hj hn) (by rw [nI_clamp (by omega), hv, zw_set (X' := up2 X i j v) (Y' := Y) hi (by rw [up2_eq]; exact hs _ _) up2_ne (fun _ _ => rfl)]; exact k)
theorem ss_worth {w : Nat} (hd : decode M.2.1 pc = .ok (.aaload, 1)) (hw : w < 12) (k : ss c M d Q (pc + 1) lv (.ref (c_ad c (2 + 7 * w)) :: st) X Y) : ss c M d Q pc lv (.int (nI w) :: .ref (c_ad c 1) :: st) X Y :=
  sm_aald (i := 1) (t := 3) hd (by rw [zw_at (by omega), sh_r1]) rfl (vp_in_nI hw (by decide)) (by rw [nI_clamp (by omega), if_pos hw]) k
theorem ss_sheet {w : Nat} (hd : decode M.2.1 pc = .ok (.aaload, 1)) (hw : w < 4) (k : ss c M d Q (pc + 1) lv (.ref (c_ad c (87 + 2 * w)) :: st) X Y) : ss c M d Q pc lv (.int (nI w) :: .ref (c_ad c 86) :: st) X Y :=
  sm_aald (i := 86) (t := 4) hd (by rw [zw_at (by omega), sh_r86]) rfl (vp_in_nI hw (by decide)) (by rw [nI_clamp (by omega), if_pos hw]) k
theorem ss_callV {ix n i ci : Nat} {fs : List Value} {As rest : List Value} {r : Option Value} {X' : nX} {Y' : nY} (hd : decode M.2.1 pc = .ok (.invokevirtual ix, 3)) (hL : sm_VL M.1.cls ix M') (hC : sm_CL M' n) (hn : As.length = n) (hst : st = As.reverse ++ .ref (c_ad c i) :: rest) (hi : i < 126) (hs : sh (c_ad c) (c_cy c) i (X i) (Y i) = .inr (ci, fs)) (hcl : (vwCl[ci]?).map (fun q => q.1) = some M'.1.cls) (hsum : (rest.map fun v => v.category).sum ≤ 8) (hlen : (lg_sl (.ref (c_ad c i) :: As)).length ≤ M'.2.2.1) (hc : sc c M' d (.ref (c_ad c i) :: As) X Y r X' Y') (k : ss c M (d + 1) Q (pc + 3) lv (r.toList ++ rest) X' Y') : ss c M (d + 1) Q pc lv st X Y :=
  sm_callV (mc := 0) (ms := 0) hd hL hC hn hst (by rw [zw_at hi, hs]) hcl hsum hlen (hc (fun r2 X2 Y2 => r2 = r ∧ X2 = X' ∧ Y2 = Y') ⟨rfl, rfl, rfl⟩) (fun r2 ws2 h => by
    obtain ⟨X2, Y2, rfl, rfl, rfl, rfl⟩ := h
    exact k)
theorem ss_callS {ix n : Nat} {As rest : List Value} {r : Option Value} {X' : nX} {Y' : nY} (hd : decode M.2.1 pc = .ok (.invokestatic ix, 3)) (hL : sm_SL M.1.cls ix M') (hC : sm_CL M' n) (hn : As.length = n) (hst : st = As.reverse ++ rest) (hsum : (rest.map fun v => v.category).sum ≤ 8) (hlen : (lg_sl As).length ≤ M'.2.2.1) (hc : sc c M' d As X Y r X' Y') (k : ss c M (d + 1) Q (pc + 3) lv (r.toList ++ rest) X' Y') : ss c M (d + 1) Q pc lv st X Y :=
  sm_callS (mc := 0) (ms := 0) hd hL hC hn hst hsum hlen (hc (fun r2 X2 Y2 => r2 = r ∧ X2 = X' ∧ Y2 = Y') ⟨rfl, rfl, rfl⟩) (fun r2 ws2 h => by
    obtain ⟨X2, Y2, rfl, rfl, rfl, rfl⟩ := h
    exact k)
theorem ss_callSN {ix n : Nat} {As rest : List Value} {r : Option Value} {X' : nX} {Y' : nY} (hd : decode M.2.1 pc = .ok (.invokestatic ix, 3)) (hL : sm_SN M.1.cls ix M') (hC : sm_CL M' n) (hn : As.length = n) (hst : st = As.reverse ++ rest) (hsum : (rest.map fun v => v.category).sum ≤ 8) (hlen : (lg_sl As).length ≤ M'.2.2.1) (hc : sc c M' d As X Y r X' Y') (k : ss c M (d + 1) Q (pc + 3) lv (r.toList ++ rest) X' Y') : ss c M (d + 1) Q pc lv st X Y :=
  sm_callSN (mc := 0) (ms := 0) hd hL hC hn hst hsum hlen (hc (fun r2 X2 Y2 => r2 = r ∧ X2 = X' ∧ Y2 = Y') ⟨rfl, rfl, rfl⟩) (fun r2 ws2 h => by
    obtain ⟨X2, Y2, rfl, rfl, rfl, rfl⟩ := h
    exact k)
end SSR
