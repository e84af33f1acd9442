/-! at the start both sides are alike -/
theorem Rel_start : Rel xS yS := by
  refine ⟨0, 0, 1, fun k => k, ⟨by decide, by decide, by decide +kernel, by decide +kernel, by decide +kernel, by decide +kernel, by decide +kernel⟩, ⟨by decide +kernel, by decide +kernel, by decide +kernel, by decide, fun k hk => absurd hk (Nat.not_lt_zero k), fun k hk => absurd hk (Nat.not_lt_zero k), fun k hk => absurd hk (Nat.not_lt_zero k)⟩, fun s hs => Or.inl ?_, fun k hk => absurd hk (Nat.not_lt_zero k)⟩
  have e : s = 0 ∨ s = 1 ∨ s = 2 ∨ s = 3 := by omega
  rcases e with rfl | rfl | rfl | rfl <;> exact ⟨by decide +kernel, by decide +kernel⟩
theorem arr_known {s : State} {A : Array Value} {ty : FieldType} (h : (Cond.arrayClass ty).before A s = true) : ∃ cA : ClassId, ArrOfT s cA ty ∧ s.vm.findClass ("[" ++ ty.toString) = some cA := by
  obtain ⟨cA, kA, comp, h1, h2, h3⟩ := Cond.arrayClass_spec h
  exact ⟨cA, fun n z => ⟨fun k h => (by cases h), kA, h2, comp, h3⟩, h1⟩
theorem over_known {s : State} {C : String} (h : va_AO C s) : ∃ cA : ClassId, ArrOfT s cA (.object C) ∧ va_RA s cA (.object C) := by
  obtain ⟨comp, cA, kA, h1, h2, h3, h4, h5⟩ := Cond.arrayOver_spec h
  exact ⟨cA, fun n z => ⟨fun k h => (by cases h), kA, h3, comp, h4⟩, kA, comp, h3, h4, h1, h5⟩
/-- what the tables say, gathered -/
theorem all_known {s : State} {A : Array Value} (hts : ∀ w ∈ lw_tbl, w.before A s = true) : ∃ (D : va_G) (cy : Nat → ClassId), sm_K D cy s := by
  have hsm : ∀ w ∈ sm_tbl, w.before A s = true := fun w hw => hts w (List.mem_filter.mp hw).1
  obtain ⟨c0, i0, k0⟩ := u_known (n := 3) hsm fxX0 (hsm (Cond.instantiable RX0 3) (sm_t 112 (by decide +kernel) rfl))
  obtain ⟨c1, i1, k1⟩ := u_known (n := 4) hsm fxX1 (hsm (Cond.instantiable RX1 4) (sm_t 131 (by decide +kernel) rfl))
  obtain ⟨c2, i2, k2⟩ := u_known (n := 4) hsm fxX2 (hsm (Cond.instantiable RX2 4) (sm_t 153 (by decide +kernel) rfl))
  obtain ⟨c3, i3, k3⟩ := u_known (n := 2) hsm fxX3 (hsm (Cond.instantiable RX3 2) (sm_t 28 (by decide +kernel) rfl))
  obtain ⟨c4, i4, k4⟩ := u_known (n := 5) hsm fxX4 (hsm (Cond.instantiable RX4 5) (sm_t 175 (by decide +kernel) rfl))
  obtain ⟨c5, i5, k5⟩ := u_known (n := 4) hsm fxX5 (hsm (Cond.instantiable RX5 4) (sm_t 89 (by decide +kernel) rfl))
  obtain ⟨c6, i6, k6⟩ := u_known (n := 9) hsm fxX6 (hsm (Cond.instantiable RX6 9) (sm_t 22 (by decide +kernel) rfl))
  obtain ⟨c7, i7, k7⟩ := u_known (n := 9) hsm fxX7 (hsm (Cond.instantiable RX7 9) (sm_t 13 (by decide +kernel) rfl))
  obtain ⟨c8, i8, k8⟩ := u_known (n := 24) hsm fxX8 (hsm (Cond.instantiable RX8 24) (sm_t 686 (by decide +kernel) rfl))
  obtain ⟨d0, e0, g0⟩ := arr_known (hsm _ ac_int)
  obtain ⟨d1, e1, g1⟩ := arr_known (hsm _ ac_long)
  obtain ⟨d2, e2, g2⟩ := arr_known (hsm _ ac_boolean)
  have o6 : va_AO RX6 s := va_AO.of (hts (Cond.arrayOver (.object RX6)) (List.mem_append_right _ (List.mem_of_getElem? (i := 21) (by decide +kernel))))
  have o5 : va_AO RX5 s := va_AO.of (hts (Cond.arrayOver (.object RX5)) (List.mem_append_right _ (List.mem_of_getElem? (i := 88) (by decide +kernel))))
  obtain ⟨d3, e3, g3⟩ := over_known o6
  obtain ⟨d4, e4, g4⟩ := over_known o5
  refine ⟨(fun k => match k with | 0 => c0 | 1 => c1 | 2 => c2 | 3 => c3 | 4 => c4 | 5 => c5 | 6 => c6 | 7 => c7 | _ => c8, fun k => match k with | 0 => i0 | 1 => i1 | 2 => i2 | 3 => i3 | 4 => i4 | 5 => i5 | 6 => i6 | 7 => i7 | _ => i8), fun k => match k with | 0 => d0 | 1 => d1 | 2 => d2 | 3 => d3 | _ => d4, ⟨fun c q hq => ?_, fun k q hq => ?_⟩, fun q hq => ?_, o6, o5⟩
  · match c, hq with
    | 0, hq => cases hq; exact k0
    | 1, hq => cases hq; exact k1
    | 2, hq => cases hq; exact k2
    | 3, hq => cases hq; exact k3
    | 4, hq => cases hq; exact k4
    | 5, hq => cases hq; exact k5
    | 6, hq => cases hq; exact k6
    | 7, hq => cases hq; exact k7
    | 8, hq => cases hq; exact k8
    | (n + 9), hq => cases hq
  · match k, hq with
    | 0, hq => cases hq; exact ⟨e0, g0⟩
    | 1, hq => cases hq; exact ⟨e1, g1⟩
    | 2, hq => cases hq; exact ⟨e2, g2⟩
    | 3, hq => cases hq; exact ⟨e3, g3⟩
    | 4, hq => cases hq; exact ⟨e4, g4⟩
    | (n + 5), hq => cases hq
  · obtain ⟨w, hw, he⟩ := List.mem_filterMap.mp hq
    cases w with
    | methodLinkNest a i x h =>
      cases he
      exact hts _ hw
    | _ => cases he
