/-! laid by law3.py: what the start gives -/
set_option maxRecDepth 100000 in
set_option maxHeartbeats 4000000 in
theorem xKn {s : State} {b : Nat} (hts : ∀ w ∈ lw_tbl, w.before #[Value.ref b] s = true) : ∃ (D : va_G) (cI cO : ClassId), va_K D vwCl (xT cI cO) s := by
  obtain ⟨c0, i0, k0⟩ := u_known (C := RX0) (T := TX0) (N := 3) (n := 3) hts inX0 (hts (.instantiable RX0 3) (List.mem_of_getElem? (i := 205) (by decide +kernel)))
  obtain ⟨c1, i1, k1⟩ := u_known (C := RX1) (T := TX1) (N := 3) (n := 3) hts inX1 (hts (.instantiable RX1 3) (List.mem_of_getElem? (i := 144) (by decide +kernel)))
  obtain ⟨c2, i2, k2⟩ := u_known (C := RX2) (T := TX2) (N := 7) (n := 7) hts inX2 (hts (.instantiable RX2 7) (List.mem_of_getElem? (i := 102) (by decide +kernel)))
  obtain ⟨c3, i3, k3⟩ := u_known (C := RX3) (T := TX3) (N := 6) (n := 6) hts inX3 (hts (.instantiable RX3 6) (List.mem_of_getElem? (i := 164) (by decide +kernel)))
  obtain ⟨c4, i4, k4⟩ := u_known (C := RX4) (T := TX4) (N := 3) (n := 3) hts inX4 (hts (.instantiable RX4 3) (List.mem_of_getElem? (i := 189) (by decide +kernel)))
  obtain ⟨c5, i5, k5⟩ := u_known (C := RX5) (T := TX5) (N := 3) (n := 3) hts inX5 (hts (.instantiable RX5 3) (List.mem_of_getElem? (i := 58) (by decide +kernel)))
  obtain ⟨c6, i6, k6⟩ := u_known (C := RX6) (T := TX6) (N := 10) (n := 10) hts inX6 (hts (.instantiable RX6 10) (List.mem_of_getElem? (i := 50) (by decide +kernel)))
  obtain ⟨c7, i7, k7⟩ := u_known (C := RX7) (T := TX7) (N := 14) (n := 14) hts inX7 (hts (.instantiable RX7 14) (List.mem_of_getElem? (i := 574) (by decide +kernel)))
  obtain ⟨cI, kA, comp, f1, f2, f3⟩ := Cond.arrayClass_spec (hts (.arrayClass .int) (List.mem_of_getElem? (i := 100) (by decide +kernel)))
  obtain ⟨comp2, cO, kO, g1, g2, g3, g4, g5⟩ := Cond.arrayOver_spec (hts (.arrayOver (.object "BrotherAutomata$RuleBook")) (List.mem_of_getElem? (i := 150) (by decide +kernel)))
  refine ⟨((fun j => match j with | 0 => c0 | 1 => c1 | 2 => c2 | 3 => c3 | 4 => c4 | 5 => c5 | 6 => c6 | _ => c7), (fun j => match j with | 0 => i0 | 1 => i1 | 2 => i2 | 3 => i3 | 4 => i4 | 5 => i5 | 6 => i6 | _ => i7)), cI, cO, ⟨fun c q hq => ?_, fun k q hk => ?_⟩⟩
  · have hl : c < 8 := (List.getElem?_eq_some_iff.mp hq).1
    rcases (show c = 0 ∨ c = 1 ∨ c = 2 ∨ c = 3 ∨ c = 4 ∨ c = 5 ∨ c = 6 ∨ c = 7 by omega) with rfl | rfl | rfl | rfl | rfl | rfl | rfl | rfl
    · cases hq; exact k0
    · cases hq; exact k1
    · cases hq; exact k2
    · cases hq; exact k3
    · cases hq; exact k4
    · cases hq; exact k5
    · cases hq; exact k6
    · cases hq; exact k7
  · have hl : k < 2 := (List.getElem?_eq_some_iff.mp hk).1
    rcases (show k = 0 ∨ k = 1 by omega) with rfl | rfl
    · cases hk; exact ⟨fun n z => ⟨fun k h => (by cases h), kA, f2, comp, f3⟩, f1⟩
    · cases hk; exact ⟨fun n z => ⟨fun k h => (by cases h), kO, g3, comp2, g4⟩, kO, comp2, g3, g4, g1, g5⟩
theorem xOv {s : State} {b : Nat} (hts : ∀ w ∈ lw_tbl, w.before #[Value.ref b] s = true) : va_AO "BrotherAutomata$RuleBook" s := va_AO.of (hts (.arrayOver (.object "BrotherAutomata$RuleBook")) (List.mem_of_getElem? (i := 150) (by decide +kernel)))
set_option maxRecDepth 100000 in
theorem xNWin : ∀ w ∈ xNW, w ∈ lw_tbl := mem_pl [85, 70, 79, 115, 112, 476, 121, 118, 109, 124, 117, 120, 114, 111, 280, 108, 123, 359, 127, 155, 214, 211, 91, 125] (by decide +kernel)
theorem xNWs {s : State} {b : Nat} (hts : ∀ w ∈ lw_tbl, w.before #[Value.ref b] s = true) : ∀ w ∈ xNW, va_Nw w s := by
  intro w hw
  have h := hts w (xNWin w hw)
  simp only [xNW, List.mem_cons, List.not_mem_nil, or_false] at hw
  rcases hw with rfl | rfl | rfl | rfl | rfl | rfl | rfl | rfl | rfl | rfl | rfl | rfl | rfl | rfl | rfl | rfl | rfl | rfl | rfl | rfl | rfl | rfl | rfl | rfl <;> exact va_Nw.of rfl h
set_option maxRecDepth 100000 in
set_option maxHeartbeats 4000000 in
theorem xSt {s : State} {b : Nat} (hts : ∀ w ∈ lw_tbl, w.before #[Value.ref b] s = true) (hgv : (Jvm.Cond.and given_1 narrow_1).before #[Value.ref b] s = true) : ∃ tA tS : Nat, xE tA tS (fun q => s.heap.size ≤ q) s s.heap := by
  have hs := flat_of_before _ hgv
  have hA : ∀ a : Nat, a < s.heap.size → ¬ s.heap.size ≤ a := fun a h => Nat.not_le.mpr h
  have hini := hts (.initialized "BrotherAutomata") (List.mem_of_getElem? (i := 37) (by decide +kernel))
  obtain ⟨tA, eA, hA_⟩ := va_Tof (tm := (Term.static "BrotherAutomata" "ARITY" "[I")) (ty := .int) (N := 5) (f := fun j => .int (xar j)) (A := fun q => s.heap.size ≤ q) (by decide) (hs (Cond.arrayOf (Term.static "BrotherAutomata" "ARITY" "[I") .int) (by decide +kernel)) (va_eqt (hs (Cond.eq (.length (Term.static "BrotherAutomata" "ARITY" "[I")) (.int 5)) (by decide +kernel))) (fun j hj => by
    rcases (show j = 0 ∨ j = 1 ∨ j = 2 ∨ j = 3 ∨ j = 4 by omega) with rfl | rfl | rfl | rfl | rfl
    · exact va_eqt (hs (Cond.eq (.elem (Term.static "BrotherAutomata" "ARITY" "[I") (.int 0)) (.int 0)) (by decide +kernel))
    · exact va_eqt (hs (Cond.eq (.elem (Term.static "BrotherAutomata" "ARITY" "[I") (.int 1)) (.int 0)) (by decide +kernel))
    · exact va_eqt (hs (Cond.eq (.elem (Term.static "BrotherAutomata" "ARITY" "[I") (.int 2)) (.int 1)) (by decide +kernel))
    · exact va_eqt (hs (Cond.eq (.elem (Term.static "BrotherAutomata" "ARITY" "[I") (.int 3)) (.int 2)) (by decide +kernel))
    · exact va_eqt (hs (Cond.eq (.elem (Term.static "BrotherAutomata" "ARITY" "[I") (.int 4)) (.int 2)) (by decide +kernel))
    ) hA
  obtain ⟨tS, eS, hS⟩ := va_Tof (tm := (Term.static "BrotherAutomata" "START" "[I")) (ty := .int) (N := 9) (f := fun j => .int (xst j)) (A := fun q => s.heap.size ≤ q) (by decide) (hs (Cond.arrayOf (Term.static "BrotherAutomata" "START" "[I") .int) (by decide +kernel)) (va_eqt (hs (Cond.eq (.length (Term.static "BrotherAutomata" "START" "[I")) (.int 9)) (by decide +kernel))) (fun j hj => by
    rcases (show j = 0 ∨ j = 1 ∨ j = 2 ∨ j = 3 ∨ j = 4 ∨ j = 5 ∨ j = 6 ∨ j = 7 ∨ j = 8 by omega) with rfl | rfl | rfl | rfl | rfl | rfl | rfl | rfl | rfl
    · exact va_eqt (hs (Cond.eq (.elem (Term.static "BrotherAutomata" "START" "[I") (.int 0)) (.int 0)) (by decide +kernel))
    · exact va_eqt (hs (Cond.eq (.elem (Term.static "BrotherAutomata" "START" "[I") (.int 1)) (.int 0)) (by decide +kernel))
    · exact va_eqt (hs (Cond.eq (.elem (Term.static "BrotherAutomata" "START" "[I") (.int 2)) (.int 2)) (by decide +kernel))
    · exact va_eqt (hs (Cond.eq (.elem (Term.static "BrotherAutomata" "START" "[I") (.int 3)) (.int 4)) (by decide +kernel))
    · exact va_eqt (hs (Cond.eq (.elem (Term.static "BrotherAutomata" "START" "[I") (.int 4)) (.int 14)) (by decide +kernel))
    · exact va_eqt (hs (Cond.eq (.elem (Term.static "BrotherAutomata" "START" "[I") (.int 5)) (.int 40)) (by decide +kernel))
    · exact va_eqt (hs (Cond.eq (.elem (Term.static "BrotherAutomata" "START" "[I") (.int 6)) (.int 154)) (by decide +kernel))
    · exact va_eqt (hs (Cond.eq (.elem (Term.static "BrotherAutomata" "START" "[I") (.int 7)) (.int 556)) (by decide +kernel))
    · exact va_eqt (hs (Cond.eq (.elem (Term.static "BrotherAutomata" "START" "[I") (.int 8)) (.int 2278)) (by decide +kernel))
    ) hA
  refine ⟨tA, tS, xNWs hts, va_Zof (hts (.laysStatic "BrotherAutomata" "ARITY" "[I") (List.mem_of_getElem? (i := 71) (by decide +kernel))) hini eA hA, hA_, va_Zof (hts (.laysStatic "BrotherAutomata" "START" "[I") (List.mem_of_getElem? (i := 80) (by decide +kernel))) hini eS hA, hS⟩
