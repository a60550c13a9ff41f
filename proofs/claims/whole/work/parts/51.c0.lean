theorem dX0_init_0 : decode cX0_init 0 = .ok (.aload_n 0, 1) := by decide +kernel
theorem dX0_init_1 : decode cX0_init 1 = .ok (.invokespecial 3, 3) := by decide +kernel
theorem dX0_init_4 : decode cX0_init 4 = .ok (.aload_n 0, 1) := by decide +kernel
theorem dX0_init_5 : decode cX0_init 5 = .ok (.bipush 64, 2) := by decide +kernel
theorem dX0_init_7 : decode cX0_init 7 = .ok (.newarray .int, 2) := by decide +kernel
theorem dX0_init_9 : decode cX0_init 9 = .ok (.putfield 9, 3) := by decide +kernel
theorem dX0_init_12 : decode cX0_init 12 = .ok (.aload_n 0, 1) := by decide +kernel
theorem dX0_init_13 : decode cX0_init 13 = .ok (.bipush 64, 2) := by decide +kernel
theorem dX0_init_15 : decode cX0_init 15 = .ok (.newarray .int, 2) := by decide +kernel
theorem dX0_init_17 : decode cX0_init 17 = .ok (.putfield 15, 3) := by decide +kernel
theorem dX0_init_20 : decode cX0_init 20 = .ok (.aload_n 0, 1) := by decide +kernel
theorem dX0_init_21 : decode cX0_init 21 = .ok (.bipush 64, 2) := by decide +kernel
theorem dX0_init_23 : decode cX0_init 23 = .ok (.newarray .int, 2) := by decide +kernel
theorem dX0_init_25 : decode cX0_init 25 = .ok (.putfield 18, 3) := by decide +kernel
theorem dX0_init_28 : decode cX0_init 28 = .ok (.return_, 1) := by decide +kernel
theorem jX0_init_X0 : ∀ w ∈ wsX00, w ∈ wsX0_init := by decide +kernel
set_option maxRecDepth 100000 in
set_option maxHeartbeats 8000000 in
theorem mX0_init (l : Launch) (D : va_G) (cI cO : ClassId) (tA tS : Nat) (o : Nat) (sz : Nat) : Met l yX0_init wsX0_init ({ frames := 1, cells := 3, slots := 192, locals := 12 } : Room) (xPre D cI cO tA tS [.ref o] [(o, .inr (0, [.null, .null, .null]))] sz) (va_Qv (fun a : Nat → Nat => a 0 = o) (xB D cI cO (va_A [(o, .inr (0, [.null, .null, .null]))] sz) (fun a : Nat → Nat => wZ cI a z0)) (va_A [(o, .inr (0, [.null, .null, .null]))] sz)) 3 192 (va_A [(o, .inr (0, [.null, .null, .null]))] sz) := by
  refine xMet D cI cO tA tS (fun A => va_Qv (fun a : Nat → Nat => a 0 = o) (xB D cI cO A (fun a : Nat → Nat => wZ cI a z0)) A) (cc := cX0_init) (maxL := 1) (ret := none) (by decide) rfl (Nat.le_of_ble_eq_true rfl) ?_
  intro p e s m below meth c A ls hx hb hr hts hown hlocks hin hml hA hS hP hK hD hE hl
  have hown : s.vm.findClass RX0 = some m.cls := hown
  have hin : meth.name = "<init>" := hin
  have hl : lv_has ls 1 [(0, .ref o)] := hl
  refine lv_aload_n hx hb dX0_init_0 rfl (lv_at hl 0 rfl) ?_
  refine W.objInit hx hb hown (hts (.methodLink RX0 3 objectInit) (List.mem_of_getElem? (i := 1) rfl)) (hts (.instanceMethod objectInit) (List.mem_of_getElem? (i := 2) rfl)) (hts _ (List.mem_of_getElem? (i := 3) rfl)) rfl (by rw [hml]; exact hl.1) rfl dX0_init_1 (Nat.le_of_ble_eq_true rfl) (Nat.le_of_ble_eq_true rfl) ?_
  refine W.eq (g2 := F0 m 4 ls []) rfl ?_
  refine lv_aload_n hx hb dX0_init_4 rfl (lv_at hl 0 rfl) ?_
  refine lv_bipush (v := 64) hx hb dX0_init_5 (by decide) ?_
  refine xnewa (N' := 64) hx hb (hts (.arrayClass .int) (List.mem_of_getElem? (i := 4) rfl)) hK hP hD hS hA (by decide) rfl (Nat.le_of_ble_eq_true rfl) (Nat.le_of_ble_eq_true rfl) (Nat.le_of_ble_eq_true rfl) dX0_init_7 (fun q7 H hP hD hS => ?_)
  have hP : va_P D vwCl ([(o, .inr (0, [.null, .null, .null])), (q7, .inl (cI, 64, .inl (fun _ => 0)))]) H := hP
  have hD : va_D A ([(o, .inr (0, [.null, .null, .null])), (q7, .inl (cI, 64, .inl (fun _ => 0)))]) := hD
  refine W.widen (k := 1) (n := 64) (Nat.le_of_ble_eq_true rfl) (Nat.le_of_ble_eq_true rfl) ?_
  refine va_putF (D := D) (ci := 0) (v := .ref q7) (ty := .array .int) (C := RX0) (T := TX0) (N := 3) hx hb hts jX0_init_X0 tyX0 tyX0_ok nmX0 hown hK hP hD hS 0 rfl rfl 0 (by decide) (hts (.fieldLink RX0 9 "BrotherAutomata$Census" "numbers" "[I") (List.mem_of_getElem? (i := 5) rfl)) (fun _ h9 => h9) rfl hin rfl (by decide +kernel) rfl rfl (Nat.le_of_ble_eq_true rfl) dX0_init_9 (fun H locs hP hD hS => ?_)
  have hP : va_P D vwCl ([(o, .inr (0, [.ref q7, .null, .null])), (q7, .inl (cI, 64, .inl (fun _ => 0)))]) H := hP
  have hD : va_D A ([(o, .inr (0, [.ref q7, .null, .null])), (q7, .inl (cI, 64, .inl (fun _ => 0)))]) := hD
  refine lv_aload_n hx hb dX0_init_12 rfl (lv_at hl 0 rfl) ?_
  refine lv_bipush (v := 64) hx hb dX0_init_13 (by decide) ?_
  refine xnewa (N' := 64) hx hb (hts (.arrayClass .int) (List.mem_of_getElem? (i := 4) rfl)) hK hP hD hS hA (by decide) rfl (Nat.le_of_ble_eq_true rfl) (Nat.le_of_ble_eq_true rfl) (Nat.le_of_ble_eq_true rfl) dX0_init_15 (fun q15 H hP hD hS => ?_)
  have hP : va_P D vwCl ([(o, .inr (0, [.ref q7, .null, .null])), (q7, .inl (cI, 64, .inl (fun _ => 0))), (q15, .inl (cI, 64, .inl (fun _ => 0)))]) H := hP
  have hD : va_D A ([(o, .inr (0, [.ref q7, .null, .null])), (q7, .inl (cI, 64, .inl (fun _ => 0))), (q15, .inl (cI, 64, .inl (fun _ => 0)))]) := hD
  refine W.widen (k := 2) (n := 128) (Nat.le_of_ble_eq_true rfl) (Nat.le_of_ble_eq_true rfl) ?_
  refine va_putF (D := D) (ci := 0) (v := .ref q15) (ty := .array .int) (C := RX0) (T := TX0) (N := 3) hx hb hts jX0_init_X0 tyX0 tyX0_ok nmX0 hown hK hP hD hS 0 rfl rfl 1 (by decide) (hts (.fieldLink RX0 15 "BrotherAutomata$Census" "before" "[I") (List.mem_of_getElem? (i := 6) rfl)) (fun _ h9 => h9) rfl hin rfl (by decide +kernel) rfl rfl (Nat.le_of_ble_eq_true rfl) dX0_init_17 (fun H locs hP hD hS => ?_)
  have hP : va_P D vwCl ([(o, .inr (0, [.ref q7, .ref q15, .null])), (q7, .inl (cI, 64, .inl (fun _ => 0))), (q15, .inl (cI, 64, .inl (fun _ => 0)))]) H := hP
  have hD : va_D A ([(o, .inr (0, [.ref q7, .ref q15, .null])), (q7, .inl (cI, 64, .inl (fun _ => 0))), (q15, .inl (cI, 64, .inl (fun _ => 0)))]) := hD
  refine lv_aload_n hx hb dX0_init_20 rfl (lv_at hl 0 rfl) ?_
  refine lv_bipush (v := 64) hx hb dX0_init_21 (by decide) ?_
  refine xnewa (N' := 64) hx hb (hts (.arrayClass .int) (List.mem_of_getElem? (i := 4) rfl)) hK hP hD hS hA (by decide) rfl (Nat.le_of_ble_eq_true rfl) (Nat.le_of_ble_eq_true rfl) (Nat.le_of_ble_eq_true rfl) dX0_init_23 (fun q23 H hP hD hS => ?_)
  have hP : va_P D vwCl ([(o, .inr (0, [.ref q7, .ref q15, .null])), (q7, .inl (cI, 64, .inl (fun _ => 0))), (q15, .inl (cI, 64, .inl (fun _ => 0))), (q23, .inl (cI, 64, .inl (fun _ => 0)))]) H := hP
  have hD : va_D A ([(o, .inr (0, [.ref q7, .ref q15, .null])), (q7, .inl (cI, 64, .inl (fun _ => 0))), (q15, .inl (cI, 64, .inl (fun _ => 0))), (q23, .inl (cI, 64, .inl (fun _ => 0)))]) := hD
  refine W.widen (k := 3) (n := 192) (Nat.le_of_ble_eq_true rfl) (Nat.le_of_ble_eq_true rfl) ?_
  refine va_putF (D := D) (ci := 0) (v := .ref q23) (ty := .array .int) (C := RX0) (T := TX0) (N := 3) hx hb hts jX0_init_X0 tyX0 tyX0_ok nmX0 hown hK hP hD hS 0 rfl rfl 2 (by decide) (hts (.fieldLink RX0 18 "BrotherAutomata$Census" "heights" "[I") (List.mem_of_getElem? (i := 7) rfl)) (fun _ h9 => h9) rfl hin rfl (by decide +kernel) rfl rfl (Nat.le_of_ble_eq_true rfl) dX0_init_25 (fun H locs hP hD hS => ?_)
  have hP : va_P D vwCl ([(o, .inr (0, [.ref q7, .ref q15, .ref q23])), (q7, .inl (cI, 64, .inl (fun _ => 0))), (q15, .inl (cI, 64, .inl (fun _ => 0))), (q23, .inl (cI, 64, .inl (fun _ => 0)))]) H := hP
  have hD : va_D A ([(o, .inr (0, [.ref q7, .ref q15, .ref q23])), (q7, .inl (cI, 64, .inl (fun _ => 0))), (q15, .inl (cI, 64, .inl (fun _ => 0))), (q23, .inl (cI, 64, .inl (fun _ => 0)))]) := hD
  exact xvret (w := (fun a : Nat → Nat => wZ cI a z0)) (fun j => match j with | 0 => o | 1 => q7 | 2 => q15 | _ => q23) hx hb hr hlocks rfl hP hK hD hS dX0_init_28
theorem dX2_init_0 : decode cX2_init 0 = .ok (.aload_n 0, 1) := by decide +kernel
theorem dX2_init_1 : decode cX2_init 1 = .ok (.invokespecial 3, 3) := by decide +kernel
theorem dX2_init_4 : decode cX2_init 4 = .ok (.aload_n 0, 1) := by decide +kernel
theorem dX2_init_5 : decode cX2_init 5 = .ok (.bipush 16, 2) := by decide +kernel
theorem dX2_init_7 : decode cX2_init 7 = .ok (.newarray .int, 2) := by decide +kernel
theorem dX2_init_9 : decode cX2_init 9 = .ok (.putfield 9, 3) := by decide +kernel
theorem dX2_init_12 : decode cX2_init 12 = .ok (.aload_n 0, 1) := by decide +kernel
theorem dX2_init_13 : decode cX2_init 13 = .ok (.bipush 16, 2) := by decide +kernel
theorem dX2_init_15 : decode cX2_init 15 = .ok (.newarray .int, 2) := by decide +kernel
theorem dX2_init_17 : decode cX2_init 17 = .ok (.putfield 15, 3) := by decide +kernel
theorem dX2_init_20 : decode cX2_init 20 = .ok (.aload_n 0, 1) := by decide +kernel
theorem dX2_init_21 : decode cX2_init 21 = .ok (.bipush 16, 2) := by decide +kernel
theorem dX2_init_23 : decode cX2_init 23 = .ok (.newarray .int, 2) := by decide +kernel
theorem dX2_init_25 : decode cX2_init 25 = .ok (.putfield 18, 3) := by decide +kernel
theorem dX2_init_28 : decode cX2_init 28 = .ok (.aload_n 0, 1) := by decide +kernel
theorem dX2_init_29 : decode cX2_init 29 = .ok (.bipush 16, 2) := by decide +kernel
theorem dX2_init_31 : decode cX2_init 31 = .ok (.newarray .int, 2) := by decide +kernel
theorem dX2_init_33 : decode cX2_init 33 = .ok (.putfield 21, 3) := by decide +kernel
theorem dX2_init_36 : decode cX2_init 36 = .ok (.aload_n 0, 1) := by decide +kernel
theorem dX2_init_37 : decode cX2_init 37 = .ok (.bipush 16, 2) := by decide +kernel
theorem dX2_init_39 : decode cX2_init 39 = .ok (.newarray .int, 2) := by decide +kernel
theorem dX2_init_41 : decode cX2_init 41 = .ok (.putfield 24, 3) := by decide +kernel
theorem dX2_init_44 : decode cX2_init 44 = .ok (.aload_n 0, 1) := by decide +kernel
theorem dX2_init_45 : decode cX2_init 45 = .ok (.iconst 0, 1) := by decide +kernel
theorem dX2_init_46 : decode cX2_init 46 = .ok (.putfield 27, 3) := by decide +kernel
theorem dX2_init_49 : decode cX2_init 49 = .ok (.aload_n 0, 1) := by decide +kernel
theorem dX2_init_50 : decode cX2_init 50 = .ok (.iconst 0, 1) := by decide +kernel
theorem dX2_init_51 : decode cX2_init 51 = .ok (.putfield 31, 3) := by decide +kernel
theorem dX2_init_54 : decode cX2_init 54 = .ok (.return_, 1) := by decide +kernel
theorem jX2_init_X2 : ∀ w ∈ wsX20, w ∈ wsX2_init := by decide +kernel
set_option maxRecDepth 100000 in
set_option maxHeartbeats 8000000 in
theorem mX2_init (l : Launch) (D : va_G) (cI cO : ClassId) (tA tS : Nat) (o : Nat) (sz : Nat) : Met l yX2_init wsX2_init ({ frames := 1, cells := 5, slots := 80, locals := 12 } : Room) (xPre D cI cO tA tS [.ref o] [(o, .inr (2, [.null, .null, .null, .null, .null, .int 0, .int 0]))] sz) (va_Qv (fun a : Nat → Nat => a 0 = o) (xB D cI cO (va_A [(o, .inr (2, [.null, .null, .null, .null, .null, .int 0, .int 0]))] sz) (fun a : Nat → Nat => wB cI a z0)) (va_A [(o, .inr (2, [.null, .null, .null, .null, .null, .int 0, .int 0]))] sz)) 5 80 (va_A [(o, .inr (2, [.null, .null, .null, .null, .null, .int 0, .int 0]))] sz) := by
  refine xMet D cI cO tA tS (fun A => va_Qv (fun a : Nat → Nat => a 0 = o) (xB D cI cO A (fun a : Nat → Nat => wB cI a z0)) A) (cc := cX2_init) (maxL := 1) (ret := none) (by decide) rfl (Nat.le_of_ble_eq_true rfl) ?_
  intro p e s m below meth c A ls hx hb hr hts hown hlocks hin hml hA hS hP hK hD hE hl
  have hown : s.vm.findClass RX2 = some m.cls := hown
  have hin : meth.name = "<init>" := hin
  have hl : lv_has ls 1 [(0, .ref o)] := hl
  refine lv_aload_n hx hb dX2_init_0 rfl (lv_at hl 0 rfl) ?_
  refine W.objInit hx hb hown (hts (.methodLink RX2 3 objectInit) (List.mem_of_getElem? (i := 1) rfl)) (hts (.instanceMethod objectInit) (List.mem_of_getElem? (i := 2) rfl)) (hts _ (List.mem_of_getElem? (i := 3) rfl)) rfl (by rw [hml]; exact hl.1) rfl dX2_init_1 (Nat.le_of_ble_eq_true rfl) (Nat.le_of_ble_eq_true rfl) ?_
  refine W.eq (g2 := F0 m 4 ls []) rfl ?_
  refine lv_aload_n hx hb dX2_init_4 rfl (lv_at hl 0 rfl) ?_
  refine lv_bipush (v := 16) hx hb dX2_init_5 (by decide) ?_
  refine xnewa (N' := 16) hx hb (hts (.arrayClass .int) (List.mem_of_getElem? (i := 4) rfl)) hK hP hD hS hA (by decide) rfl (Nat.le_of_ble_eq_true rfl) (Nat.le_of_ble_eq_true rfl) (Nat.le_of_ble_eq_true rfl) dX2_init_7 (fun q7 H hP hD hS => ?_)
  have hP : va_P D vwCl ([(o, .inr (2, [.null, .null, .null, .null, .null, .int 0, .int 0])), (q7, .inl (cI, 16, .inl (fun _ => 0)))]) H := hP
  have hD : va_D A ([(o, .inr (2, [.null, .null, .null, .null, .null, .int 0, .int 0])), (q7, .inl (cI, 16, .inl (fun _ => 0)))]) := hD
  refine W.widen (k := 1) (n := 16) (Nat.le_of_ble_eq_true rfl) (Nat.le_of_ble_eq_true rfl) ?_
  refine va_putF (D := D) (ci := 2) (v := .ref q7) (ty := .array .int) (C := RX2) (T := TX2) (N := 7) hx hb hts jX2_init_X2 tyX2 tyX2_ok nmX2 hown hK hP hD hS 0 rfl rfl 0 (by decide) (hts (.fieldLink RX2 9 "BrotherAutomata$RuleBook" "symbols" "[I") (List.mem_of_getElem? (i := 5) rfl)) (fun _ h9 => h9) rfl hin rfl (by decide +kernel) rfl rfl (Nat.le_of_ble_eq_true rfl) dX2_init_9 (fun H locs hP hD hS => ?_)
  have hP : va_P D vwCl ([(o, .inr (2, [.ref q7, .null, .null, .null, .null, .int 0, .int 0])), (q7, .inl (cI, 16, .inl (fun _ => 0)))]) H := hP
  have hD : va_D A ([(o, .inr (2, [.ref q7, .null, .null, .null, .null, .int 0, .int 0])), (q7, .inl (cI, 16, .inl (fun _ => 0)))]) := hD
  refine lv_aload_n hx hb dX2_init_12 rfl (lv_at hl 0 rfl) ?_
  refine lv_bipush (v := 16) hx hb dX2_init_13 (by decide) ?_
  refine xnewa (N' := 16) hx hb (hts (.arrayClass .int) (List.mem_of_getElem? (i := 4) rfl)) hK hP hD hS hA (by decide) rfl (Nat.le_of_ble_eq_true rfl) (Nat.le_of_ble_eq_true rfl) (Nat.le_of_ble_eq_true rfl) dX2_init_15 (fun q15 H hP hD hS => ?_)
  have hP : va_P D vwCl ([(o, .inr (2, [.ref q7, .null, .null, .null, .null, .int 0, .int 0])), (q7, .inl (cI, 16, .inl (fun _ => 0))), (q15, .inl (cI, 16, .inl (fun _ => 0)))]) H := hP
  have hD : va_D A ([(o, .inr (2, [.ref q7, .null, .null, .null, .null, .int 0, .int 0])), (q7, .inl (cI, 16, .inl (fun _ => 0))), (q15, .inl (cI, 16, .inl (fun _ => 0)))]) := hD
  refine W.widen (k := 2) (n := 32) (Nat.le_of_ble_eq_true rfl) (Nat.le_of_ble_eq_true rfl) ?_
  refine va_putF (D := D) (ci := 2) (v := .ref q15) (ty := .array .int) (C := RX2) (T := TX2) (N := 7) hx hb hts jX2_init_X2 tyX2 tyX2_ok nmX2 hown hK hP hD hS 0 rfl rfl 1 (by decide) (hts (.fieldLink RX2 15 "BrotherAutomata$RuleBook" "firsts" "[I") (List.mem_of_getElem? (i := 6) rfl)) (fun _ h9 => h9) rfl hin rfl (by decide +kernel) rfl rfl (Nat.le_of_ble_eq_true rfl) dX2_init_17 (fun H locs hP hD hS => ?_)
  have hP : va_P D vwCl ([(o, .inr (2, [.ref q7, .ref q15, .null, .null, .null, .int 0, .int 0])), (q7, .inl (cI, 16, .inl (fun _ => 0))), (q15, .inl (cI, 16, .inl (fun _ => 0)))]) H := hP
  have hD : va_D A ([(o, .inr (2, [.ref q7, .ref q15, .null, .null, .null, .int 0, .int 0])), (q7, .inl (cI, 16, .inl (fun _ => 0))), (q15, .inl (cI, 16, .inl (fun _ => 0)))]) := hD
  refine lv_aload_n hx hb dX2_init_20 rfl (lv_at hl 0 rfl) ?_
  refine lv_bipush (v := 16) hx hb dX2_init_21 (by decide) ?_
  refine xnewa (N' := 16) hx hb (hts (.arrayClass .int) (List.mem_of_getElem? (i := 4) rfl)) hK hP hD hS hA (by decide) rfl (Nat.le_of_ble_eq_true rfl) (Nat.le_of_ble_eq_true rfl) (Nat.le_of_ble_eq_true rfl) dX2_init_23 (fun q23 H hP hD hS => ?_)
  have hP : va_P D vwCl ([(o, .inr (2, [.ref q7, .ref q15, .null, .null, .null, .int 0, .int 0])), (q7, .inl (cI, 16, .inl (fun _ => 0))), (q15, .inl (cI, 16, .inl (fun _ => 0))), (q23, .inl (cI, 16, .inl (fun _ => 0)))]) H := hP
  have hD : va_D A ([(o, .inr (2, [.ref q7, .ref q15, .null, .null, .null, .int 0, .int 0])), (q7, .inl (cI, 16, .inl (fun _ => 0))), (q15, .inl (cI, 16, .inl (fun _ => 0))), (q23, .inl (cI, 16, .inl (fun _ => 0)))]) := hD
  refine W.widen (k := 3) (n := 48) (Nat.le_of_ble_eq_true rfl) (Nat.le_of_ble_eq_true rfl) ?_
  refine va_putF (D := D) (ci := 2) (v := .ref q23) (ty := .array .int) (C := RX2) (T := TX2) (N := 7) hx hb hts jX2_init_X2 tyX2 tyX2_ok nmX2 hown hK hP hD hS 0 rfl rfl 2 (by decide) (hts (.fieldLink RX2 18 "BrotherAutomata$RuleBook" "seconds" "[I") (List.mem_of_getElem? (i := 7) rfl)) (fun _ h9 => h9) rfl hin rfl (by decide +kernel) rfl rfl (Nat.le_of_ble_eq_true rfl) dX2_init_25 (fun H locs hP hD hS => ?_)
  have hP : va_P D vwCl ([(o, .inr (2, [.ref q7, .ref q15, .ref q23, .null, .null, .int 0, .int 0])), (q7, .inl (cI, 16, .inl (fun _ => 0))), (q15, .inl (cI, 16, .inl (fun _ => 0))), (q23, .inl (cI, 16, .inl (fun _ => 0)))]) H := hP
  have hD : va_D A ([(o, .inr (2, [.ref q7, .ref q15, .ref q23, .null, .null, .int 0, .int 0])), (q7, .inl (cI, 16, .inl (fun _ => 0))), (q15, .inl (cI, 16, .inl (fun _ => 0))), (q23, .inl (cI, 16, .inl (fun _ => 0)))]) := hD
  refine lv_aload_n hx hb dX2_init_28 rfl (lv_at hl 0 rfl) ?_
  refine lv_bipush (v := 16) hx hb dX2_init_29 (by decide) ?_
  refine xnewa (N' := 16) hx hb (hts (.arrayClass .int) (List.mem_of_getElem? (i := 4) rfl)) hK hP hD hS hA (by decide) rfl (Nat.le_of_ble_eq_true rfl) (Nat.le_of_ble_eq_true rfl) (Nat.le_of_ble_eq_true rfl) dX2_init_31 (fun q31 H hP hD hS => ?_)
  have hP : va_P D vwCl ([(o, .inr (2, [.ref q7, .ref q15, .ref q23, .null, .null, .int 0, .int 0])), (q7, .inl (cI, 16, .inl (fun _ => 0))), (q15, .inl (cI, 16, .inl (fun _ => 0))), (q23, .inl (cI, 16, .inl (fun _ => 0))), (q31, .inl (cI, 16, .inl (fun _ => 0)))]) H := hP
  have hD : va_D A ([(o, .inr (2, [.ref q7, .ref q15, .ref q23, .null, .null, .int 0, .int 0])), (q7, .inl (cI, 16, .inl (fun _ => 0))), (q15, .inl (cI, 16, .inl (fun _ => 0))), (q23, .inl (cI, 16, .inl (fun _ => 0))), (q31, .inl (cI, 16, .inl (fun _ => 0)))]) := hD
  refine W.widen (k := 4) (n := 64) (Nat.le_of_ble_eq_true rfl) (Nat.le_of_ble_eq_true rfl) ?_
  refine va_putF (D := D) (ci := 2) (v := .ref q31) (ty := .array .int) (C := RX2) (T := TX2) (N := 7) hx hb hts jX2_init_X2 tyX2 tyX2_ok nmX2 hown hK hP hD hS 0 rfl rfl 3 (by decide) (hts (.fieldLink RX2 21 "BrotherAutomata$RuleBook" "constraints" "[I") (List.mem_of_getElem? (i := 8) rfl)) (fun _ h9 => h9) rfl hin rfl (by decide +kernel) rfl rfl (Nat.le_of_ble_eq_true rfl) dX2_init_33 (fun H locs hP hD hS => ?_)
  have hP : va_P D vwCl ([(o, .inr (2, [.ref q7, .ref q15, .ref q23, .ref q31, .null, .int 0, .int 0])), (q7, .inl (cI, 16, .inl (fun _ => 0))), (q15, .inl (cI, 16, .inl (fun _ => 0))), (q23, .inl (cI, 16, .inl (fun _ => 0))), (q31, .inl (cI, 16, .inl (fun _ => 0)))]) H := hP
  have hD : va_D A ([(o, .inr (2, [.ref q7, .ref q15, .ref q23, .ref q31, .null, .int 0, .int 0])), (q7, .inl (cI, 16, .inl (fun _ => 0))), (q15, .inl (cI, 16, .inl (fun _ => 0))), (q23, .inl (cI, 16, .inl (fun _ => 0))), (q31, .inl (cI, 16, .inl (fun _ => 0)))]) := hD
  refine lv_aload_n hx hb dX2_init_36 rfl (lv_at hl 0 rfl) ?_
  refine lv_bipush (v := 16) hx hb dX2_init_37 (by decide) ?_
  refine xnewa (N' := 16) hx hb (hts (.arrayClass .int) (List.mem_of_getElem? (i := 4) rfl)) hK hP hD hS hA (by decide) rfl (Nat.le_of_ble_eq_true rfl) (Nat.le_of_ble_eq_true rfl) (Nat.le_of_ble_eq_true rfl) dX2_init_39 (fun q39 H hP hD hS => ?_)
  have hP : va_P D vwCl ([(o, .inr (2, [.ref q7, .ref q15, .ref q23, .ref q31, .null, .int 0, .int 0])), (q7, .inl (cI, 16, .inl (fun _ => 0))), (q15, .inl (cI, 16, .inl (fun _ => 0))), (q23, .inl (cI, 16, .inl (fun _ => 0))), (q31, .inl (cI, 16, .inl (fun _ => 0))), (q39, .inl (cI, 16, .inl (fun _ => 0)))]) H := hP
  have hD : va_D A ([(o, .inr (2, [.ref q7, .ref q15, .ref q23, .ref q31, .null, .int 0, .int 0])), (q7, .inl (cI, 16, .inl (fun _ => 0))), (q15, .inl (cI, 16, .inl (fun _ => 0))), (q23, .inl (cI, 16, .inl (fun _ => 0))), (q31, .inl (cI, 16, .inl (fun _ => 0))), (q39, .inl (cI, 16, .inl (fun _ => 0)))]) := hD
  refine W.widen (k := 5) (n := 80) (Nat.le_of_ble_eq_true rfl) (Nat.le_of_ble_eq_true rfl) ?_
  refine va_putF (D := D) (ci := 2) (v := .ref q39) (ty := .array .int) (C := RX2) (T := TX2) (N := 7) hx hb hts jX2_init_X2 tyX2 tyX2_ok nmX2 hown hK hP hD hS 0 rfl rfl 4 (by decide) (hts (.fieldLink RX2 24 "BrotherAutomata$RuleBook" "targets" "[I") (List.mem_of_getElem? (i := 9) rfl)) (fun _ h9 => h9) rfl hin rfl (by decide +kernel) rfl rfl (Nat.le_of_ble_eq_true rfl) dX2_init_41 (fun H locs hP hD hS => ?_)
  have hP : va_P D vwCl ([(o, .inr (2, [.ref q7, .ref q15, .ref q23, .ref q31, .ref q39, .int 0, .int 0])), (q7, .inl (cI, 16, .inl (fun _ => 0))), (q15, .inl (cI, 16, .inl (fun _ => 0))), (q23, .inl (cI, 16, .inl (fun _ => 0))), (q31, .inl (cI, 16, .inl (fun _ => 0))), (q39, .inl (cI, 16, .inl (fun _ => 0)))]) H := hP
  have hD : va_D A ([(o, .inr (2, [.ref q7, .ref q15, .ref q23, .ref q31, .ref q39, .int 0, .int 0])), (q7, .inl (cI, 16, .inl (fun _ => 0))), (q15, .inl (cI, 16, .inl (fun _ => 0))), (q23, .inl (cI, 16, .inl (fun _ => 0))), (q31, .inl (cI, 16, .inl (fun _ => 0))), (q39, .inl (cI, 16, .inl (fun _ => 0)))]) := hD
  refine lv_aload_n hx hb dX2_init_44 rfl (lv_at hl 0 rfl) ?_
  refine lv_iconst (v := 0) hx hb dX2_init_45 (by decide) ?_
  refine va_put (D := D) (ci := 2) (v := .int 0) (ty := .int) (C := RX2) (T := TX2) (N := 7) hx hb hts jX2_init_X2 tyX2 tyX2_ok nmX2 hown hK hP hD hS 0 rfl rfl 5 (by decide) (hts (.fieldLink RX2 27 "BrotherAutomata$RuleBook" "count" "I") (List.mem_of_getElem? (i := 10) rfl)) (fun _ h9 => h9) rfl (by decide +kernel) rfl rfl (Nat.le_of_ble_eq_true rfl) dX2_init_46 (fun H locs hP hD hS => ?_)
  have hP : va_P D vwCl ([(o, .inr (2, [.ref q7, .ref q15, .ref q23, .ref q31, .ref q39, .int 0, .int 0])), (q7, .inl (cI, 16, .inl (fun _ => 0))), (q15, .inl (cI, 16, .inl (fun _ => 0))), (q23, .inl (cI, 16, .inl (fun _ => 0))), (q31, .inl (cI, 16, .inl (fun _ => 0))), (q39, .inl (cI, 16, .inl (fun _ => 0)))]) H := hP
  have hD : va_D A ([(o, .inr (2, [.ref q7, .ref q15, .ref q23, .ref q31, .ref q39, .int 0, .int 0])), (q7, .inl (cI, 16, .inl (fun _ => 0))), (q15, .inl (cI, 16, .inl (fun _ => 0))), (q23, .inl (cI, 16, .inl (fun _ => 0))), (q31, .inl (cI, 16, .inl (fun _ => 0))), (q39, .inl (cI, 16, .inl (fun _ => 0)))]) := hD
  refine lv_aload_n hx hb dX2_init_49 rfl (lv_at hl 0 rfl) ?_
  refine lv_iconst (v := 0) hx hb dX2_init_50 (by decide) ?_
  refine va_put (D := D) (ci := 2) (v := .int 0) (ty := .int) (C := RX2) (T := TX2) (N := 7) hx hb hts jX2_init_X2 tyX2 tyX2_ok nmX2 hown hK hP hD hS 0 rfl rfl 6 (by decide) (hts (.fieldLink RX2 31 "BrotherAutomata$RuleBook" "finals" "I") (List.mem_of_getElem? (i := 11) rfl)) (fun _ h9 => h9) rfl (by decide +kernel) rfl rfl (Nat.le_of_ble_eq_true rfl) dX2_init_51 (fun H locs hP hD hS => ?_)
  have hP : va_P D vwCl ([(o, .inr (2, [.ref q7, .ref q15, .ref q23, .ref q31, .ref q39, .int 0, .int 0])), (q7, .inl (cI, 16, .inl (fun _ => 0))), (q15, .inl (cI, 16, .inl (fun _ => 0))), (q23, .inl (cI, 16, .inl (fun _ => 0))), (q31, .inl (cI, 16, .inl (fun _ => 0))), (q39, .inl (cI, 16, .inl (fun _ => 0)))]) H := hP
  have hD : va_D A ([(o, .inr (2, [.ref q7, .ref q15, .ref q23, .ref q31, .ref q39, .int 0, .int 0])), (q7, .inl (cI, 16, .inl (fun _ => 0))), (q15, .inl (cI, 16, .inl (fun _ => 0))), (q23, .inl (cI, 16, .inl (fun _ => 0))), (q31, .inl (cI, 16, .inl (fun _ => 0))), (q39, .inl (cI, 16, .inl (fun _ => 0)))]) := hD
  exact xvret (w := (fun a : Nat → Nat => wB cI a z0)) (fun j => match j with | 0 => o | 1 => q7 | 2 => q15 | 3 => q23 | 4 => q31 | _ => q39) hx hb hr hlocks rfl hP hK hD hS dX2_init_54
theorem dX3_init_0 : decode cX3_init 0 = .ok (.aload_n 0, 1) := by decide +kernel
theorem dX3_init_1 : decode cX3_init 1 = .ok (.invokespecial 3, 3) := by decide +kernel
theorem dX3_init_4 : decode cX3_init 4 = .ok (.aload_n 0, 1) := by decide +kernel
theorem dX3_init_5 : decode cX3_init 5 = .ok (.iconst 5, 1) := by decide +kernel
theorem dX3_init_6 : decode cX3_init 6 = .ok (.newarray .int, 2) := by decide +kernel
theorem dX3_init_8 : decode cX3_init 8 = .ok (.putfield 9, 3) := by decide +kernel
theorem dX3_init_11 : decode cX3_init 11 = .ok (.aload_n 0, 1) := by decide +kernel
theorem dX3_init_12 : decode cX3_init 12 = .ok (.bipush 64, 2) := by decide +kernel
theorem dX3_init_14 : decode cX3_init 14 = .ok (.newarray .int, 2) := by decide +kernel
theorem dX3_init_16 : decode cX3_init 16 = .ok (.putfield 15, 3) := by decide +kernel
theorem dX3_init_19 : decode cX3_init 19 = .ok (.aload_n 0, 1) := by decide +kernel
theorem dX3_init_20 : decode cX3_init 20 = .ok (.bipush 64, 2) := by decide +kernel
theorem dX3_init_22 : decode cX3_init 22 = .ok (.newarray .int, 2) := by decide +kernel
theorem dX3_init_24 : decode cX3_init 24 = .ok (.putfield 18, 3) := by decide +kernel
theorem dX3_init_27 : decode cX3_init 27 = .ok (.aload_n 0, 1) := by decide +kernel
theorem dX3_init_28 : decode cX3_init 28 = .ok (.bipush 16, 2) := by decide +kernel
theorem dX3_init_30 : decode cX3_init 30 = .ok (.newarray .int, 2) := by decide +kernel
theorem dX3_init_32 : decode cX3_init 32 = .ok (.putfield 21, 3) := by decide +kernel
theorem dX3_init_35 : decode cX3_init 35 = .ok (.aload_n 0, 1) := by decide +kernel
theorem dX3_init_36 : decode cX3_init 36 = .ok (.iconst 0, 1) := by decide +kernel
theorem dX3_init_37 : decode cX3_init 37 = .ok (.putfield 24, 3) := by decide +kernel
theorem dX3_init_40 : decode cX3_init 40 = .ok (.aload_n 0, 1) := by decide +kernel
theorem dX3_init_41 : decode cX3_init 41 = .ok (.iconst 0, 1) := by decide +kernel
theorem dX3_init_42 : decode cX3_init 42 = .ok (.putfield 28, 3) := by decide +kernel
theorem dX3_init_45 : decode cX3_init 45 = .ok (.return_, 1) := by decide +kernel
theorem jX3_init_X3 : ∀ w ∈ wsX30, w ∈ wsX3_init := by decide +kernel
set_option maxRecDepth 100000 in
set_option maxHeartbeats 8000000 in
theorem mX3_init (l : Launch) (D : va_G) (cI cO : ClassId) (tA tS : Nat) (o : Nat) (sz : Nat) : Met l yX3_init wsX3_init ({ frames := 1, cells := 4, slots := 149, locals := 12 } : Room) (xPre D cI cO tA tS [.ref o] [(o, .inr (3, [.null, .null, .null, .null, .int 0, .int 0]))] sz) (va_Qv (fun a : Nat → Nat => a 0 = o) (xB D cI cO (va_A [(o, .inr (3, [.null, .null, .null, .null, .int 0, .int 0]))] sz) (fun a : Nat → Nat => wM cI a z0)) (va_A [(o, .inr (3, [.null, .null, .null, .null, .int 0, .int 0]))] sz)) 4 149 (va_A [(o, .inr (3, [.null, .null, .null, .null, .int 0, .int 0]))] sz) := by
  refine xMet D cI cO tA tS (fun A => va_Qv (fun a : Nat → Nat => a 0 = o) (xB D cI cO A (fun a : Nat → Nat => wM cI a z0)) A) (cc := cX3_init) (maxL := 1) (ret := none) (by decide) rfl (Nat.le_of_ble_eq_true rfl) ?_
  intro p e s m below meth c A ls hx hb hr hts hown hlocks hin hml hA hS hP hK hD hE hl
  have hown : s.vm.findClass RX3 = some m.cls := hown
  have hin : meth.name = "<init>" := hin
  have hl : lv_has ls 1 [(0, .ref o)] := hl
  refine lv_aload_n hx hb dX3_init_0 rfl (lv_at hl 0 rfl) ?_
  refine W.objInit hx hb hown (hts (.methodLink RX3 3 objectInit) (List.mem_of_getElem? (i := 1) rfl)) (hts (.instanceMethod objectInit) (List.mem_of_getElem? (i := 2) rfl)) (hts _ (List.mem_of_getElem? (i := 3) rfl)) rfl (by rw [hml]; exact hl.1) rfl dX3_init_1 (Nat.le_of_ble_eq_true rfl) (Nat.le_of_ble_eq_true rfl) ?_
  refine W.eq (g2 := F0 m 4 ls []) rfl ?_
  refine lv_aload_n hx hb dX3_init_4 rfl (lv_at hl 0 rfl) ?_
  refine lv_iconst (v := 5) hx hb dX3_init_5 (by decide) ?_
  refine xnewa (N' := 5) hx hb (hts (.arrayClass .int) (List.mem_of_getElem? (i := 4) rfl)) hK hP hD hS hA (by decide) rfl (Nat.le_of_ble_eq_true rfl) (Nat.le_of_ble_eq_true rfl) (Nat.le_of_ble_eq_true rfl) dX3_init_6 (fun q6 H hP hD hS => ?_)
  have hP : va_P D vwCl ([(o, .inr (3, [.null, .null, .null, .null, .int 0, .int 0])), (q6, .inl (cI, 5, .inl (fun _ => 0)))]) H := hP
  have hD : va_D A ([(o, .inr (3, [.null, .null, .null, .null, .int 0, .int 0])), (q6, .inl (cI, 5, .inl (fun _ => 0)))]) := hD
  refine W.widen (k := 1) (n := 5) (Nat.le_of_ble_eq_true rfl) (Nat.le_of_ble_eq_true rfl) ?_
  refine va_putF (D := D) (ci := 3) (v := .ref q6) (ty := .array .int) (C := RX3) (T := TX3) (N := 6) hx hb hts jX3_init_X3 tyX3 tyX3_ok nmX3 hown hK hP hD hS 0 rfl rfl 0 (by decide) (hts (.fieldLink RX3 9 "BrotherAutomata$RuleMasks" "bySymbol" "[I") (List.mem_of_getElem? (i := 5) rfl)) (fun _ h9 => h9) rfl hin rfl (by decide +kernel) rfl rfl (Nat.le_of_ble_eq_true rfl) dX3_init_8 (fun H locs hP hD hS => ?_)
  have hP : va_P D vwCl ([(o, .inr (3, [.ref q6, .null, .null, .null, .int 0, .int 0])), (q6, .inl (cI, 5, .inl (fun _ => 0)))]) H := hP
  have hD : va_D A ([(o, .inr (3, [.ref q6, .null, .null, .null, .int 0, .int 0])), (q6, .inl (cI, 5, .inl (fun _ => 0)))]) := hD
  refine lv_aload_n hx hb dX3_init_11 rfl (lv_at hl 0 rfl) ?_
  refine lv_bipush (v := 64) hx hb dX3_init_12 (by decide) ?_
  refine xnewa (N' := 64) hx hb (hts (.arrayClass .int) (List.mem_of_getElem? (i := 4) rfl)) hK hP hD hS hA (by decide) rfl (Nat.le_of_ble_eq_true rfl) (Nat.le_of_ble_eq_true rfl) (Nat.le_of_ble_eq_true rfl) dX3_init_14 (fun q14 H hP hD hS => ?_)
  have hP : va_P D vwCl ([(o, .inr (3, [.ref q6, .null, .null, .null, .int 0, .int 0])), (q6, .inl (cI, 5, .inl (fun _ => 0))), (q14, .inl (cI, 64, .inl (fun _ => 0)))]) H := hP
  have hD : va_D A ([(o, .inr (3, [.ref q6, .null, .null, .null, .int 0, .int 0])), (q6, .inl (cI, 5, .inl (fun _ => 0))), (q14, .inl (cI, 64, .inl (fun _ => 0)))]) := hD
  refine W.widen (k := 2) (n := 69) (Nat.le_of_ble_eq_true rfl) (Nat.le_of_ble_eq_true rfl) ?_
  refine va_putF (D := D) (ci := 3) (v := .ref q14) (ty := .array .int) (C := RX3) (T := TX3) (N := 6) hx hb hts jX3_init_X3 tyX3 tyX3_ok nmX3 hown hK hP hD hS 0 rfl rfl 1 (by decide) (hts (.fieldLink RX3 15 "BrotherAutomata$RuleMasks" "byFirst" "[I") (List.mem_of_getElem? (i := 6) rfl)) (fun _ h9 => h9) rfl hin rfl (by decide +kernel) rfl rfl (Nat.le_of_ble_eq_true rfl) dX3_init_16 (fun H locs hP hD hS => ?_)
  have hP : va_P D vwCl ([(o, .inr (3, [.ref q6, .ref q14, .null, .null, .int 0, .int 0])), (q6, .inl (cI, 5, .inl (fun _ => 0))), (q14, .inl (cI, 64, .inl (fun _ => 0)))]) H := hP
  have hD : va_D A ([(o, .inr (3, [.ref q6, .ref q14, .null, .null, .int 0, .int 0])), (q6, .inl (cI, 5, .inl (fun _ => 0))), (q14, .inl (cI, 64, .inl (fun _ => 0)))]) := hD
  refine lv_aload_n hx hb dX3_init_19 rfl (lv_at hl 0 rfl) ?_
  refine lv_bipush (v := 64) hx hb dX3_init_20 (by decide) ?_
  refine xnewa (N' := 64) hx hb (hts (.arrayClass .int) (List.mem_of_getElem? (i := 4) rfl)) hK hP hD hS hA (by decide) rfl (Nat.le_of_ble_eq_true rfl) (Nat.le_of_ble_eq_true rfl) (Nat.le_of_ble_eq_true rfl) dX3_init_22 (fun q22 H hP hD hS => ?_)
  have hP : va_P D vwCl ([(o, .inr (3, [.ref q6, .ref q14, .null, .null, .int 0, .int 0])), (q6, .inl (cI, 5, .inl (fun _ => 0))), (q14, .inl (cI, 64, .inl (fun _ => 0))), (q22, .inl (cI, 64, .inl (fun _ => 0)))]) H := hP
  have hD : va_D A ([(o, .inr (3, [.ref q6, .ref q14, .null, .null, .int 0, .int 0])), (q6, .inl (cI, 5, .inl (fun _ => 0))), (q14, .inl (cI, 64, .inl (fun _ => 0))), (q22, .inl (cI, 64, .inl (fun _ => 0)))]) := hD
  refine W.widen (k := 3) (n := 133) (Nat.le_of_ble_eq_true rfl) (Nat.le_of_ble_eq_true rfl) ?_
  refine va_putF (D := D) (ci := 3) (v := .ref q22) (ty := .array .int) (C := RX3) (T := TX3) (N := 6) hx hb hts jX3_init_X3 tyX3 tyX3_ok nmX3 hown hK hP hD hS 0 rfl rfl 2 (by decide) (hts (.fieldLink RX3 18 "BrotherAutomata$RuleMasks" "bySecond" "[I") (List.mem_of_getElem? (i := 7) rfl)) (fun _ h9 => h9) rfl hin rfl (by decide +kernel) rfl rfl (Nat.le_of_ble_eq_true rfl) dX3_init_24 (fun H locs hP hD hS => ?_)
  have hP : va_P D vwCl ([(o, .inr (3, [.ref q6, .ref q14, .ref q22, .null, .int 0, .int 0])), (q6, .inl (cI, 5, .inl (fun _ => 0))), (q14, .inl (cI, 64, .inl (fun _ => 0))), (q22, .inl (cI, 64, .inl (fun _ => 0)))]) H := hP
  have hD : va_D A ([(o, .inr (3, [.ref q6, .ref q14, .ref q22, .null, .int 0, .int 0])), (q6, .inl (cI, 5, .inl (fun _ => 0))), (q14, .inl (cI, 64, .inl (fun _ => 0))), (q22, .inl (cI, 64, .inl (fun _ => 0)))]) := hD
  refine lv_aload_n hx hb dX3_init_27 rfl (lv_at hl 0 rfl) ?_
  refine lv_bipush (v := 16) hx hb dX3_init_28 (by decide) ?_
  refine xnewa (N' := 16) hx hb (hts (.arrayClass .int) (List.mem_of_getElem? (i := 4) rfl)) hK hP hD hS hA (by decide) rfl (Nat.le_of_ble_eq_true rfl) (Nat.le_of_ble_eq_true rfl) (Nat.le_of_ble_eq_true rfl) dX3_init_30 (fun q30 H hP hD hS => ?_)
  have hP : va_P D vwCl ([(o, .inr (3, [.ref q6, .ref q14, .ref q22, .null, .int 0, .int 0])), (q6, .inl (cI, 5, .inl (fun _ => 0))), (q14, .inl (cI, 64, .inl (fun _ => 0))), (q22, .inl (cI, 64, .inl (fun _ => 0))), (q30, .inl (cI, 16, .inl (fun _ => 0)))]) H := hP
  have hD : va_D A ([(o, .inr (3, [.ref q6, .ref q14, .ref q22, .null, .int 0, .int 0])), (q6, .inl (cI, 5, .inl (fun _ => 0))), (q14, .inl (cI, 64, .inl (fun _ => 0))), (q22, .inl (cI, 64, .inl (fun _ => 0))), (q30, .inl (cI, 16, .inl (fun _ => 0)))]) := hD
  refine W.widen (k := 4) (n := 149) (Nat.le_of_ble_eq_true rfl) (Nat.le_of_ble_eq_true rfl) ?_
  refine va_putF (D := D) (ci := 3) (v := .ref q30) (ty := .array .int) (C := RX3) (T := TX3) (N := 6) hx hb hts jX3_init_X3 tyX3 tyX3_ok nmX3 hown hK hP hD hS 0 rfl rfl 3 (by decide) (hts (.fieldLink RX3 21 "BrotherAutomata$RuleMasks" "targetSets" "[I") (List.mem_of_getElem? (i := 8) rfl)) (fun _ h9 => h9) rfl hin rfl (by decide +kernel) rfl rfl (Nat.le_of_ble_eq_true rfl) dX3_init_32 (fun H locs hP hD hS => ?_)
  have hP : va_P D vwCl ([(o, .inr (3, [.ref q6, .ref q14, .ref q22, .ref q30, .int 0, .int 0])), (q6, .inl (cI, 5, .inl (fun _ => 0))), (q14, .inl (cI, 64, .inl (fun _ => 0))), (q22, .inl (cI, 64, .inl (fun _ => 0))), (q30, .inl (cI, 16, .inl (fun _ => 0)))]) H := hP
  have hD : va_D A ([(o, .inr (3, [.ref q6, .ref q14, .ref q22, .ref q30, .int 0, .int 0])), (q6, .inl (cI, 5, .inl (fun _ => 0))), (q14, .inl (cI, 64, .inl (fun _ => 0))), (q22, .inl (cI, 64, .inl (fun _ => 0))), (q30, .inl (cI, 16, .inl (fun _ => 0)))]) := hD
  refine lv_aload_n hx hb dX3_init_35 rfl (lv_at hl 0 rfl) ?_
  refine lv_iconst (v := 0) hx hb dX3_init_36 (by decide) ?_
  refine va_put (D := D) (ci := 3) (v := .int 0) (ty := .int) (C := RX3) (T := TX3) (N := 6) hx hb hts jX3_init_X3 tyX3 tyX3_ok nmX3 hown hK hP hD hS 0 rfl rfl 4 (by decide) (hts (.fieldLink RX3 24 "BrotherAutomata$RuleMasks" "whenEqual" "I") (List.mem_of_getElem? (i := 9) rfl)) (fun _ h9 => h9) rfl (by decide +kernel) rfl rfl (Nat.le_of_ble_eq_true rfl) dX3_init_37 (fun H locs hP hD hS => ?_)
  have hP : va_P D vwCl ([(o, .inr (3, [.ref q6, .ref q14, .ref q22, .ref q30, .int 0, .int 0])), (q6, .inl (cI, 5, .inl (fun _ => 0))), (q14, .inl (cI, 64, .inl (fun _ => 0))), (q22, .inl (cI, 64, .inl (fun _ => 0))), (q30, .inl (cI, 16, .inl (fun _ => 0)))]) H := hP
  have hD : va_D A ([(o, .inr (3, [.ref q6, .ref q14, .ref q22, .ref q30, .int 0, .int 0])), (q6, .inl (cI, 5, .inl (fun _ => 0))), (q14, .inl (cI, 64, .inl (fun _ => 0))), (q22, .inl (cI, 64, .inl (fun _ => 0))), (q30, .inl (cI, 16, .inl (fun _ => 0)))]) := hD
  refine lv_aload_n hx hb dX3_init_40 rfl (lv_at hl 0 rfl) ?_
  refine lv_iconst (v := 0) hx hb dX3_init_41 (by decide) ?_
  refine va_put (D := D) (ci := 3) (v := .int 0) (ty := .int) (C := RX3) (T := TX3) (N := 6) hx hb hts jX3_init_X3 tyX3 tyX3_ok nmX3 hown hK hP hD hS 0 rfl rfl 5 (by decide) (hts (.fieldLink RX3 28 "BrotherAutomata$RuleMasks" "whenDifferent" "I") (List.mem_of_getElem? (i := 10) rfl)) (fun _ h9 => h9) rfl (by decide +kernel) rfl rfl (Nat.le_of_ble_eq_true rfl) dX3_init_42 (fun H locs hP hD hS => ?_)
  have hP : va_P D vwCl ([(o, .inr (3, [.ref q6, .ref q14, .ref q22, .ref q30, .int 0, .int 0])), (q6, .inl (cI, 5, .inl (fun _ => 0))), (q14, .inl (cI, 64, .inl (fun _ => 0))), (q22, .inl (cI, 64, .inl (fun _ => 0))), (q30, .inl (cI, 16, .inl (fun _ => 0)))]) H := hP
  have hD : va_D A ([(o, .inr (3, [.ref q6, .ref q14, .ref q22, .ref q30, .int 0, .int 0])), (q6, .inl (cI, 5, .inl (fun _ => 0))), (q14, .inl (cI, 64, .inl (fun _ => 0))), (q22, .inl (cI, 64, .inl (fun _ => 0))), (q30, .inl (cI, 16, .inl (fun _ => 0)))]) := hD
  exact xvret (w := (fun a : Nat → Nat => wM cI a z0)) (fun j => match j with | 0 => o | 1 => q6 | 2 => q14 | 3 => q22 | _ => q30) hx hb hr hlocks rfl hP hK hD hS dX3_init_45
theorem dX4_init_0 : decode cX4_init 0 = .ok (.aload_n 0, 1) := by decide +kernel
theorem dX4_init_1 : decode cX4_init 1 = .ok (.invokespecial 3, 3) := by decide +kernel
theorem dX4_init_4 : decode cX4_init 4 = .ok (.aload_n 0, 1) := by decide +kernel
theorem dX4_init_5 : decode cX4_init 5 = .ok (.bipush 7, 2) := by decide +kernel
theorem dX4_init_7 : decode cX4_init 7 = .ok (.newarray .int, 2) := by decide +kernel
theorem dX4_init_9 : decode cX4_init 9 = .ok (.putfield 9, 3) := by decide +kernel
theorem dX4_init_12 : decode cX4_init 12 = .ok (.aload_n 0, 1) := by decide +kernel
theorem dX4_init_13 : decode cX4_init 13 = .ok (.bipush 7, 2) := by decide +kernel
theorem dX4_init_15 : decode cX4_init 15 = .ok (.newarray .int, 2) := by decide +kernel
theorem dX4_init_17 : decode cX4_init 17 = .ok (.putfield 15, 3) := by decide +kernel
theorem dX4_init_20 : decode cX4_init 20 = .ok (.aload_n 0, 1) := by decide +kernel
theorem dX4_init_21 : decode cX4_init 21 = .ok (.bipush 42, 2) := by decide +kernel
theorem dX4_init_23 : decode cX4_init 23 = .ok (.newarray .int, 2) := by decide +kernel
theorem dX4_init_25 : decode cX4_init 25 = .ok (.putfield 18, 3) := by decide +kernel
theorem dX4_init_28 : decode cX4_init 28 = .ok (.return_, 1) := by decide +kernel
theorem jX4_init_X4 : ∀ w ∈ wsX40, w ∈ wsX4_init := by decide +kernel
set_option maxRecDepth 100000 in
set_option maxHeartbeats 8000000 in
theorem mX4_init (l : Launch) (D : va_G) (cI cO : ClassId) (tA tS : Nat) (o : Nat) (sz : Nat) : Met l yX4_init wsX4_init ({ frames := 1, cells := 3, slots := 56, locals := 12 } : Room) (xPre D cI cO tA tS [.ref o] [(o, .inr (4, [.null, .null, .null]))] sz) (va_Qv (fun a : Nat → Nat => a 0 = o) (xB D cI cO (va_A [(o, .inr (4, [.null, .null, .null]))] sz) (fun a : Nat → Nat => wC cI a z0)) (va_A [(o, .inr (4, [.null, .null, .null]))] sz)) 3 56 (va_A [(o, .inr (4, [.null, .null, .null]))] sz) := by
  refine xMet D cI cO tA tS (fun A => va_Qv (fun a : Nat → Nat => a 0 = o) (xB D cI cO A (fun a : Nat → Nat => wC cI a z0)) A) (cc := cX4_init) (maxL := 1) (ret := none) (by decide) rfl (Nat.le_of_ble_eq_true rfl) ?_
  intro p e s m below meth c A ls hx hb hr hts hown hlocks hin hml hA hS hP hK hD hE hl
  have hown : s.vm.findClass RX4 = some m.cls := hown
  have hin : meth.name = "<init>" := hin
  have hl : lv_has ls 1 [(0, .ref o)] := hl
  refine lv_aload_n hx hb dX4_init_0 rfl (lv_at hl 0 rfl) ?_
  refine W.objInit hx hb hown (hts (.methodLink RX4 3 objectInit) (List.mem_of_getElem? (i := 1) rfl)) (hts (.instanceMethod objectInit) (List.mem_of_getElem? (i := 2) rfl)) (hts _ (List.mem_of_getElem? (i := 3) rfl)) rfl (by rw [hml]; exact hl.1) rfl dX4_init_1 (Nat.le_of_ble_eq_true rfl) (Nat.le_of_ble_eq_true rfl) ?_
  refine W.eq (g2 := F0 m 4 ls []) rfl ?_
  refine lv_aload_n hx hb dX4_init_4 rfl (lv_at hl 0 rfl) ?_
  refine lv_bipush (v := 7) hx hb dX4_init_5 (by decide) ?_
  refine xnewa (N' := 7) hx hb (hts (.arrayClass .int) (List.mem_of_getElem? (i := 4) rfl)) hK hP hD hS hA (by decide) rfl (Nat.le_of_ble_eq_true rfl) (Nat.le_of_ble_eq_true rfl) (Nat.le_of_ble_eq_true rfl) dX4_init_7 (fun q7 H hP hD hS => ?_)
  have hP : va_P D vwCl ([(o, .inr (4, [.null, .null, .null])), (q7, .inl (cI, 7, .inl (fun _ => 0)))]) H := hP
  have hD : va_D A ([(o, .inr (4, [.null, .null, .null])), (q7, .inl (cI, 7, .inl (fun _ => 0)))]) := hD
  refine W.widen (k := 1) (n := 7) (Nat.le_of_ble_eq_true rfl) (Nat.le_of_ble_eq_true rfl) ?_
  refine va_putF (D := D) (ci := 4) (v := .ref q7) (ty := .array .int) (C := RX4) (T := TX4) (N := 3) hx hb hts jX4_init_X4 tyX4 tyX4_ok nmX4 hown hK hP hD hS 0 rfl rfl 0 (by decide) (hts (.fieldLink RX4 9 "BrotherAutomata$RunCounter" "nodes" "[I") (List.mem_of_getElem? (i := 5) rfl)) (fun _ h9 => h9) rfl hin rfl (by decide +kernel) rfl rfl (Nat.le_of_ble_eq_true rfl) dX4_init_9 (fun H locs hP hD hS => ?_)
  have hP : va_P D vwCl ([(o, .inr (4, [.ref q7, .null, .null])), (q7, .inl (cI, 7, .inl (fun _ => 0)))]) H := hP
  have hD : va_D A ([(o, .inr (4, [.ref q7, .null, .null])), (q7, .inl (cI, 7, .inl (fun _ => 0)))]) := hD
  refine lv_aload_n hx hb dX4_init_12 rfl (lv_at hl 0 rfl) ?_
  refine lv_bipush (v := 7) hx hb dX4_init_13 (by decide) ?_
  refine xnewa (N' := 7) hx hb (hts (.arrayClass .int) (List.mem_of_getElem? (i := 4) rfl)) hK hP hD hS hA (by decide) rfl (Nat.le_of_ble_eq_true rfl) (Nat.le_of_ble_eq_true rfl) (Nat.le_of_ble_eq_true rfl) dX4_init_15 (fun q15 H hP hD hS => ?_)
  have hP : va_P D vwCl ([(o, .inr (4, [.ref q7, .null, .null])), (q7, .inl (cI, 7, .inl (fun _ => 0))), (q15, .inl (cI, 7, .inl (fun _ => 0)))]) H := hP
  have hD : va_D A ([(o, .inr (4, [.ref q7, .null, .null])), (q7, .inl (cI, 7, .inl (fun _ => 0))), (q15, .inl (cI, 7, .inl (fun _ => 0)))]) := hD
  refine W.widen (k := 2) (n := 14) (Nat.le_of_ble_eq_true rfl) (Nat.le_of_ble_eq_true rfl) ?_
  refine va_putF (D := D) (ci := 4) (v := .ref q15) (ty := .array .int) (C := RX4) (T := TX4) (N := 3) hx hb hts jX4_init_X4 tyX4 tyX4_ok nmX4 hown hK hP hD hS 0 rfl rfl 1 (by decide) (hts (.fieldLink RX4 15 "BrotherAutomata$RunCounter" "firstPlaces" "[I") (List.mem_of_getElem? (i := 6) rfl)) (fun _ h9 => h9) rfl hin rfl (by decide +kernel) rfl rfl (Nat.le_of_ble_eq_true rfl) dX4_init_17 (fun H locs hP hD hS => ?_)
  have hP : va_P D vwCl ([(o, .inr (4, [.ref q7, .ref q15, .null])), (q7, .inl (cI, 7, .inl (fun _ => 0))), (q15, .inl (cI, 7, .inl (fun _ => 0)))]) H := hP
  have hD : va_D A ([(o, .inr (4, [.ref q7, .ref q15, .null])), (q7, .inl (cI, 7, .inl (fun _ => 0))), (q15, .inl (cI, 7, .inl (fun _ => 0)))]) := hD
  refine lv_aload_n hx hb dX4_init_20 rfl (lv_at hl 0 rfl) ?_
  refine lv_bipush (v := 42) hx hb dX4_init_21 (by decide) ?_
  refine xnewa (N' := 42) hx hb (hts (.arrayClass .int) (List.mem_of_getElem? (i := 4) rfl)) hK hP hD hS hA (by decide) rfl (Nat.le_of_ble_eq_true rfl) (Nat.le_of_ble_eq_true rfl) (Nat.le_of_ble_eq_true rfl) dX4_init_23 (fun q23 H hP hD hS => ?_)
  have hP : va_P D vwCl ([(o, .inr (4, [.ref q7, .ref q15, .null])), (q7, .inl (cI, 7, .inl (fun _ => 0))), (q15, .inl (cI, 7, .inl (fun _ => 0))), (q23, .inl (cI, 42, .inl (fun _ => 0)))]) H := hP
  have hD : va_D A ([(o, .inr (4, [.ref q7, .ref q15, .null])), (q7, .inl (cI, 7, .inl (fun _ => 0))), (q15, .inl (cI, 7, .inl (fun _ => 0))), (q23, .inl (cI, 42, .inl (fun _ => 0)))]) := hD
  refine W.widen (k := 3) (n := 56) (Nat.le_of_ble_eq_true rfl) (Nat.le_of_ble_eq_true rfl) ?_
  refine va_putF (D := D) (ci := 4) (v := .ref q23) (ty := .array .int) (C := RX4) (T := TX4) (N := 3) hx hb hts jX4_init_X4 tyX4 tyX4_ok nmX4 hown hK hP hD hS 0 rfl rfl 2 (by decide) (hts (.fieldLink RX4 18 "BrotherAutomata$RunCounter" "runs" "[I") (List.mem_of_getElem? (i := 7) rfl)) (fun _ h9 => h9) rfl hin rfl (by decide +kernel) rfl rfl (Nat.le_of_ble_eq_true rfl) dX4_init_25 (fun H locs hP hD hS => ?_)
  have hP : va_P D vwCl ([(o, .inr (4, [.ref q7, .ref q15, .ref q23])), (q7, .inl (cI, 7, .inl (fun _ => 0))), (q15, .inl (cI, 7, .inl (fun _ => 0))), (q23, .inl (cI, 42, .inl (fun _ => 0)))]) H := hP
  have hD : va_D A ([(o, .inr (4, [.ref q7, .ref q15, .ref q23])), (q7, .inl (cI, 7, .inl (fun _ => 0))), (q15, .inl (cI, 7, .inl (fun _ => 0))), (q23, .inl (cI, 42, .inl (fun _ => 0)))]) := hD
  exact xvret (w := (fun a : Nat → Nat => wC cI a z0)) (fun j => match j with | 0 => o | 1 => q7 | 2 => q15 | _ => q23) hx hb hr hlocks rfl hP hK hD hS dX4_init_28
