theorem dX7_lays_0 : decode cX7_lays 0 = .ok (.aload_n 0, 1) := by decide +kernel
theorem dX7_lays_1 : decode cX7_lays 1 = .ok (.getfield 7, 3) := by decide +kernel
theorem dX7_lays_4 : decode cX7_lays 4 = .ok (.aload_n 0, 1) := by decide +kernel
theorem dX7_lays_5 : decode cX7_lays 5 = .ok (.getfield 47, 3) := by decide +kernel
theorem dX7_lays_8 : decode cX7_lays 8 = .ok (.iload_n 1, 1) := by decide +kernel
theorem dX7_lays_9 : decode cX7_lays 9 = .ok (.iastore, 1) := by decide +kernel
theorem dX7_lays_10 : decode cX7_lays 10 = .ok (.aload_n 0, 1) := by decide +kernel
theorem dX7_lays_11 : decode cX7_lays 11 = .ok (.getfield 13, 3) := by decide +kernel
theorem dX7_lays_14 : decode cX7_lays 14 = .ok (.aload_n 0, 1) := by decide +kernel
theorem dX7_lays_15 : decode cX7_lays 15 = .ok (.getfield 47, 3) := by decide +kernel
theorem dX7_lays_18 : decode cX7_lays 18 = .ok (.iload_n 2, 1) := by decide +kernel
theorem dX7_lays_19 : decode cX7_lays 19 = .ok (.iastore, 1) := by decide +kernel
theorem dX7_lays_20 : decode cX7_lays 20 = .ok (.aload_n 0, 1) := by decide +kernel
theorem dX7_lays_21 : decode cX7_lays 21 = .ok (.getfield 16, 3) := by decide +kernel
theorem dX7_lays_24 : decode cX7_lays 24 = .ok (.aload_n 0, 1) := by decide +kernel
theorem dX7_lays_25 : decode cX7_lays 25 = .ok (.getfield 47, 3) := by decide +kernel
theorem dX7_lays_28 : decode cX7_lays 28 = .ok (.iload_n 3, 1) := by decide +kernel
theorem dX7_lays_29 : decode cX7_lays 29 = .ok (.iastore, 1) := by decide +kernel
theorem dX7_lays_30 : decode cX7_lays 30 = .ok (.aload_n 0, 1) := by decide +kernel
theorem dX7_lays_31 : decode cX7_lays 31 = .ok (.getfield 19, 3) := by decide +kernel
theorem dX7_lays_34 : decode cX7_lays 34 = .ok (.aload_n 0, 1) := by decide +kernel
theorem dX7_lays_35 : decode cX7_lays 35 = .ok (.getfield 47, 3) := by decide +kernel
theorem dX7_lays_38 : decode cX7_lays 38 = .ok (.iload 4, 2) := by decide +kernel
theorem dX7_lays_40 : decode cX7_lays 40 = .ok (.iastore, 1) := by decide +kernel
theorem dX7_lays_41 : decode cX7_lays 41 = .ok (.aload_n 0, 1) := by decide +kernel
theorem dX7_lays_42 : decode cX7_lays 42 = .ok (.getfield 22, 3) := by decide +kernel
theorem dX7_lays_45 : decode cX7_lays 45 = .ok (.aload_n 0, 1) := by decide +kernel
theorem dX7_lays_46 : decode cX7_lays 46 = .ok (.getfield 47, 3) := by decide +kernel
theorem dX7_lays_49 : decode cX7_lays 49 = .ok (.iload 5, 2) := by decide +kernel
theorem dX7_lays_51 : decode cX7_lays 51 = .ok (.iastore, 1) := by decide +kernel
theorem dX7_lays_52 : decode cX7_lays 52 = .ok (.aload_n 0, 1) := by decide +kernel
theorem dX7_lays_53 : decode cX7_lays 53 = .ok (.dup, 1) := by decide +kernel
theorem dX7_lays_54 : decode cX7_lays 54 = .ok (.getfield 47, 3) := by decide +kernel
theorem dX7_lays_57 : decode cX7_lays 57 = .ok (.iconst 1, 1) := by decide +kernel
theorem dX7_lays_58 : decode cX7_lays 58 = .ok (.iadd, 1) := by decide +kernel
theorem dX7_lays_59 : decode cX7_lays 59 = .ok (.putfield 47, 3) := by decide +kernel
theorem dX7_lays_62 : decode cX7_lays 62 = .ok (.return_, 1) := by decide +kernel
theorem jX7_lays_X7 : ∀ w ∈ wsX70, w ∈ wsX7_lays := by decide +kernel
abbrev w_X7_lays (cI cO : ClassId) (aN : Nat → Nat)  : ((CS)) → va_W := fun u => (wN cI aN u)
set_option maxRecDepth 100000 in
set_option maxHeartbeats 8000000 in
theorem mX7_lays (l : Launch) (D : va_G) (cI cO : ClassId) (tA tS : Nat) (aN : Nat → Nat) (zN : CS) (x1 : Int32) (x2 : Int32) (x3 : Int32) (x4 : Int32) (x5 : Int32) (sz : Nat) {post : ((CS)) → Prop} (h : qX7_lays post x1 x2 x3 x4 x5 zN) : Met l yX7_lays wsX7_lays ({ frames := 0, cells := 0, slots := 0, locals := 0 } : Room) (xPre D cI cO tA tS [.ref (aN 0), .int x1, .int x2, .int x3, .int x4, .int x5] (wN cI aN zN) sz) (va_Qv post (xB D cI cO (va_A (wN cI aN zN) sz) (w_X7_lays cI cO aN)) (va_A (wN cI aN zN) sz)) 0 0 (va_A (wN cI aN zN) sz) := by
  refine xMet D cI cO tA tS (fun A => va_Qv post (xB D cI cO A (w_X7_lays cI cO aN)) A) (cc := cX7_lays) (maxL := 6) (ret := none) (by decide) rfl (Nat.le_of_ble_eq_true rfl) ?_
  intro p e s m below meth c A ls hx hb hr hts hown hlocks hin hml hA hS hP hK hD hE hl
  have hown : s.vm.findClass RX7 = some m.cls := hown
  have hl : lv_has ls 6 [(0, .ref (aN 0)), (1, .int x1), (2, .int x2), (3, .int x3), (4, .int x4), (5, .int x5)] := hl
  refine lv_aload_n hx hb dX7_lays_0 rfl (lv_at hl 0 rfl) ?_
  refine va_get (D := D) (ci := 7) (v := .ref (aN 1)) (C := RX7) (T := TX7) (N := 14) hx hb hts jX7_lays_X7 hown hK hP 0 rfl rfl 1 (by decide) (hts (.fieldLink RX7 7 "BrotherAutomataModel" "symbol" "[I") (List.mem_of_getElem? (i := 1) rfl)) (fun _ h9 => h9) rfl dX7_lays_1 ?_
  refine lv_aload_n hx hb dX7_lays_4 rfl (lv_at hl 0 rfl) ?_
  refine va_get (D := D) (ci := 7) (v := .int (zN 11 0)) (C := RX7) (T := TX7) (N := 14) hx hb hts jX7_lays_X7 hown hK hP 0 rfl rfl 0 (by decide) (hts (.fieldLink RX7 47 "BrotherAutomataModel" "trees" "I") (List.mem_of_getElem? (i := 2) rfl)) (fun _ h9 => h9) rfl dX7_lays_5 ?_
  refine lv_iload_n hx hb dX7_lays_8 rfl (lv_at hl 1 rfl) ?_
  obtain ⟨hi, h⟩ := h
  refine va_iast hx hb hK hP hD hS 1 0 rfl rfl hi dX7_lays_9 (fun H locs hP hD hS => ?_)
  have hP : va_P D vwCl (wN cI aN (st zN 0 (zN 11 0).toNatClampNeg x1)) H := hP
  have hD : va_D A (wN cI aN (st zN 0 (zN 11 0).toNatClampNeg x1)) := hD
  refine lv_aload_n hx hb dX7_lays_10 rfl (lv_at hl 0 rfl) ?_
  refine va_get (D := D) (ci := 7) (v := .ref (aN 2)) (C := RX7) (T := TX7) (N := 14) hx hb hts jX7_lays_X7 hown hK hP 0 rfl rfl 2 (by decide) (hts (.fieldLink RX7 13 "BrotherAutomataModel" "first" "[I") (List.mem_of_getElem? (i := 3) rfl)) (fun _ h9 => h9) rfl dX7_lays_11 ?_
  refine lv_aload_n hx hb dX7_lays_14 rfl (lv_at hl 0 rfl) ?_
  refine va_get (D := D) (ci := 7) (v := .int ((st zN 0 (zN 11 0).toNatClampNeg x1) 11 0)) (C := RX7) (T := TX7) (N := 14) hx hb hts jX7_lays_X7 hown hK hP 0 rfl rfl 0 (by decide) (hts (.fieldLink RX7 47 "BrotherAutomataModel" "trees" "I") (List.mem_of_getElem? (i := 2) rfl)) (fun _ h9 => h9) rfl dX7_lays_15 ?_
  refine lv_iload_n hx hb dX7_lays_18 rfl (lv_at hl 2 rfl) ?_
  obtain ⟨hi, h⟩ := h
  refine va_iast hx hb hK hP hD hS 2 0 rfl rfl hi dX7_lays_19 (fun H locs hP hD hS => ?_)
  have hP : va_P D vwCl (wN cI aN (st (st zN 0 (zN 11 0).toNatClampNeg x1) 1 ((st zN 0 (zN 11 0).toNatClampNeg x1) 11 0).toNatClampNeg x2)) H := hP
  have hD : va_D A (wN cI aN (st (st zN 0 (zN 11 0).toNatClampNeg x1) 1 ((st zN 0 (zN 11 0).toNatClampNeg x1) 11 0).toNatClampNeg x2)) := hD
  refine lv_aload_n hx hb dX7_lays_20 rfl (lv_at hl 0 rfl) ?_
  refine va_get (D := D) (ci := 7) (v := .ref (aN 3)) (C := RX7) (T := TX7) (N := 14) hx hb hts jX7_lays_X7 hown hK hP 0 rfl rfl 3 (by decide) (hts (.fieldLink RX7 16 "BrotherAutomataModel" "second" "[I") (List.mem_of_getElem? (i := 4) rfl)) (fun _ h9 => h9) rfl dX7_lays_21 ?_
  refine lv_aload_n hx hb dX7_lays_24 rfl (lv_at hl 0 rfl) ?_
  refine va_get (D := D) (ci := 7) (v := .int ((st (st zN 0 (zN 11 0).toNatClampNeg x1) 1 ((st zN 0 (zN 11 0).toNatClampNeg x1) 11 0).toNatClampNeg x2) 11 0)) (C := RX7) (T := TX7) (N := 14) hx hb hts jX7_lays_X7 hown hK hP 0 rfl rfl 0 (by decide) (hts (.fieldLink RX7 47 "BrotherAutomataModel" "trees" "I") (List.mem_of_getElem? (i := 2) rfl)) (fun _ h9 => h9) rfl dX7_lays_25 ?_
  refine lv_iload_n hx hb dX7_lays_28 rfl (lv_at hl 3 rfl) ?_
  obtain ⟨hi, h⟩ := h
  refine va_iast hx hb hK hP hD hS 3 0 rfl rfl hi dX7_lays_29 (fun H locs hP hD hS => ?_)
  have hP : va_P D vwCl (wN cI aN (st (st (st zN 0 (zN 11 0).toNatClampNeg x1) 1 ((st zN 0 (zN 11 0).toNatClampNeg x1) 11 0).toNatClampNeg x2) 2 ((st (st zN 0 (zN 11 0).toNatClampNeg x1) 1 ((st zN 0 (zN 11 0).toNatClampNeg x1) 11 0).toNatClampNeg x2) 11 0).toNatClampNeg x3)) H := hP
  have hD : va_D A (wN cI aN (st (st (st zN 0 (zN 11 0).toNatClampNeg x1) 1 ((st zN 0 (zN 11 0).toNatClampNeg x1) 11 0).toNatClampNeg x2) 2 ((st (st zN 0 (zN 11 0).toNatClampNeg x1) 1 ((st zN 0 (zN 11 0).toNatClampNeg x1) 11 0).toNatClampNeg x2) 11 0).toNatClampNeg x3)) := hD
  refine lv_aload_n hx hb dX7_lays_30 rfl (lv_at hl 0 rfl) ?_
  refine va_get (D := D) (ci := 7) (v := .ref (aN 4)) (C := RX7) (T := TX7) (N := 14) hx hb hts jX7_lays_X7 hown hK hP 0 rfl rfl 4 (by decide) (hts (.fieldLink RX7 19 "BrotherAutomataModel" "size" "[I") (List.mem_of_getElem? (i := 5) rfl)) (fun _ h9 => h9) rfl dX7_lays_31 ?_
  refine lv_aload_n hx hb dX7_lays_34 rfl (lv_at hl 0 rfl) ?_
  refine va_get (D := D) (ci := 7) (v := .int ((st (st (st zN 0 (zN 11 0).toNatClampNeg x1) 1 ((st zN 0 (zN 11 0).toNatClampNeg x1) 11 0).toNatClampNeg x2) 2 ((st (st zN 0 (zN 11 0).toNatClampNeg x1) 1 ((st zN 0 (zN 11 0).toNatClampNeg x1) 11 0).toNatClampNeg x2) 11 0).toNatClampNeg x3) 11 0)) (C := RX7) (T := TX7) (N := 14) hx hb hts jX7_lays_X7 hown hK hP 0 rfl rfl 0 (by decide) (hts (.fieldLink RX7 47 "BrotherAutomataModel" "trees" "I") (List.mem_of_getElem? (i := 2) rfl)) (fun _ h9 => h9) rfl dX7_lays_35 ?_
  refine lv_iload hx hb dX7_lays_38 (lv_at hl 4 rfl) ?_
  obtain ⟨hi, h⟩ := h
  refine va_iast hx hb hK hP hD hS 4 0 rfl rfl hi dX7_lays_40 (fun H locs hP hD hS => ?_)
  have hP : va_P D vwCl (wN cI aN (st (st (st (st zN 0 (zN 11 0).toNatClampNeg x1) 1 ((st zN 0 (zN 11 0).toNatClampNeg x1) 11 0).toNatClampNeg x2) 2 ((st (st zN 0 (zN 11 0).toNatClampNeg x1) 1 ((st zN 0 (zN 11 0).toNatClampNeg x1) 11 0).toNatClampNeg x2) 11 0).toNatClampNeg x3) 3 ((st (st (st zN 0 (zN 11 0).toNatClampNeg x1) 1 ((st zN 0 (zN 11 0).toNatClampNeg x1) 11 0).toNatClampNeg x2) 2 ((st (st zN 0 (zN 11 0).toNatClampNeg x1) 1 ((st zN 0 (zN 11 0).toNatClampNeg x1) 11 0).toNatClampNeg x2) 11 0).toNatClampNeg x3) 11 0).toNatClampNeg x4)) H := hP
  have hD : va_D A (wN cI aN (st (st (st (st zN 0 (zN 11 0).toNatClampNeg x1) 1 ((st zN 0 (zN 11 0).toNatClampNeg x1) 11 0).toNatClampNeg x2) 2 ((st (st zN 0 (zN 11 0).toNatClampNeg x1) 1 ((st zN 0 (zN 11 0).toNatClampNeg x1) 11 0).toNatClampNeg x2) 11 0).toNatClampNeg x3) 3 ((st (st (st zN 0 (zN 11 0).toNatClampNeg x1) 1 ((st zN 0 (zN 11 0).toNatClampNeg x1) 11 0).toNatClampNeg x2) 2 ((st (st zN 0 (zN 11 0).toNatClampNeg x1) 1 ((st zN 0 (zN 11 0).toNatClampNeg x1) 11 0).toNatClampNeg x2) 11 0).toNatClampNeg x3) 11 0).toNatClampNeg x4)) := hD
  refine lv_aload_n hx hb dX7_lays_41 rfl (lv_at hl 0 rfl) ?_
  refine va_get (D := D) (ci := 7) (v := .ref (aN 5)) (C := RX7) (T := TX7) (N := 14) hx hb hts jX7_lays_X7 hown hK hP 0 rfl rfl 5 (by decide) (hts (.fieldLink RX7 22 "BrotherAutomataModel" "height" "[I") (List.mem_of_getElem? (i := 6) rfl)) (fun _ h9 => h9) rfl dX7_lays_42 ?_
  refine lv_aload_n hx hb dX7_lays_45 rfl (lv_at hl 0 rfl) ?_
  refine va_get (D := D) (ci := 7) (v := .int ((st (st (st (st zN 0 (zN 11 0).toNatClampNeg x1) 1 ((st zN 0 (zN 11 0).toNatClampNeg x1) 11 0).toNatClampNeg x2) 2 ((st (st zN 0 (zN 11 0).toNatClampNeg x1) 1 ((st zN 0 (zN 11 0).toNatClampNeg x1) 11 0).toNatClampNeg x2) 11 0).toNatClampNeg x3) 3 ((st (st (st zN 0 (zN 11 0).toNatClampNeg x1) 1 ((st zN 0 (zN 11 0).toNatClampNeg x1) 11 0).toNatClampNeg x2) 2 ((st (st zN 0 (zN 11 0).toNatClampNeg x1) 1 ((st zN 0 (zN 11 0).toNatClampNeg x1) 11 0).toNatClampNeg x2) 11 0).toNatClampNeg x3) 11 0).toNatClampNeg x4) 11 0)) (C := RX7) (T := TX7) (N := 14) hx hb hts jX7_lays_X7 hown hK hP 0 rfl rfl 0 (by decide) (hts (.fieldLink RX7 47 "BrotherAutomataModel" "trees" "I") (List.mem_of_getElem? (i := 2) rfl)) (fun _ h9 => h9) rfl dX7_lays_46 ?_
  refine lv_iload hx hb dX7_lays_49 (lv_at hl 5 rfl) ?_
  obtain ⟨hi, h⟩ := h
  refine va_iast hx hb hK hP hD hS 5 0 rfl rfl hi dX7_lays_51 (fun H locs hP hD hS => ?_)
  have hP : va_P D vwCl (wN cI aN (st (st (st (st (st zN 0 (zN 11 0).toNatClampNeg x1) 1 ((st zN 0 (zN 11 0).toNatClampNeg x1) 11 0).toNatClampNeg x2) 2 ((st (st zN 0 (zN 11 0).toNatClampNeg x1) 1 ((st zN 0 (zN 11 0).toNatClampNeg x1) 11 0).toNatClampNeg x2) 11 0).toNatClampNeg x3) 3 ((st (st (st zN 0 (zN 11 0).toNatClampNeg x1) 1 ((st zN 0 (zN 11 0).toNatClampNeg x1) 11 0).toNatClampNeg x2) 2 ((st (st zN 0 (zN 11 0).toNatClampNeg x1) 1 ((st zN 0 (zN 11 0).toNatClampNeg x1) 11 0).toNatClampNeg x2) 11 0).toNatClampNeg x3) 11 0).toNatClampNeg x4) 4 ((st (st (st (st zN 0 (zN 11 0).toNatClampNeg x1) 1 ((st zN 0 (zN 11 0).toNatClampNeg x1) 11 0).toNatClampNeg x2) 2 ((st (st zN 0 (zN 11 0).toNatClampNeg x1) 1 ((st zN 0 (zN 11 0).toNatClampNeg x1) 11 0).toNatClampNeg x2) 11 0).toNatClampNeg x3) 3 ((st (st (st zN 0 (zN 11 0).toNatClampNeg x1) 1 ((st zN 0 (zN 11 0).toNatClampNeg x1) 11 0).toNatClampNeg x2) 2 ((st (st zN 0 (zN 11 0).toNatClampNeg x1) 1 ((st zN 0 (zN 11 0).toNatClampNeg x1) 11 0).toNatClampNeg x2) 11 0).toNatClampNeg x3) 11 0).toNatClampNeg x4) 11 0).toNatClampNeg x5)) H := hP
  have hD : va_D A (wN cI aN (st (st (st (st (st zN 0 (zN 11 0).toNatClampNeg x1) 1 ((st zN 0 (zN 11 0).toNatClampNeg x1) 11 0).toNatClampNeg x2) 2 ((st (st zN 0 (zN 11 0).toNatClampNeg x1) 1 ((st zN 0 (zN 11 0).toNatClampNeg x1) 11 0).toNatClampNeg x2) 11 0).toNatClampNeg x3) 3 ((st (st (st zN 0 (zN 11 0).toNatClampNeg x1) 1 ((st zN 0 (zN 11 0).toNatClampNeg x1) 11 0).toNatClampNeg x2) 2 ((st (st zN 0 (zN 11 0).toNatClampNeg x1) 1 ((st zN 0 (zN 11 0).toNatClampNeg x1) 11 0).toNatClampNeg x2) 11 0).toNatClampNeg x3) 11 0).toNatClampNeg x4) 4 ((st (st (st (st zN 0 (zN 11 0).toNatClampNeg x1) 1 ((st zN 0 (zN 11 0).toNatClampNeg x1) 11 0).toNatClampNeg x2) 2 ((st (st zN 0 (zN 11 0).toNatClampNeg x1) 1 ((st zN 0 (zN 11 0).toNatClampNeg x1) 11 0).toNatClampNeg x2) 11 0).toNatClampNeg x3) 3 ((st (st (st zN 0 (zN 11 0).toNatClampNeg x1) 1 ((st zN 0 (zN 11 0).toNatClampNeg x1) 11 0).toNatClampNeg x2) 2 ((st (st zN 0 (zN 11 0).toNatClampNeg x1) 1 ((st zN 0 (zN 11 0).toNatClampNeg x1) 11 0).toNatClampNeg x2) 11 0).toNatClampNeg x3) 11 0).toNatClampNeg x4) 11 0).toNatClampNeg x5)) := hD
  refine lv_aload_n hx hb dX7_lays_52 rfl (lv_at hl 0 rfl) ?_
  refine lv_dup hx hb dX7_lays_53 rfl ?_
  refine va_get (D := D) (ci := 7) (v := .int ((st (st (st (st (st zN 0 (zN 11 0).toNatClampNeg x1) 1 ((st zN 0 (zN 11 0).toNatClampNeg x1) 11 0).toNatClampNeg x2) 2 ((st (st zN 0 (zN 11 0).toNatClampNeg x1) 1 ((st zN 0 (zN 11 0).toNatClampNeg x1) 11 0).toNatClampNeg x2) 11 0).toNatClampNeg x3) 3 ((st (st (st zN 0 (zN 11 0).toNatClampNeg x1) 1 ((st zN 0 (zN 11 0).toNatClampNeg x1) 11 0).toNatClampNeg x2) 2 ((st (st zN 0 (zN 11 0).toNatClampNeg x1) 1 ((st zN 0 (zN 11 0).toNatClampNeg x1) 11 0).toNatClampNeg x2) 11 0).toNatClampNeg x3) 11 0).toNatClampNeg x4) 4 ((st (st (st (st zN 0 (zN 11 0).toNatClampNeg x1) 1 ((st zN 0 (zN 11 0).toNatClampNeg x1) 11 0).toNatClampNeg x2) 2 ((st (st zN 0 (zN 11 0).toNatClampNeg x1) 1 ((st zN 0 (zN 11 0).toNatClampNeg x1) 11 0).toNatClampNeg x2) 11 0).toNatClampNeg x3) 3 ((st (st (st zN 0 (zN 11 0).toNatClampNeg x1) 1 ((st zN 0 (zN 11 0).toNatClampNeg x1) 11 0).toNatClampNeg x2) 2 ((st (st zN 0 (zN 11 0).toNatClampNeg x1) 1 ((st zN 0 (zN 11 0).toNatClampNeg x1) 11 0).toNatClampNeg x2) 11 0).toNatClampNeg x3) 11 0).toNatClampNeg x4) 11 0).toNatClampNeg x5) 11 0)) (C := RX7) (T := TX7) (N := 14) hx hb hts jX7_lays_X7 hown hK hP 0 rfl rfl 0 (by decide) (hts (.fieldLink RX7 47 "BrotherAutomataModel" "trees" "I") (List.mem_of_getElem? (i := 2) rfl)) (fun _ h9 => h9) rfl dX7_lays_54 ?_
  refine lv_iconst (v := 1) hx hb dX7_lays_57 (by decide) ?_
  refine lv_iadd hx hb dX7_lays_58 ?_
  refine va_put (D := D) (ci := 7) (v := .int (((st (st (st (st (st zN 0 (zN 11 0).toNatClampNeg x1) 1 ((st zN 0 (zN 11 0).toNatClampNeg x1) 11 0).toNatClampNeg x2) 2 ((st (st zN 0 (zN 11 0).toNatClampNeg x1) 1 ((st zN 0 (zN 11 0).toNatClampNeg x1) 11 0).toNatClampNeg x2) 11 0).toNatClampNeg x3) 3 ((st (st (st zN 0 (zN 11 0).toNatClampNeg x1) 1 ((st zN 0 (zN 11 0).toNatClampNeg x1) 11 0).toNatClampNeg x2) 2 ((st (st zN 0 (zN 11 0).toNatClampNeg x1) 1 ((st zN 0 (zN 11 0).toNatClampNeg x1) 11 0).toNatClampNeg x2) 11 0).toNatClampNeg x3) 11 0).toNatClampNeg x4) 4 ((st (st (st (st zN 0 (zN 11 0).toNatClampNeg x1) 1 ((st zN 0 (zN 11 0).toNatClampNeg x1) 11 0).toNatClampNeg x2) 2 ((st (st zN 0 (zN 11 0).toNatClampNeg x1) 1 ((st zN 0 (zN 11 0).toNatClampNeg x1) 11 0).toNatClampNeg x2) 11 0).toNatClampNeg x3) 3 ((st (st (st zN 0 (zN 11 0).toNatClampNeg x1) 1 ((st zN 0 (zN 11 0).toNatClampNeg x1) 11 0).toNatClampNeg x2) 2 ((st (st zN 0 (zN 11 0).toNatClampNeg x1) 1 ((st zN 0 (zN 11 0).toNatClampNeg x1) 11 0).toNatClampNeg x2) 11 0).toNatClampNeg x3) 11 0).toNatClampNeg x4) 11 0).toNatClampNeg x5) 11 0) + (1 : Int32))) (ty := .int) (C := RX7) (T := TX7) (N := 14) hx hb hts jX7_lays_X7 tyX7 tyX7_ok nmX7 hown hK hP hD hS 0 rfl rfl 0 (by decide) (hts (.fieldLink RX7 47 "BrotherAutomataModel" "trees" "I") (List.mem_of_getElem? (i := 2) rfl)) (fun _ h9 => h9) rfl (by decide +kernel) rfl rfl (Nat.le_of_ble_eq_true rfl) dX7_lays_59 (fun H locs hP hD hS => ?_)
  have hP : va_P D vwCl (wN cI aN (st (st (st (st (st (st zN 0 (zN 11 0).toNatClampNeg x1) 1 ((st zN 0 (zN 11 0).toNatClampNeg x1) 11 0).toNatClampNeg x2) 2 ((st (st zN 0 (zN 11 0).toNatClampNeg x1) 1 ((st zN 0 (zN 11 0).toNatClampNeg x1) 11 0).toNatClampNeg x2) 11 0).toNatClampNeg x3) 3 ((st (st (st zN 0 (zN 11 0).toNatClampNeg x1) 1 ((st zN 0 (zN 11 0).toNatClampNeg x1) 11 0).toNatClampNeg x2) 2 ((st (st zN 0 (zN 11 0).toNatClampNeg x1) 1 ((st zN 0 (zN 11 0).toNatClampNeg x1) 11 0).toNatClampNeg x2) 11 0).toNatClampNeg x3) 11 0).toNatClampNeg x4) 4 ((st (st (st (st zN 0 (zN 11 0).toNatClampNeg x1) 1 ((st zN 0 (zN 11 0).toNatClampNeg x1) 11 0).toNatClampNeg x2) 2 ((st (st zN 0 (zN 11 0).toNatClampNeg x1) 1 ((st zN 0 (zN 11 0).toNatClampNeg x1) 11 0).toNatClampNeg x2) 11 0).toNatClampNeg x3) 3 ((st (st (st zN 0 (zN 11 0).toNatClampNeg x1) 1 ((st zN 0 (zN 11 0).toNatClampNeg x1) 11 0).toNatClampNeg x2) 2 ((st (st zN 0 (zN 11 0).toNatClampNeg x1) 1 ((st zN 0 (zN 11 0).toNatClampNeg x1) 11 0).toNatClampNeg x2) 11 0).toNatClampNeg x3) 11 0).toNatClampNeg x4) 11 0).toNatClampNeg x5) 11 0 (((st (st (st (st (st zN 0 (zN 11 0).toNatClampNeg x1) 1 ((st zN 0 (zN 11 0).toNatClampNeg x1) 11 0).toNatClampNeg x2) 2 ((st (st zN 0 (zN 11 0).toNatClampNeg x1) 1 ((st zN 0 (zN 11 0).toNatClampNeg x1) 11 0).toNatClampNeg x2) 11 0).toNatClampNeg x3) 3 ((st (st (st zN 0 (zN 11 0).toNatClampNeg x1) 1 ((st zN 0 (zN 11 0).toNatClampNeg x1) 11 0).toNatClampNeg x2) 2 ((st (st zN 0 (zN 11 0).toNatClampNeg x1) 1 ((st zN 0 (zN 11 0).toNatClampNeg x1) 11 0).toNatClampNeg x2) 11 0).toNatClampNeg x3) 11 0).toNatClampNeg x4) 4 ((st (st (st (st zN 0 (zN 11 0).toNatClampNeg x1) 1 ((st zN 0 (zN 11 0).toNatClampNeg x1) 11 0).toNatClampNeg x2) 2 ((st (st zN 0 (zN 11 0).toNatClampNeg x1) 1 ((st zN 0 (zN 11 0).toNatClampNeg x1) 11 0).toNatClampNeg x2) 11 0).toNatClampNeg x3) 3 ((st (st (st zN 0 (zN 11 0).toNatClampNeg x1) 1 ((st zN 0 (zN 11 0).toNatClampNeg x1) 11 0).toNatClampNeg x2) 2 ((st (st zN 0 (zN 11 0).toNatClampNeg x1) 1 ((st zN 0 (zN 11 0).toNatClampNeg x1) 11 0).toNatClampNeg x2) 11 0).toNatClampNeg x3) 11 0).toNatClampNeg x4) 11 0).toNatClampNeg x5) 11 0) + (1 : Int32)))) H := hP
  have hD : va_D A (wN cI aN (st (st (st (st (st (st zN 0 (zN 11 0).toNatClampNeg x1) 1 ((st zN 0 (zN 11 0).toNatClampNeg x1) 11 0).toNatClampNeg x2) 2 ((st (st zN 0 (zN 11 0).toNatClampNeg x1) 1 ((st zN 0 (zN 11 0).toNatClampNeg x1) 11 0).toNatClampNeg x2) 11 0).toNatClampNeg x3) 3 ((st (st (st zN 0 (zN 11 0).toNatClampNeg x1) 1 ((st zN 0 (zN 11 0).toNatClampNeg x1) 11 0).toNatClampNeg x2) 2 ((st (st zN 0 (zN 11 0).toNatClampNeg x1) 1 ((st zN 0 (zN 11 0).toNatClampNeg x1) 11 0).toNatClampNeg x2) 11 0).toNatClampNeg x3) 11 0).toNatClampNeg x4) 4 ((st (st (st (st zN 0 (zN 11 0).toNatClampNeg x1) 1 ((st zN 0 (zN 11 0).toNatClampNeg x1) 11 0).toNatClampNeg x2) 2 ((st (st zN 0 (zN 11 0).toNatClampNeg x1) 1 ((st zN 0 (zN 11 0).toNatClampNeg x1) 11 0).toNatClampNeg x2) 11 0).toNatClampNeg x3) 3 ((st (st (st zN 0 (zN 11 0).toNatClampNeg x1) 1 ((st zN 0 (zN 11 0).toNatClampNeg x1) 11 0).toNatClampNeg x2) 2 ((st (st zN 0 (zN 11 0).toNatClampNeg x1) 1 ((st zN 0 (zN 11 0).toNatClampNeg x1) 11 0).toNatClampNeg x2) 11 0).toNatClampNeg x3) 11 0).toNatClampNeg x4) 11 0).toNatClampNeg x5) 11 0 (((st (st (st (st (st zN 0 (zN 11 0).toNatClampNeg x1) 1 ((st zN 0 (zN 11 0).toNatClampNeg x1) 11 0).toNatClampNeg x2) 2 ((st (st zN 0 (zN 11 0).toNatClampNeg x1) 1 ((st zN 0 (zN 11 0).toNatClampNeg x1) 11 0).toNatClampNeg x2) 11 0).toNatClampNeg x3) 3 ((st (st (st zN 0 (zN 11 0).toNatClampNeg x1) 1 ((st zN 0 (zN 11 0).toNatClampNeg x1) 11 0).toNatClampNeg x2) 2 ((st (st zN 0 (zN 11 0).toNatClampNeg x1) 1 ((st zN 0 (zN 11 0).toNatClampNeg x1) 11 0).toNatClampNeg x2) 11 0).toNatClampNeg x3) 11 0).toNatClampNeg x4) 4 ((st (st (st (st zN 0 (zN 11 0).toNatClampNeg x1) 1 ((st zN 0 (zN 11 0).toNatClampNeg x1) 11 0).toNatClampNeg x2) 2 ((st (st zN 0 (zN 11 0).toNatClampNeg x1) 1 ((st zN 0 (zN 11 0).toNatClampNeg x1) 11 0).toNatClampNeg x2) 11 0).toNatClampNeg x3) 3 ((st (st (st zN 0 (zN 11 0).toNatClampNeg x1) 1 ((st zN 0 (zN 11 0).toNatClampNeg x1) 11 0).toNatClampNeg x2) 2 ((st (st zN 0 (zN 11 0).toNatClampNeg x1) 1 ((st zN 0 (zN 11 0).toNatClampNeg x1) 11 0).toNatClampNeg x2) 11 0).toNatClampNeg x3) 11 0).toNatClampNeg x4) 11 0).toNatClampNeg x5) 11 0) + (1 : Int32)))) := hD
  exact xvret (w := (w_X7_lays cI cO aN)) (st (st (st (st (st (st zN 0 (zN 11 0).toNatClampNeg x1) 1 ((st zN 0 (zN 11 0).toNatClampNeg x1) 11 0).toNatClampNeg x2) 2 ((st (st zN 0 (zN 11 0).toNatClampNeg x1) 1 ((st zN 0 (zN 11 0).toNatClampNeg x1) 11 0).toNatClampNeg x2) 11 0).toNatClampNeg x3) 3 ((st (st (st zN 0 (zN 11 0).toNatClampNeg x1) 1 ((st zN 0 (zN 11 0).toNatClampNeg x1) 11 0).toNatClampNeg x2) 2 ((st (st zN 0 (zN 11 0).toNatClampNeg x1) 1 ((st zN 0 (zN 11 0).toNatClampNeg x1) 11 0).toNatClampNeg x2) 11 0).toNatClampNeg x3) 11 0).toNatClampNeg x4) 4 ((st (st (st (st zN 0 (zN 11 0).toNatClampNeg x1) 1 ((st zN 0 (zN 11 0).toNatClampNeg x1) 11 0).toNatClampNeg x2) 2 ((st (st zN 0 (zN 11 0).toNatClampNeg x1) 1 ((st zN 0 (zN 11 0).toNatClampNeg x1) 11 0).toNatClampNeg x2) 11 0).toNatClampNeg x3) 3 ((st (st (st zN 0 (zN 11 0).toNatClampNeg x1) 1 ((st zN 0 (zN 11 0).toNatClampNeg x1) 11 0).toNatClampNeg x2) 2 ((st (st zN 0 (zN 11 0).toNatClampNeg x1) 1 ((st zN 0 (zN 11 0).toNatClampNeg x1) 11 0).toNatClampNeg x2) 11 0).toNatClampNeg x3) 11 0).toNatClampNeg x4) 11 0).toNatClampNeg x5) 11 0 (((st (st (st (st (st zN 0 (zN 11 0).toNatClampNeg x1) 1 ((st zN 0 (zN 11 0).toNatClampNeg x1) 11 0).toNatClampNeg x2) 2 ((st (st zN 0 (zN 11 0).toNatClampNeg x1) 1 ((st zN 0 (zN 11 0).toNatClampNeg x1) 11 0).toNatClampNeg x2) 11 0).toNatClampNeg x3) 3 ((st (st (st zN 0 (zN 11 0).toNatClampNeg x1) 1 ((st zN 0 (zN 11 0).toNatClampNeg x1) 11 0).toNatClampNeg x2) 2 ((st (st zN 0 (zN 11 0).toNatClampNeg x1) 1 ((st zN 0 (zN 11 0).toNatClampNeg x1) 11 0).toNatClampNeg x2) 11 0).toNatClampNeg x3) 11 0).toNatClampNeg x4) 4 ((st (st (st (st zN 0 (zN 11 0).toNatClampNeg x1) 1 ((st zN 0 (zN 11 0).toNatClampNeg x1) 11 0).toNatClampNeg x2) 2 ((st (st zN 0 (zN 11 0).toNatClampNeg x1) 1 ((st zN 0 (zN 11 0).toNatClampNeg x1) 11 0).toNatClampNeg x2) 11 0).toNatClampNeg x3) 3 ((st (st (st zN 0 (zN 11 0).toNatClampNeg x1) 1 ((st zN 0 (zN 11 0).toNatClampNeg x1) 11 0).toNatClampNeg x2) 2 ((st (st zN 0 (zN 11 0).toNatClampNeg x1) 1 ((st zN 0 (zN 11 0).toNatClampNeg x1) 11 0).toNatClampNeg x2) 11 0).toNatClampNeg x3) 11 0).toNatClampNeg x4) 11 0).toNatClampNeg x5) 11 0) + (1 : Int32))) hx hb hr hlocks h hP hK hD hS dX7_lays_62
set_option maxRecDepth 20000 in
theorem ggX7_grows_X7_lays : GoodIn wsX7_grows wsX7_lays := goodIn_r _ [9, 10, 1, 11, 12, 4, 3, 13, 14, 15, 16, 17, 18, 19, 20, 21, 22, 23, 24, 25, 26] (by decide +kernel) (by decide +kernel)
set_option maxRecDepth 20000 in
theorem gX7_grows_X7_lays : GoodIn wsX7_grows (wsV RX7 50 RX7 yX7_lays wsX7_lays) := goodIn_app (goodIn_of _ (by decide +kernel)) ggX7_grows_X7_lays
theorem dX7_grows_0 : decode cX7_grows 0 = .ok (.aload_n 0, 1) := by decide +kernel
theorem dX7_grows_1 : decode cX7_grows 1 = .ok (.getfield 47, 3) := by decide +kernel
theorem dX7_grows_4 : decode cX7_grows 4 = .ok (.istore_n 2, 1) := by decide +kernel
theorem dX7_grows_5 : decode cX7_grows 5 = .ok (.aload_n 0, 1) := by decide +kernel
theorem dX7_grows_6 : decode cX7_grows 6 = .ok (.getfield 25, 3) := by decide +kernel
theorem dX7_grows_9 : decode cX7_grows 9 = .ok (.iload_n 1, 1) := by decide +kernel
theorem dX7_grows_10 : decode cX7_grows 10 = .ok (.iconst 1, 1) := by decide +kernel
theorem dX7_grows_11 : decode cX7_grows 11 = .ok (.isub, 1) := by decide +kernel
theorem dX7_grows_12 : decode cX7_grows 12 = .ok (.iaload, 1) := by decide +kernel
theorem dX7_grows_13 : decode cX7_grows 13 = .ok (.istore_n 3, 1) := by decide +kernel
theorem dX7_grows_14 : decode cX7_grows 14 = .ok (.iload_n 3, 1) := by decide +kernel
theorem dX7_grows_15 : decode cX7_grows 15 = .ok (.iload_n 2, 1) := by decide +kernel
theorem dX7_grows_16 : decode cX7_grows 16 = .ok (.if_icmp .ge 25, 3) := by decide +kernel
theorem dX7_grows_19 : decode cX7_grows 19 = .ok (.aload_n 0, 1) := by decide +kernel
theorem dX7_grows_20 : decode cX7_grows 20 = .ok (.iconst 2, 1) := by decide +kernel
theorem dX7_grows_21 : decode cX7_grows 21 = .ok (.iload_n 3, 1) := by decide +kernel
theorem dX7_grows_22 : decode cX7_grows 22 = .ok (.iconst 0, 1) := by decide +kernel
theorem dX7_grows_23 : decode cX7_grows 23 = .ok (.iload_n 1, 1) := by decide +kernel
theorem dX7_grows_24 : decode cX7_grows 24 = .ok (.aload_n 0, 1) := by decide +kernel
theorem dX7_grows_25 : decode cX7_grows 25 = .ok (.getfield 22, 3) := by decide +kernel
theorem dX7_grows_28 : decode cX7_grows 28 = .ok (.iload_n 3, 1) := by decide +kernel
theorem dX7_grows_29 : decode cX7_grows 29 = .ok (.iaload, 1) := by decide +kernel
theorem dX7_grows_30 : decode cX7_grows 30 = .ok (.iconst 1, 1) := by decide +kernel
theorem dX7_grows_31 : decode cX7_grows 31 = .ok (.iadd, 1) := by decide +kernel
theorem dX7_grows_32 : decode cX7_grows 32 = .ok (.invokevirtual 50, 3) := by decide +kernel
theorem dX7_grows_35 : decode cX7_grows 35 = .ok (.iinc 3 1, 3) := by decide +kernel
theorem dX7_grows_38 : decode cX7_grows 38 = .ok (.goto (-24), 3) := by decide +kernel
theorem dX7_grows_41 : decode cX7_grows 41 = .ok (.iconst 3, 1) := by decide +kernel
theorem dX7_grows_42 : decode cX7_grows 42 = .ok (.istore_n 3, 1) := by decide +kernel
theorem dX7_grows_43 : decode cX7_grows 43 = .ok (.iload_n 3, 1) := by decide +kernel
theorem dX7_grows_44 : decode cX7_grows 44 = .ok (.iconst 5, 1) := by decide +kernel
theorem dX7_grows_45 : decode cX7_grows 45 = .ok (.if_icmp .ge 125, 3) := by decide +kernel
theorem dX7_grows_48 : decode cX7_grows 48 = .ok (.iconst 0, 1) := by decide +kernel
theorem dX7_grows_49 : decode cX7_grows 49 = .ok (.istore 4, 2) := by decide +kernel
theorem dX7_grows_51 : decode cX7_grows 51 = .ok (.iload 4, 2) := by decide +kernel
theorem dX7_grows_53 : decode cX7_grows 53 = .ok (.iload_n 2, 1) := by decide +kernel
theorem dX7_grows_54 : decode cX7_grows 54 = .ok (.if_icmp .ge 110, 3) := by decide +kernel
theorem dX7_grows_57 : decode cX7_grows 57 = .ok (.iload_n 1, 1) := by decide +kernel
theorem dX7_grows_58 : decode cX7_grows 58 = .ok (.iconst 1, 1) := by decide +kernel
theorem dX7_grows_59 : decode cX7_grows 59 = .ok (.isub, 1) := by decide +kernel
theorem dX7_grows_60 : decode cX7_grows 60 = .ok (.aload_n 0, 1) := by decide +kernel
theorem dX7_grows_61 : decode cX7_grows 61 = .ok (.getfield 19, 3) := by decide +kernel
theorem dX7_grows_64 : decode cX7_grows 64 = .ok (.iload 4, 2) := by decide +kernel
theorem dX7_grows_66 : decode cX7_grows 66 = .ok (.iaload, 1) := by decide +kernel
theorem dX7_grows_67 : decode cX7_grows 67 = .ok (.isub, 1) := by decide +kernel
theorem dX7_grows_68 : decode cX7_grows 68 = .ok (.istore 5, 2) := by decide +kernel
theorem dX7_grows_70 : decode cX7_grows 70 = .ok (.iload 5, 2) := by decide +kernel
theorem dX7_grows_72 : decode cX7_grows 72 = .ok (.ifCond .le 13, 3) := by decide +kernel
theorem dX7_grows_75 : decode cX7_grows 75 = .ok (.aload_n 0, 1) := by decide +kernel
theorem dX7_grows_76 : decode cX7_grows 76 = .ok (.getfield 25, 3) := by decide +kernel
theorem dX7_grows_79 : decode cX7_grows 79 = .ok (.iload 5, 2) := by decide +kernel
theorem dX7_grows_81 : decode cX7_grows 81 = .ok (.iaload, 1) := by decide +kernel
theorem dX7_grows_82 : decode cX7_grows 82 = .ok (.goto 4, 3) := by decide +kernel
theorem dX7_grows_85 : decode cX7_grows 85 = .ok (.iload_n 2, 1) := by decide +kernel
theorem dX7_grows_86 : decode cX7_grows 86 = .ok (.istore 6, 2) := by decide +kernel
theorem dX7_grows_88 : decode cX7_grows 88 = .ok (.iload 6, 2) := by decide +kernel
theorem dX7_grows_90 : decode cX7_grows 90 = .ok (.iload_n 2, 1) := by decide +kernel
theorem dX7_grows_91 : decode cX7_grows 91 = .ok (.if_icmp .ge 67, 3) := by decide +kernel
theorem dX7_grows_94 : decode cX7_grows 94 = .ok (.aload_n 0, 1) := by decide +kernel
theorem dX7_grows_95 : decode cX7_grows 95 = .ok (.getfield 19, 3) := by decide +kernel
theorem dX7_grows_98 : decode cX7_grows 98 = .ok (.iload 6, 2) := by decide +kernel
theorem dX7_grows_100 : decode cX7_grows 100 = .ok (.iaload, 1) := by decide +kernel
theorem dX7_grows_101 : decode cX7_grows 101 = .ok (.iload 5, 2) := by decide +kernel
theorem dX7_grows_103 : decode cX7_grows 103 = .ok (.if_icmp .ne 55, 3) := by decide +kernel
theorem dX7_grows_106 : decode cX7_grows 106 = .ok (.aload_n 0, 1) := by decide +kernel
theorem dX7_grows_107 : decode cX7_grows 107 = .ok (.iload_n 3, 1) := by decide +kernel
theorem dX7_grows_108 : decode cX7_grows 108 = .ok (.iload 4, 2) := by decide +kernel
theorem dX7_grows_110 : decode cX7_grows 110 = .ok (.iload 6, 2) := by decide +kernel
theorem dX7_grows_112 : decode cX7_grows 112 = .ok (.iload_n 1, 1) := by decide +kernel
theorem dX7_grows_113 : decode cX7_grows 113 = .ok (.aload_n 0, 1) := by decide +kernel
theorem dX7_grows_114 : decode cX7_grows 114 = .ok (.getfield 22, 3) := by decide +kernel
theorem dX7_grows_117 : decode cX7_grows 117 = .ok (.iload 4, 2) := by decide +kernel
theorem dX7_grows_119 : decode cX7_grows 119 = .ok (.iaload, 1) := by decide +kernel
theorem dX7_grows_120 : decode cX7_grows 120 = .ok (.aload_n 0, 1) := by decide +kernel
theorem dX7_grows_121 : decode cX7_grows 121 = .ok (.getfield 22, 3) := by decide +kernel
theorem dX7_grows_124 : decode cX7_grows 124 = .ok (.iload 6, 2) := by decide +kernel
theorem dX7_grows_126 : decode cX7_grows 126 = .ok (.iaload, 1) := by decide +kernel
theorem dX7_grows_127 : decode cX7_grows 127 = .ok (.if_icmp .le 13, 3) := by decide +kernel
theorem dX7_grows_130 : decode cX7_grows 130 = .ok (.aload_n 0, 1) := by decide +kernel
theorem dX7_grows_131 : decode cX7_grows 131 = .ok (.getfield 22, 3) := by decide +kernel
theorem dX7_grows_134 : decode cX7_grows 134 = .ok (.iload 4, 2) := by decide +kernel
theorem dX7_grows_136 : decode cX7_grows 136 = .ok (.iaload, 1) := by decide +kernel
theorem dX7_grows_137 : decode cX7_grows 137 = .ok (.goto 10, 3) := by decide +kernel
theorem dX7_grows_140 : decode cX7_grows 140 = .ok (.aload_n 0, 1) := by decide +kernel
theorem dX7_grows_141 : decode cX7_grows 141 = .ok (.getfield 22, 3) := by decide +kernel
theorem dX7_grows_144 : decode cX7_grows 144 = .ok (.iload 6, 2) := by decide +kernel
theorem dX7_grows_146 : decode cX7_grows 146 = .ok (.iaload, 1) := by decide +kernel
theorem dX7_grows_147 : decode cX7_grows 147 = .ok (.iconst 1, 1) := by decide +kernel
theorem dX7_grows_148 : decode cX7_grows 148 = .ok (.iadd, 1) := by decide +kernel
theorem dX7_grows_149 : decode cX7_grows 149 = .ok (.invokevirtual 50, 3) := by decide +kernel
theorem dX7_grows_152 : decode cX7_grows 152 = .ok (.iinc 6 1, 3) := by decide +kernel
theorem dX7_grows_155 : decode cX7_grows 155 = .ok (.goto (-67), 3) := by decide +kernel
theorem dX7_grows_158 : decode cX7_grows 158 = .ok (.iinc 4 1, 3) := by decide +kernel
theorem dX7_grows_161 : decode cX7_grows 161 = .ok (.goto (-110), 3) := by decide +kernel
theorem dX7_grows_164 : decode cX7_grows 164 = .ok (.iinc 3 1, 3) := by decide +kernel
theorem dX7_grows_167 : decode cX7_grows 167 = .ok (.goto (-124), 3) := by decide +kernel
theorem dX7_grows_170 : decode cX7_grows 170 = .ok (.return_, 1) := by decide +kernel
theorem jX7_grows_X7 : ∀ w ∈ wsX70, w ∈ wsX7_grows := by decide +kernel
abbrev w_X7_grows (cI cO : ClassId) (aN : Nat → Nat)  : ((CS)) → va_W := fun u => (wN cI aN u)
set_option maxRecDepth 100000 in
set_option maxHeartbeats 8000000 in
theorem mX7_grows (l : Launch) (D : va_G) (cI cO : ClassId) (tA tS : Nat) (aN : Nat → Nat) (zN : CS) (x1 : Int32) (sz : Nat) {post : ((CS)) → Prop} (h : qX7_grows post x1 zN) : Met l yX7_grows wsX7_grows ({ frames := 1, cells := 0, slots := 0, locals := 25 } : Room) (xPre D cI cO tA tS [.ref (aN 0), .int x1] (wN cI aN zN) sz) (va_Qv post (xB D cI cO (va_A (wN cI aN zN) sz) (w_X7_grows cI cO aN)) (va_A (wN cI aN zN) sz)) 0 0 (va_A (wN cI aN zN) sz) := by
  refine xMet D cI cO tA tS (fun A => va_Qv post (xB D cI cO A (w_X7_grows cI cO aN)) A) (cc := cX7_grows) (maxL := 7) (ret := none) (by decide) rfl (Nat.le_of_ble_eq_true rfl) ?_
  intro p e s m below meth c A ls hx hb hr hts hown hlocks hin hml hA hS hP hK hD hE hl
  have hown : s.vm.findClass RX7 = some m.cls := hown
  have hl : lv_has ls 7 [(0, .ref (aN 0)), (1, .int x1)] := hl
  have g158 : ∀ (k43 : (Int32) → (Int32) → (CS) → Prop), (∀ (y2 : Int32) (y3 : Int32) (zN : CS) (H : Heap) (locs : List Loc) (ls : Array Slot), k43 y2 y3 zN → va_P D vwCl (wN cI aN zN) H → va_D A (wN cI aN zN) → va_S A s.heap H locs → lv_has ls 7 [(3, .int y3), (2, .int y2), (0, .ref (aN 0)), (1, .int x1)] → W p l e ({ frames := 1, cells := 0, slots := 0, locals := 25 } : Room) s m ([.ref (aN 0), .int x1] : List Value).toArray below meth c H locs 0 0 (MQ below (va_Qv post (xB D cI cO A (w_X7_grows cI cO aN)) A) ([.ref (aN 0), .int x1] : List Value).toArray s 0 0 A) (F0 m 43 ls [])) → ∀ (k51 : (Int32) → (Int32) → (Int32) → (CS) → Prop), (∀ (y2 : Int32) (y3 : Int32) (y4 : Int32) (zN : CS) (H : Heap) (locs : List Loc) (ls : Array Slot), k51 y2 y3 y4 zN → va_P D vwCl (wN cI aN zN) H → va_D A (wN cI aN zN) → va_S A s.heap H locs → lv_has ls 7 [(4, .int y4), (3, .int y3), (2, .int y2), (0, .ref (aN 0)), (1, .int x1)] → W p l e ({ frames := 1, cells := 0, slots := 0, locals := 25 } : Room) s m ([.ref (aN 0), .int x1] : List Value).toArray below meth c H locs 0 0 (MQ below (va_Qv post (xB D cI cO A (w_X7_grows cI cO aN)) A) ([.ref (aN 0), .int x1] : List Value).toArray s 0 0 A) (F0 m 51 ls [])) → ∀ (y2 : Int32) (y3 : Int32) (y4 : Int32) (y5 : Int32) (y6 : Int32) (zN : CS) (H : Heap) (locs : List Loc) (ls : Array Slot), qX7_grows_158 post x1 k43 k51 y2 y3 y4 y5 y6 zN → va_P D vwCl (wN cI aN zN) H → va_D A (wN cI aN zN) → va_S A s.heap H locs → lv_has ls 7 [(6, .int y6), (5, .int y5), (4, .int y4), (3, .int y3), (2, .int y2), (0, .ref (aN 0)), (1, .int x1)] → W p l e ({ frames := 1, cells := 0, slots := 0, locals := 25 } : Room) s m ([.ref (aN 0), .int x1] : List Value).toArray below meth c H locs 0 0 (MQ below (va_Qv post (xB D cI cO A (w_X7_grows cI cO aN)) A) ([.ref (aN 0), .int x1] : List Value).toArray s 0 0 A) (F0 m 158 ls []) := by
    intro k43 hk43 k51 hk51 y2 y3 y4 y5 y6 zN H locs ls h hP hD hS hl
    refine lv_iinc (v := (y4 + (1 : Int32))) (lv' := [(4, .int (y4 + (1 : Int32))), (6, .int y6), (5, .int y5), (3, .int y3), (2, .int y2), (0, .ref (aN 0)), (1, .int x1)]) hx hb dX7_grows_158 hl (k := 2) rfl rfl (by decide) rfl (fun ls hl => ?_)
    refine lv_goto (tgt := 51) hx hb dX7_grows_161 (by decide) ?_
    exact hk51 y2 y3 (y4 + (1 : Int32)) zN _ _ _ h hP hD hS (lv_sub hl [0, 3, 4, 5, 6] rfl)
  have g147 : ∀ (k43 : (Int32) → (Int32) → (CS) → Prop), (∀ (y2 : Int32) (y3 : Int32) (zN : CS) (H : Heap) (locs : List Loc) (ls : Array Slot), k43 y2 y3 zN → va_P D vwCl (wN cI aN zN) H → va_D A (wN cI aN zN) → va_S A s.heap H locs → lv_has ls 7 [(3, .int y3), (2, .int y2), (0, .ref (aN 0)), (1, .int x1)] → W p l e ({ frames := 1, cells := 0, slots := 0, locals := 25 } : Room) s m ([.ref (aN 0), .int x1] : List Value).toArray below meth c H locs 0 0 (MQ below (va_Qv post (xB D cI cO A (w_X7_grows cI cO aN)) A) ([.ref (aN 0), .int x1] : List Value).toArray s 0 0 A) (F0 m 43 ls [])) → ∀ (k51 : (Int32) → (Int32) → (Int32) → (CS) → Prop), (∀ (y2 : Int32) (y3 : Int32) (y4 : Int32) (zN : CS) (H : Heap) (locs : List Loc) (ls : Array Slot), k51 y2 y3 y4 zN → va_P D vwCl (wN cI aN zN) H → va_D A (wN cI aN zN) → va_S A s.heap H locs → lv_has ls 7 [(4, .int y4), (3, .int y3), (2, .int y2), (0, .ref (aN 0)), (1, .int x1)] → W p l e ({ frames := 1, cells := 0, slots := 0, locals := 25 } : Room) s m ([.ref (aN 0), .int x1] : List Value).toArray below meth c H locs 0 0 (MQ below (va_Qv post (xB D cI cO A (w_X7_grows cI cO aN)) A) ([.ref (aN 0), .int x1] : List Value).toArray s 0 0 A) (F0 m 51 ls [])) → ∀ (k88 : (Int32) → (Int32) → (Int32) → (Int32) → (Int32) → (CS) → Prop), (∀ (y2 : Int32) (y3 : Int32) (y4 : Int32) (y5 : Int32) (y6 : Int32) (zN : CS) (H : Heap) (locs : List Loc) (ls : Array Slot), k88 y2 y3 y4 y5 y6 zN → va_P D vwCl (wN cI aN zN) H → va_D A (wN cI aN zN) → va_S A s.heap H locs → lv_has ls 7 [(6, .int y6), (5, .int y5), (4, .int y4), (3, .int y3), (2, .int y2), (0, .ref (aN 0)), (1, .int x1)] → W p l e ({ frames := 1, cells := 0, slots := 0, locals := 25 } : Room) s m ([.ref (aN 0), .int x1] : List Value).toArray below meth c H locs 0 0 (MQ below (va_Qv post (xB D cI cO A (w_X7_grows cI cO aN)) A) ([.ref (aN 0), .int x1] : List Value).toArray s 0 0 A) (F0 m 88 ls [])) → ∀ (y2 : Int32) (y3 : Int32) (y4 : Int32) (y5 : Int32) (y6 : Int32) (w1 : Int32) (w2 : Int32) (w3 : Int32) (w4 : Int32) (w5 : Int32) (zN : CS) (H : Heap) (locs : List Loc) (ls : Array Slot), qX7_grows_147 post x1 k43 k51 k88 y2 y3 y4 y5 y6 w1 w2 w3 w4 w5 zN → va_P D vwCl (wN cI aN zN) H → va_D A (wN cI aN zN) → va_S A s.heap H locs → lv_has ls 7 [(6, .int y6), (5, .int y5), (4, .int y4), (3, .int y3), (2, .int y2), (0, .ref (aN 0)), (1, .int x1)] → W p l e ({ frames := 1, cells := 0, slots := 0, locals := 25 } : Room) s m ([.ref (aN 0), .int x1] : List Value).toArray below meth c H locs 0 0 (MQ below (va_Qv post (xB D cI cO A (w_X7_grows cI cO aN)) A) ([.ref (aN 0), .int x1] : List Value).toArray s 0 0 A) (F0 m 147 ls [.int w5, .int w4, .int w3, .int w2, .int w1, .ref (aN 0)]) := by
    intro k43 hk43 k51 hk51 k88 hk88 y2 y3 y4 y5 y6 w1 w2 w3 w4 w5 zN H locs ls h hP hD hS hl
    refine lv_iconst (v := 1) hx hb dX7_grows_147 (by decide) ?_
    refine lv_iadd hx hb dX7_grows_148 ?_
    refine xcallv (wr := ([] : va_W)) (w2 := fun (u149 : (CS)) => (wN cI aN u149)) (va_runV (As := [.int w1, .int w2, .int w3, .int w4, .int (w5 + (1 : Int32))]) (rest := []) ⟨hx, hb, hml, hown, hts⟩ (mX7_lays l D cI cO tA tS aN zN w1 w2 w3 w4 (w5 + (1 : Int32)) _ h) (cwV 5 hts gX7_grows_X7_lays rfl rfl rfl (by decide +kernel) ⟨Nat.le_of_ble_eq_true rfl, Nat.le_of_ble_eq_true rfl⟩) (xpreV hP hD hS hA hK hE [0, 1, 2, 3, 4, 5, 6, 7, 8, 9, 10, 11] rfl rfl 7 0 rfl rfl) rfl rfl hl.1 rfl (lv_room (Nat.le_of_ble_eq_true rfl)) dX7_grows_149 ⟨Nat.le_refl 0, Nat.le_refl 0⟩) hP hD hS hA [0, 1, 2, 3, 4, 5, 6, 7, 8, 9, 10, 11] [] [0, 1, 2, 3, 4, 5, 6, 7, 8, 9, 10, 11] rfl rfl rfl (by decide) rfl (fun _ => rfl) (fun u149 H locs h hP hD hS => ?_)
    refine lv_iinc (v := (y6 + (1 : Int32))) (lv' := [(6, .int (y6 + (1 : Int32))), (5, .int y5), (4, .int y4), (3, .int y3), (2, .int y2), (0, .ref (aN 0)), (1, .int x1)]) hx hb dX7_grows_152 hl (k := 0) rfl rfl (by decide) rfl (fun ls hl => ?_)
    refine lv_goto (tgt := 88) hx hb dX7_grows_155 (by decide) ?_
    exact hk88 y2 y3 y4 y5 (y6 + (1 : Int32)) u149 _ _ _ h hP hD hS hl
  have g88 : ∀ (k43 : (Int32) → (Int32) → (CS) → Prop), (∀ (y2 : Int32) (y3 : Int32) (zN : CS) (H : Heap) (locs : List Loc) (ls : Array Slot), k43 y2 y3 zN → va_P D vwCl (wN cI aN zN) H → va_D A (wN cI aN zN) → va_S A s.heap H locs → lv_has ls 7 [(3, .int y3), (2, .int y2), (0, .ref (aN 0)), (1, .int x1)] → W p l e ({ frames := 1, cells := 0, slots := 0, locals := 25 } : Room) s m ([.ref (aN 0), .int x1] : List Value).toArray below meth c H locs 0 0 (MQ below (va_Qv post (xB D cI cO A (w_X7_grows cI cO aN)) A) ([.ref (aN 0), .int x1] : List Value).toArray s 0 0 A) (F0 m 43 ls [])) → ∀ (k51 : (Int32) → (Int32) → (Int32) → (CS) → Prop), (∀ (y2 : Int32) (y3 : Int32) (y4 : Int32) (zN : CS) (H : Heap) (locs : List Loc) (ls : Array Slot), k51 y2 y3 y4 zN → va_P D vwCl (wN cI aN zN) H → va_D A (wN cI aN zN) → va_S A s.heap H locs → lv_has ls 7 [(4, .int y4), (3, .int y3), (2, .int y2), (0, .ref (aN 0)), (1, .int x1)] → W p l e ({ frames := 1, cells := 0, slots := 0, locals := 25 } : Room) s m ([.ref (aN 0), .int x1] : List Value).toArray below meth c H locs 0 0 (MQ below (va_Qv post (xB D cI cO A (w_X7_grows cI cO aN)) A) ([.ref (aN 0), .int x1] : List Value).toArray s 0 0 A) (F0 m 51 ls [])) → ∀ (n : Nat) (y2 : Int32) (y3 : Int32) (y4 : Int32) (y5 : Int32) (y6 : Int32) (zN : CS) (H : Heap) (locs : List Loc) (ls : Array Slot), qX7_grows_88 post x1 k43 k51 n y2 y3 y4 y5 y6 zN → va_P D vwCl (wN cI aN zN) H → va_D A (wN cI aN zN) → va_S A s.heap H locs → lv_has ls 7 [(6, .int y6), (5, .int y5), (4, .int y4), (3, .int y3), (2, .int y2), (0, .ref (aN 0)), (1, .int x1)] → W p l e ({ frames := 1, cells := 0, slots := 0, locals := 25 } : Room) s m ([.ref (aN 0), .int x1] : List Value).toArray below meth c H locs 0 0 (MQ below (va_Qv post (xB D cI cO A (w_X7_grows cI cO aN)) A) ([.ref (aN 0), .int x1] : List Value).toArray s 0 0 A) (F0 m 88 ls []) := by
    intro k43 hk43 k51 hk51 n
    induction n with
    | zero => intro y2 y3 y4 y5 y6 zN H locs ls h; exact False.elim h
    | succ n hk88 =>
      intro y2 y3 y4 y5 y6 zN H locs ls h hP hD hS hl
      have h : qX7_grows_88b post x1 k43 k51 (qX7_grows_88 post x1 k43 k51 n) y2 y3 y4 y5 y6 zN := h
      refine lv_iload hx hb dX7_grows_88 (lv_at hl 0 rfl) ?_
      refine lv_iload_n hx hb dX7_grows_90 rfl (lv_at hl 4 rfl) ?_
      obtain ⟨hh1, hh2⟩ := h
      refine lv_icmp_ge (tgt := 158) hx hb dX7_grows_91 (by decide) (fun hc => ?_) (fun hc => ?_)
      · have h := hh1 hc
        exact g158 k43 hk43 k51 hk51 y2 y3 y4 y5 y6 zN _ _ _ h hP hD hS hl
      · have h := hh2 hc
        refine lv_aload_n hx hb dX7_grows_94 rfl (lv_at hl 5 rfl) ?_
        refine va_get (D := D) (ci := 7) (v := .ref (aN 4)) (C := RX7) (T := TX7) (N := 14) hx hb hts jX7_grows_X7 hown hK hP 0 rfl rfl 4 (by decide) (hts (.fieldLink RX7 19 "BrotherAutomataModel" "size" "[I") (List.mem_of_getElem? (i := 4) rfl)) (fun _ h9 => h9) rfl dX7_grows_95 ?_
        refine lv_iload hx hb dX7_grows_98 (lv_at hl 0 rfl) ?_
        obtain ⟨hi, h⟩ := h
        refine va_iald hx hb hK hP 4 0 rfl rfl hi dX7_grows_100 ?_
        refine lv_iload hx hb dX7_grows_101 (lv_at hl 1 rfl) ?_
        obtain ⟨hh1, hh2⟩ := h
        refine lv_icmp_ne (tgt := 158) hx hb dX7_grows_103 (by decide) (fun hc => ?_) (fun hc => ?_)
        · have h := hh2 hc
          exact g158 k43 hk43 k51 hk51 y2 y3 y4 y5 y6 zN _ _ _ h hP hD hS hl
        · have h := hh1 hc
          refine lv_aload_n hx hb dX7_grows_106 rfl (lv_at hl 5 rfl) ?_
          refine lv_iload_n hx hb dX7_grows_107 rfl (lv_at hl 3 rfl) ?_
          refine lv_iload hx hb dX7_grows_108 (lv_at hl 2 rfl) ?_
          refine lv_iload hx hb dX7_grows_110 (lv_at hl 0 rfl) ?_
          refine lv_iload_n hx hb dX7_grows_112 rfl (lv_at hl 6 rfl) ?_
          refine lv_aload_n hx hb dX7_grows_113 rfl (lv_at hl 5 rfl) ?_
          refine va_get (D := D) (ci := 7) (v := .ref (aN 5)) (C := RX7) (T := TX7) (N := 14) hx hb hts jX7_grows_X7 hown hK hP 0 rfl rfl 5 (by decide) (hts (.fieldLink RX7 22 "BrotherAutomataModel" "height" "[I") (List.mem_of_getElem? (i := 3) rfl)) (fun _ h9 => h9) rfl dX7_grows_114 ?_
          refine lv_iload hx hb dX7_grows_117 (lv_at hl 2 rfl) ?_
          obtain ⟨hi, h⟩ := h
          refine va_iald hx hb hK hP 5 0 rfl rfl hi dX7_grows_119 ?_
          refine lv_aload_n hx hb dX7_grows_120 rfl (lv_at hl 5 rfl) ?_
          refine va_get (D := D) (ci := 7) (v := .ref (aN 5)) (C := RX7) (T := TX7) (N := 14) hx hb hts jX7_grows_X7 hown hK hP 0 rfl rfl 5 (by decide) (hts (.fieldLink RX7 22 "BrotherAutomataModel" "height" "[I") (List.mem_of_getElem? (i := 3) rfl)) (fun _ h9 => h9) rfl dX7_grows_121 ?_
          refine lv_iload hx hb dX7_grows_124 (lv_at hl 0 rfl) ?_
          obtain ⟨hi, h⟩ := h
          refine va_iald hx hb hK hP 5 0 rfl rfl hi dX7_grows_126 ?_
          obtain ⟨hh1, hh2⟩ := h
          refine lv_icmp_le (tgt := 140) hx hb dX7_grows_127 (by decide) (fun hc => ?_) (fun hc => ?_)
          · have h := hh1 hc
            refine lv_aload_n hx hb dX7_grows_140 rfl (lv_at hl 5 rfl) ?_
            refine va_get (D := D) (ci := 7) (v := .ref (aN 5)) (C := RX7) (T := TX7) (N := 14) hx hb hts jX7_grows_X7 hown hK hP 0 rfl rfl 5 (by decide) (hts (.fieldLink RX7 22 "BrotherAutomataModel" "height" "[I") (List.mem_of_getElem? (i := 3) rfl)) (fun _ h9 => h9) rfl dX7_grows_141 ?_
            refine lv_iload hx hb dX7_grows_144 (lv_at hl 0 rfl) ?_
            obtain ⟨hi, h⟩ := h
            refine va_iald hx hb hK hP 5 0 rfl rfl hi dX7_grows_146 ?_
            exact g147 k43 hk43 k51 hk51 (qX7_grows_88 post x1 k43 k51 n) hk88 y2 y3 y4 y5 y6 y3 y4 y6 x1 ((zN 4) y6.toNatClampNeg) zN _ _ _ h hP hD hS hl
          · have h := hh2 hc
            refine lv_aload_n hx hb dX7_grows_130 rfl (lv_at hl 5 rfl) ?_
            refine va_get (D := D) (ci := 7) (v := .ref (aN 5)) (C := RX7) (T := TX7) (N := 14) hx hb hts jX7_grows_X7 hown hK hP 0 rfl rfl 5 (by decide) (hts (.fieldLink RX7 22 "BrotherAutomataModel" "height" "[I") (List.mem_of_getElem? (i := 3) rfl)) (fun _ h9 => h9) rfl dX7_grows_131 ?_
            refine lv_iload hx hb dX7_grows_134 (lv_at hl 2 rfl) ?_
            obtain ⟨hi, h⟩ := h
            refine va_iald hx hb hK hP 5 0 rfl rfl hi dX7_grows_136 ?_
            refine lv_goto (tgt := 147) hx hb dX7_grows_137 (by decide) ?_
            exact g147 k43 hk43 k51 hk51 (qX7_grows_88 post x1 k43 k51 n) hk88 y2 y3 y4 y5 y6 y3 y4 y6 x1 ((zN 4) y4.toNatClampNeg) zN _ _ _ h hP hD hS hl
  have g86 : ∀ (k43 : (Int32) → (Int32) → (CS) → Prop), (∀ (y2 : Int32) (y3 : Int32) (zN : CS) (H : Heap) (locs : List Loc) (ls : Array Slot), k43 y2 y3 zN → va_P D vwCl (wN cI aN zN) H → va_D A (wN cI aN zN) → va_S A s.heap H locs → lv_has ls 7 [(3, .int y3), (2, .int y2), (0, .ref (aN 0)), (1, .int x1)] → W p l e ({ frames := 1, cells := 0, slots := 0, locals := 25 } : Room) s m ([.ref (aN 0), .int x1] : List Value).toArray below meth c H locs 0 0 (MQ below (va_Qv post (xB D cI cO A (w_X7_grows cI cO aN)) A) ([.ref (aN 0), .int x1] : List Value).toArray s 0 0 A) (F0 m 43 ls [])) → ∀ (k51 : (Int32) → (Int32) → (Int32) → (CS) → Prop), (∀ (y2 : Int32) (y3 : Int32) (y4 : Int32) (zN : CS) (H : Heap) (locs : List Loc) (ls : Array Slot), k51 y2 y3 y4 zN → va_P D vwCl (wN cI aN zN) H → va_D A (wN cI aN zN) → va_S A s.heap H locs → lv_has ls 7 [(4, .int y4), (3, .int y3), (2, .int y2), (0, .ref (aN 0)), (1, .int x1)] → W p l e ({ frames := 1, cells := 0, slots := 0, locals := 25 } : Room) s m ([.ref (aN 0), .int x1] : List Value).toArray below meth c H locs 0 0 (MQ below (va_Qv post (xB D cI cO A (w_X7_grows cI cO aN)) A) ([.ref (aN 0), .int x1] : List Value).toArray s 0 0 A) (F0 m 51 ls [])) → ∀ (y2 : Int32) (y3 : Int32) (y4 : Int32) (y5 : Int32) (w0 : Int32) (zN : CS) (H : Heap) (locs : List Loc) (ls : Array Slot), qX7_grows_86 post x1 k43 k51 y2 y3 y4 y5 w0 zN → va_P D vwCl (wN cI aN zN) H → va_D A (wN cI aN zN) → va_S A s.heap H locs → lv_has ls 7 [(5, .int y5), (4, .int y4), (3, .int y3), (2, .int y2), (0, .ref (aN 0)), (1, .int x1)] → W p l e ({ frames := 1, cells := 0, slots := 0, locals := 25 } : Room) s m ([.ref (aN 0), .int x1] : List Value).toArray below meth c H locs 0 0 (MQ below (va_Qv post (xB D cI cO A (w_X7_grows cI cO aN)) A) ([.ref (aN 0), .int x1] : List Value).toArray s 0 0 A) (F0 m 86 ls [.int w0]) := by
    intro k43 hk43 k51 hk51 y2 y3 y4 y5 w0 zN H locs ls h hP hD hS hl
    refine lv_istore (lv' := [(6, .int w0), (5, .int y5), (4, .int y4), (3, .int y3), (2, .int y2), (0, .ref (aN 0)), (1, .int x1)]) hx hb dX7_grows_86 hl (by decide) rfl (fun ls hl => ?_)
    obtain ⟨n0, h⟩ := h
    exact g88 k43 hk43 k51 hk51 n0 y2 y3 y4 y5 w0 zN _ _ _ h hP hD hS hl
  have g51 : ∀ (k43 : (Int32) → (Int32) → (CS) → Prop), (∀ (y2 : Int32) (y3 : Int32) (zN : CS) (H : Heap) (locs : List Loc) (ls : Array Slot), k43 y2 y3 zN → va_P D vwCl (wN cI aN zN) H → va_D A (wN cI aN zN) → va_S A s.heap H locs → lv_has ls 7 [(3, .int y3), (2, .int y2), (0, .ref (aN 0)), (1, .int x1)] → W p l e ({ frames := 1, cells := 0, slots := 0, locals := 25 } : Room) s m ([.ref (aN 0), .int x1] : List Value).toArray below meth c H locs 0 0 (MQ below (va_Qv post (xB D cI cO A (w_X7_grows cI cO aN)) A) ([.ref (aN 0), .int x1] : List Value).toArray s 0 0 A) (F0 m 43 ls [])) → ∀ (n : Nat) (y2 : Int32) (y3 : Int32) (y4 : Int32) (zN : CS) (H : Heap) (locs : List Loc) (ls : Array Slot), qX7_grows_51 post x1 k43 n y2 y3 y4 zN → va_P D vwCl (wN cI aN zN) H → va_D A (wN cI aN zN) → va_S A s.heap H locs → lv_has ls 7 [(4, .int y4), (3, .int y3), (2, .int y2), (0, .ref (aN 0)), (1, .int x1)] → W p l e ({ frames := 1, cells := 0, slots := 0, locals := 25 } : Room) s m ([.ref (aN 0), .int x1] : List Value).toArray below meth c H locs 0 0 (MQ below (va_Qv post (xB D cI cO A (w_X7_grows cI cO aN)) A) ([.ref (aN 0), .int x1] : List Value).toArray s 0 0 A) (F0 m 51 ls []) := by
    intro k43 hk43 n
    induction n with
    | zero => intro y2 y3 y4 zN H locs ls h; exact False.elim h
    | succ n hk51 =>
      intro y2 y3 y4 zN H locs ls h hP hD hS hl
      have h : qX7_grows_51b post x1 k43 (qX7_grows_51 post x1 k43 n) y2 y3 y4 zN := h
      refine lv_iload hx hb dX7_grows_51 (lv_at hl 0 rfl) ?_
      refine lv_iload_n hx hb dX7_grows_53 rfl (lv_at hl 2 rfl) ?_
      obtain ⟨hh1, hh2⟩ := h
      refine lv_icmp_ge (tgt := 164) hx hb dX7_grows_54 (by decide) (fun hc => ?_) (fun hc => ?_)
      · have h := hh1 hc
        refine lv_iinc (v := (y3 + (1 : Int32))) (lv' := [(3, .int (y3 + (1 : Int32))), (4, .int y4), (2, .int y2), (0, .ref (aN 0)), (1, .int x1)]) hx hb dX7_grows_164 hl (k := 1) rfl rfl (by decide) rfl (fun ls hl => ?_)
        refine lv_goto (tgt := 43) hx hb dX7_grows_167 (by decide) ?_
        exact hk43 y2 (y3 + (1 : Int32)) zN _ _ _ h hP hD hS (lv_sub hl [0, 2, 3, 4] rfl)
      · have h := hh2 hc
        refine lv_iload_n hx hb dX7_grows_57 rfl (lv_at hl 4 rfl) ?_
        refine lv_iconst (v := 1) hx hb dX7_grows_58 (by decide) ?_
        refine lv_isub hx hb dX7_grows_59 ?_
        refine lv_aload_n hx hb dX7_grows_60 rfl (lv_at hl 3 rfl) ?_
        refine va_get (D := D) (ci := 7) (v := .ref (aN 4)) (C := RX7) (T := TX7) (N := 14) hx hb hts jX7_grows_X7 hown hK hP 0 rfl rfl 4 (by decide) (hts (.fieldLink RX7 19 "BrotherAutomataModel" "size" "[I") (List.mem_of_getElem? (i := 4) rfl)) (fun _ h9 => h9) rfl dX7_grows_61 ?_
        refine lv_iload hx hb dX7_grows_64 (lv_at hl 0 rfl) ?_
        obtain ⟨hi, h⟩ := h
        refine va_iald hx hb hK hP 4 0 rfl rfl hi dX7_grows_66 ?_
        refine lv_isub hx hb dX7_grows_67 ?_
        refine lv_istore (lv' := [(5, .int ((x1 - (1 : Int32)) - ((zN 3) y4.toNatClampNeg))), (4, .int y4), (3, .int y3), (2, .int y2), (0, .ref (aN 0)), (1, .int x1)]) hx hb dX7_grows_68 hl (by decide) rfl (fun ls hl => ?_)
        refine lv_iload hx hb dX7_grows_70 (lv_at hl 0 rfl) ?_
        obtain ⟨hh1, hh2⟩ := h
        refine lv_if_le (tgt := 85) hx hb dX7_grows_72 (by decide) (fun hc => ?_) (fun hc => ?_)
        · have h := hh1 hc
          refine lv_iload_n hx hb dX7_grows_85 rfl (lv_at hl 3 rfl) ?_
          exact g86 k43 hk43 (qX7_grows_51 post x1 k43 n) hk51 y2 y3 y4 ((x1 - (1 : Int32)) - ((zN 3) y4.toNatClampNeg)) y2 zN _ _ _ h hP hD hS hl
        · have h := hh2 hc
          refine lv_aload_n hx hb dX7_grows_75 rfl (lv_at hl 4 rfl) ?_
          refine va_get (D := D) (ci := 7) (v := .ref (aN 6)) (C := RX7) (T := TX7) (N := 14) hx hb hts jX7_grows_X7 hown hK hP 0 rfl rfl 6 (by decide) (hts (.fieldLink RX7 25 "BrotherAutomataModel" "begin" "[I") (List.mem_of_getElem? (i := 2) rfl)) (fun _ h9 => h9) rfl dX7_grows_76 ?_
          refine lv_iload hx hb dX7_grows_79 (lv_at hl 0 rfl) ?_
          obtain ⟨hi, h⟩ := h
          refine va_iald hx hb hK hP 6 0 rfl rfl hi dX7_grows_81 ?_
          refine lv_goto (tgt := 86) hx hb dX7_grows_82 (by decide) ?_
          exact g86 k43 hk43 (qX7_grows_51 post x1 k43 n) hk51 y2 y3 y4 ((x1 - (1 : Int32)) - ((zN 3) y4.toNatClampNeg)) ((zN 5) ((x1 - (1 : Int32)) - ((zN 3) y4.toNatClampNeg)).toNatClampNeg) zN _ _ _ h hP hD hS hl
  have g43 : ∀ (n : Nat) (y2 : Int32) (y3 : Int32) (zN : CS) (H : Heap) (locs : List Loc) (ls : Array Slot), qX7_grows_43 post x1 n y2 y3 zN → va_P D vwCl (wN cI aN zN) H → va_D A (wN cI aN zN) → va_S A s.heap H locs → lv_has ls 7 [(3, .int y3), (2, .int y2), (0, .ref (aN 0)), (1, .int x1)] → W p l e ({ frames := 1, cells := 0, slots := 0, locals := 25 } : Room) s m ([.ref (aN 0), .int x1] : List Value).toArray below meth c H locs 0 0 (MQ below (va_Qv post (xB D cI cO A (w_X7_grows cI cO aN)) A) ([.ref (aN 0), .int x1] : List Value).toArray s 0 0 A) (F0 m 43 ls []) := by
    intro n
    induction n with
    | zero => intro y2 y3 zN H locs ls h; exact False.elim h
    | succ n hk43 =>
      intro y2 y3 zN H locs ls h hP hD hS hl
      have h : qX7_grows_43b post x1 (qX7_grows_43 post x1 n) y2 y3 zN := h
      refine lv_iload_n hx hb dX7_grows_43 rfl (lv_at hl 0 rfl) ?_
      refine lv_iconst (v := 5) hx hb dX7_grows_44 (by decide) ?_
      obtain ⟨hh1, hh2⟩ := h
      refine lv_icmp_ge (tgt := 170) hx hb dX7_grows_45 (by decide) (fun hc => ?_) (fun hc => ?_)
      · have h := hh1 hc
        exact xvret (w := (w_X7_grows cI cO aN)) (zN) hx hb hr hlocks h hP hK hD hS dX7_grows_170
      · have h := hh2 hc
        refine lv_iconst (v := 0) hx hb dX7_grows_48 (by decide) ?_
        refine lv_istore (lv' := [(4, .int (0 : Int32)), (3, .int y3), (2, .int y2), (0, .ref (aN 0)), (1, .int x1)]) hx hb dX7_grows_49 hl (by decide) rfl (fun ls hl => ?_)
        obtain ⟨n0, h⟩ := h
        exact g51 (qX7_grows_43 post x1 n) hk43 n0 y2 y3 (0 : Int32) zN _ _ _ h hP hD hS hl
  have g14 : ∀ (n : Nat) (y2 : Int32) (y3 : Int32) (zN : CS) (H : Heap) (locs : List Loc) (ls : Array Slot), qX7_grows_14 post x1 n y2 y3 zN → va_P D vwCl (wN cI aN zN) H → va_D A (wN cI aN zN) → va_S A s.heap H locs → lv_has ls 7 [(3, .int y3), (2, .int y2), (0, .ref (aN 0)), (1, .int x1)] → W p l e ({ frames := 1, cells := 0, slots := 0, locals := 25 } : Room) s m ([.ref (aN 0), .int x1] : List Value).toArray below meth c H locs 0 0 (MQ below (va_Qv post (xB D cI cO A (w_X7_grows cI cO aN)) A) ([.ref (aN 0), .int x1] : List Value).toArray s 0 0 A) (F0 m 14 ls []) := by
    intro n
    induction n with
    | zero => intro y2 y3 zN H locs ls h; exact False.elim h
    | succ n hk14 =>
      intro y2 y3 zN H locs ls h hP hD hS hl
      have h : qX7_grows_14b post x1 (qX7_grows_14 post x1 n) y2 y3 zN := h
      refine lv_iload_n hx hb dX7_grows_14 rfl (lv_at hl 0 rfl) ?_
      refine lv_iload_n hx hb dX7_grows_15 rfl (lv_at hl 1 rfl) ?_
      obtain ⟨hh1, hh2⟩ := h
      refine lv_icmp_ge (tgt := 41) hx hb dX7_grows_16 (by decide) (fun hc => ?_) (fun hc => ?_)
      · have h := hh1 hc
        refine lv_iconst (v := 3) hx hb dX7_grows_41 (by decide) ?_
        refine lv_istore_n (lv' := [(3, .int (3 : Int32)), (2, .int y2), (0, .ref (aN 0)), (1, .int x1)]) hx hb dX7_grows_42 rfl hl (by decide) rfl (fun ls hl => ?_)
        obtain ⟨n0, h⟩ := h
        exact g43 n0 y2 (3 : Int32) zN _ _ _ h hP hD hS hl
      · have h := hh2 hc
        refine lv_aload_n hx hb dX7_grows_19 rfl (lv_at hl 2 rfl) ?_
        refine lv_iconst (v := 2) hx hb dX7_grows_20 (by decide) ?_
        refine lv_iload_n hx hb dX7_grows_21 rfl (lv_at hl 0 rfl) ?_
        refine lv_iconst (v := 0) hx hb dX7_grows_22 (by decide) ?_
        refine lv_iload_n hx hb dX7_grows_23 rfl (lv_at hl 3 rfl) ?_
        refine lv_aload_n hx hb dX7_grows_24 rfl (lv_at hl 2 rfl) ?_
        refine va_get (D := D) (ci := 7) (v := .ref (aN 5)) (C := RX7) (T := TX7) (N := 14) hx hb hts jX7_grows_X7 hown hK hP 0 rfl rfl 5 (by decide) (hts (.fieldLink RX7 22 "BrotherAutomataModel" "height" "[I") (List.mem_of_getElem? (i := 3) rfl)) (fun _ h9 => h9) rfl dX7_grows_25 ?_
        refine lv_iload_n hx hb dX7_grows_28 rfl (lv_at hl 0 rfl) ?_
        obtain ⟨hi, h⟩ := h
        refine va_iald hx hb hK hP 5 0 rfl rfl hi dX7_grows_29 ?_
        refine lv_iconst (v := 1) hx hb dX7_grows_30 (by decide) ?_
        refine lv_iadd hx hb dX7_grows_31 ?_
        refine xcallv (wr := ([] : va_W)) (w2 := fun (u32 : (CS)) => (wN cI aN u32)) (va_runV (As := [.int (2 : Int32), .int y3, .int (0 : Int32), .int x1, .int (((zN 4) y3.toNatClampNeg) + (1 : Int32))]) (rest := []) ⟨hx, hb, hml, hown, hts⟩ (mX7_lays l D cI cO tA tS aN zN (2 : Int32) y3 (0 : Int32) x1 (((zN 4) y3.toNatClampNeg) + (1 : Int32)) _ h) (cwV 5 hts gX7_grows_X7_lays rfl rfl rfl (by decide +kernel) ⟨Nat.le_of_ble_eq_true rfl, Nat.le_of_ble_eq_true rfl⟩) (xpreV hP hD hS hA hK hE [0, 1, 2, 3, 4, 5, 6, 7, 8, 9, 10, 11] rfl rfl 7 0 rfl rfl) rfl rfl hl.1 rfl (lv_room (Nat.le_of_ble_eq_true rfl)) dX7_grows_32 ⟨Nat.le_refl 0, Nat.le_refl 0⟩) hP hD hS hA [0, 1, 2, 3, 4, 5, 6, 7, 8, 9, 10, 11] [] [0, 1, 2, 3, 4, 5, 6, 7, 8, 9, 10, 11] rfl rfl rfl (by decide) rfl (fun _ => rfl) (fun u32 H locs h hP hD hS => ?_)
        refine lv_iinc (v := (y3 + (1 : Int32))) (lv' := [(3, .int (y3 + (1 : Int32))), (2, .int y2), (0, .ref (aN 0)), (1, .int x1)]) hx hb dX7_grows_35 hl (k := 0) rfl rfl (by decide) rfl (fun ls hl => ?_)
        refine lv_goto (tgt := 14) hx hb dX7_grows_38 (by decide) ?_
        exact hk14 y2 (y3 + (1 : Int32)) u32 _ _ _ h hP hD hS hl
  refine lv_aload_n hx hb dX7_grows_0 rfl (lv_at hl 0 rfl) ?_
  refine va_get (D := D) (ci := 7) (v := .int (zN 11 0)) (C := RX7) (T := TX7) (N := 14) hx hb hts jX7_grows_X7 hown hK hP 0 rfl rfl 0 (by decide) (hts (.fieldLink RX7 47 "BrotherAutomataModel" "trees" "I") (List.mem_of_getElem? (i := 1) rfl)) (fun _ h9 => h9) rfl dX7_grows_1 ?_
  refine lv_istore_n (lv' := [(2, .int (zN 11 0)), (0, .ref (aN 0)), (1, .int x1)]) hx hb dX7_grows_4 rfl hl (by decide) rfl (fun ls hl => ?_)
  refine lv_aload_n hx hb dX7_grows_5 rfl (lv_at hl 1 rfl) ?_
  refine va_get (D := D) (ci := 7) (v := .ref (aN 6)) (C := RX7) (T := TX7) (N := 14) hx hb hts jX7_grows_X7 hown hK hP 0 rfl rfl 6 (by decide) (hts (.fieldLink RX7 25 "BrotherAutomataModel" "begin" "[I") (List.mem_of_getElem? (i := 2) rfl)) (fun _ h9 => h9) rfl dX7_grows_6 ?_
  refine lv_iload_n hx hb dX7_grows_9 rfl (lv_at hl 2 rfl) ?_
  refine lv_iconst (v := 1) hx hb dX7_grows_10 (by decide) ?_
  refine lv_isub hx hb dX7_grows_11 ?_
  obtain ⟨hi, h⟩ := h
  refine va_iald hx hb hK hP 6 0 rfl rfl hi dX7_grows_12 ?_
  refine lv_istore_n (lv' := [(3, .int ((zN 5) (x1 - (1 : Int32)).toNatClampNeg)), (2, .int (zN 11 0)), (0, .ref (aN 0)), (1, .int x1)]) hx hb dX7_grows_13 rfl hl (by decide) rfl (fun ls hl => ?_)
  obtain ⟨n0, h⟩ := h
  exact g14 n0 (zN 11 0) ((zN 5) (x1 - (1 : Int32)).toNatClampNeg) zN _ _ _ h hP hD hS hl
theorem dX7_in_0 : decode cX7_in 0 = .ok (.iload_n 0, 1) := by decide +kernel
theorem dX7_in_1 : decode cX7_in 1 = .ok (.iload_n 1, 1) := by decide +kernel
theorem dX7_in_2 : decode cX7_in 2 = .ok (.if_icmp .lt 12, 3) := by decide +kernel
theorem dX7_in_5 : decode cX7_in 5 = .ok (.iload_n 0, 1) := by decide +kernel
theorem dX7_in_6 : decode cX7_in 6 = .ok (.iload_n 2, 1) := by decide +kernel
theorem dX7_in_7 : decode cX7_in 7 = .ok (.if_icmp .gt 7, 3) := by decide +kernel
theorem dX7_in_10 : decode cX7_in 10 = .ok (.iconst 1, 1) := by decide +kernel
theorem dX7_in_11 : decode cX7_in 11 = .ok (.goto 4, 3) := by decide +kernel
theorem dX7_in_14 : decode cX7_in 14 = .ok (.iconst 0, 1) := by decide +kernel
theorem dX7_in_15 : decode cX7_in 15 = .ok (.ireturn, 1) := by decide +kernel
abbrev w_X7_in (cI cO : ClassId)   : (Unit) → va_W := fun u => ([] : va_W)
set_option maxRecDepth 100000 in
set_option maxHeartbeats 8000000 in
theorem mX7_in (l : Launch) (D : va_G) (cI cO : ClassId) (tA tS : Nat)   (x0 : Int32) (x1 : Int32) (x2 : Int32) (sz : Nat) {post : Int32 → (Unit) → Prop} (h : qX7_in post x0 x1 x2) : Met l yX7_in wsX7_in ({ frames := 0, cells := 0, slots := 0, locals := 0 } : Room) (xPre D cI cO tA tS [.int x0, .int x1, .int x2] ([] : va_W) sz) (va_Qi post (xB D cI cO (va_A ([] : va_W) sz) (w_X7_in cI cO)) (va_A ([] : va_W) sz)) 0 0 (va_A ([] : va_W) sz) := by
  refine xMet D cI cO tA tS (fun A => va_Qi post (xB D cI cO A (w_X7_in cI cO)) A) (cc := cX7_in) (maxL := 3) (ret := (some .boolean)) (by decide) rfl (Nat.le_of_ble_eq_true rfl) ?_
  intro p e s m below meth c A ls hx hb hr hts hown hlocks hin hml hA hS hP hK hD hE hl
  have hown : s.vm.findClass RX7 = some m.cls := hown
  have hl : lv_has ls 3 [(0, .int x0), (1, .int x1), (2, .int x2)] := hl
  have g14 : ∀  (H : Heap) (locs : List Loc) (ls : Array Slot), qX7_in_14 post x0 x1 x2  → va_P D vwCl ([] : va_W) H → va_D A ([] : va_W) → va_S A s.heap H locs → lv_has ls 3 [(0, .int x0), (1, .int x1), (2, .int x2)] → W p l e ({ frames := 0, cells := 0, slots := 0, locals := 0 } : Room) s m ([.int x0, .int x1, .int x2] : List Value).toArray below meth c H locs 0 0 (MQ below (va_Qi post (xB D cI cO A (w_X7_in cI cO)) A) ([.int x0, .int x1, .int x2] : List Value).toArray s 0 0 A) (F0 m 14 ls []) := by
    intro  H locs ls h hP hD hS hl
    refine lv_iconst (v := 0) hx hb dX7_in_14 (by decide) ?_
    exact xzret (w := (w_X7_in cI cO)) () hx hb hr hlocks rfl h hP hK hD hS dX7_in_15
  refine lv_iload_n hx hb dX7_in_0 rfl (lv_at hl 0 rfl) ?_
  refine lv_iload_n hx hb dX7_in_1 rfl (lv_at hl 1 rfl) ?_
  obtain ⟨hh1, hh2⟩ := h
  refine lv_icmp_lt (tgt := 14) hx hb dX7_in_2 (by decide) (fun hc => ?_) (fun hc => ?_)
  · have h := hh1 hc
    exact g14  _ _ _ h hP hD hS hl
  · have h := hh2 hc
    refine lv_iload_n hx hb dX7_in_5 rfl (lv_at hl 0 rfl) ?_
    refine lv_iload_n hx hb dX7_in_6 rfl (lv_at hl 2 rfl) ?_
    obtain ⟨hh1, hh2⟩ := h
    refine lv_icmp_gt (tgt := 14) hx hb dX7_in_7 (by decide) (fun hc => ?_) (fun hc => ?_)
    · have h := hh1 hc
      exact g14  _ _ _ h hP hD hS hl
    · have h := hh2 hc
      refine lv_iconst (v := 1) hx hb dX7_in_10 (by decide) ?_
      refine lv_goto (tgt := 15) hx hb dX7_in_11 (by decide) ?_
      exact xzret (w := (w_X7_in cI cO)) () hx hb hr hlocks rfl h hP hK hD hS dX7_in_15
set_option maxRecDepth 20000 in
theorem ggX7_isState_X7_in : GoodIn wsX7_isState wsX7_in := goodIn_r _ [5] (by decide +kernel) (by decide +kernel)
set_option maxRecDepth 20000 in
theorem gX7_isState_X7_in : GoodIn wsX7_isState (va_wsS RX7 58 yX7_in wsX7_in) := goodIn_app (goodIn_of _ (by decide +kernel)) ggX7_isState_X7_in
theorem dX7_isState_0 : decode cX7_isState 0 = .ok (.iload_n 1, 1) := by decide +kernel
theorem dX7_isState_1 : decode cX7_isState 1 = .ok (.iconst 0, 1) := by decide +kernel
theorem dX7_isState_2 : decode cX7_isState 2 = .ok (.aload_n 0, 1) := by decide +kernel
theorem dX7_isState_3 : decode cX7_isState 3 = .ok (.getfield 31, 3) := by decide +kernel
theorem dX7_isState_6 : decode cX7_isState 6 = .ok (.iconst 1, 1) := by decide +kernel
theorem dX7_isState_7 : decode cX7_isState 7 = .ok (.isub, 1) := by decide +kernel
theorem dX7_isState_8 : decode cX7_isState 8 = .ok (.invokestatic 58, 3) := by decide +kernel
theorem dX7_isState_11 : decode cX7_isState 11 = .ok (.ireturn, 1) := by decide +kernel
theorem jX7_isState_X7 : ∀ w ∈ wsX70, w ∈ wsX7_isState := by decide +kernel
abbrev w_X7_isState (cI cO : ClassId) (aN : Nat → Nat) (zN : CS) : (Unit) → va_W := fun u => (wN cI aN zN)
set_option maxRecDepth 100000 in
set_option maxHeartbeats 8000000 in
theorem mX7_isState (l : Launch) (D : va_G) (cI cO : ClassId) (tA tS : Nat) (aN : Nat → Nat) (zN : CS) (x1 : Int32) (sz : Nat) {post : Int32 → (Unit) → Prop} (h : qX7_isState post x1 zN) : Met l yX7_isState wsX7_isState ({ frames := 1, cells := 0, slots := 0, locals := 22 } : Room) (xPre D cI cO tA tS [.ref (aN 0), .int x1] (wN cI aN zN) sz) (va_Qi post (xB D cI cO (va_A (wN cI aN zN) sz) (w_X7_isState cI cO aN zN)) (va_A (wN cI aN zN) sz)) 0 0 (va_A (wN cI aN zN) sz) := by
  refine xMet D cI cO tA tS (fun A => va_Qi post (xB D cI cO A (w_X7_isState cI cO aN zN)) A) (cc := cX7_isState) (maxL := 2) (ret := (some .boolean)) (by decide) rfl (Nat.le_of_ble_eq_true rfl) ?_
  intro p e s m below meth c A ls hx hb hr hts hown hlocks hin hml hA hS hP hK hD hE hl
  have hown : s.vm.findClass RX7 = some m.cls := hown
  have hl : lv_has ls 2 [(0, .ref (aN 0)), (1, .int x1)] := hl
  refine lv_iload_n hx hb dX7_isState_0 rfl (lv_at hl 1 rfl) ?_
  refine lv_iconst (v := 0) hx hb dX7_isState_1 (by decide) ?_
  refine lv_aload_n hx hb dX7_isState_2 rfl (lv_at hl 0 rfl) ?_
  refine va_get (D := D) (ci := 7) (v := .int (zN 11 1)) (C := RX7) (T := TX7) (N := 14) hx hb hts jX7_isState_X7 hown hK hP 0 rfl rfl 8 (by decide) (hts (.fieldLink RX7 31 "BrotherAutomataModel" "states" "I") (List.mem_of_getElem? (i := 1) rfl)) (fun _ h9 => h9) rfl dX7_isState_3 ?_
  refine lv_iconst (v := 1) hx hb dX7_isState_6 (by decide) ?_
  refine lv_isub hx hb dX7_isState_7 ?_
  refine xcalli (wr := (wN cI aN zN)) (w2 := fun (u8 : Unit) => (wN cI aN zN)) (va_runS (As := [.int x1, .int (0 : Int32), .int ((zN 11 1) - (1 : Int32))]) (rest := []) ⟨hx, hb, hml, hown, hts⟩ (mX7_in l D cI cO tA tS x1 (0 : Int32) ((zN 11 1) - (1 : Int32)) _ h) (va_cwS 3 hts gX7_isState_X7_in rfl rfl rfl (by decide +kernel) ⟨Nat.le_of_ble_eq_true rfl, Nat.le_of_ble_eq_true rfl⟩) (xpreP hP hD hS hA hK hE [] rfl rfl) rfl rfl hl.1 rfl (lv_room (Nat.le_of_ble_eq_true rfl)) dX7_isState_8 ⟨Nat.le_refl 0, Nat.le_refl 0⟩) hP hD hS hA [] [0, 1, 2, 3, 4, 5, 6, 7, 8, 9, 10, 11] [0, 1, 2, 3, 4, 5, 6, 7, 8, 9, 10, 11] rfl rfl rfl (by decide) rfl (fun _ => rfl) (fun r8 u8 H locs h hP hD hS => ?_)
  obtain ⟨hn, h⟩ := h
  exact xzret (w := (w_X7_isState cI cO aN zN)) () hx hb hr hlocks hn h hP hK hD hS dX7_isState_11
theorem dX7_arity_0 : decode cX7_arity 0 = .ok (.iload_n 0, 1) := by decide +kernel
theorem dX7_arity_1 : decode cX7_arity 1 = .ok (.iconst 2, 1) := by decide +kernel
theorem dX7_arity_2 : decode cX7_arity 2 = .ok (.if_icmp .ge 7, 3) := by decide +kernel
theorem dX7_arity_5 : decode cX7_arity 5 = .ok (.iconst 0, 1) := by decide +kernel
theorem dX7_arity_6 : decode cX7_arity 6 = .ok (.goto 13, 3) := by decide +kernel
theorem dX7_arity_9 : decode cX7_arity 9 = .ok (.iload_n 0, 1) := by decide +kernel
theorem dX7_arity_10 : decode cX7_arity 10 = .ok (.iconst 3, 1) := by decide +kernel
theorem dX7_arity_11 : decode cX7_arity 11 = .ok (.if_icmp .ge 7, 3) := by decide +kernel
theorem dX7_arity_14 : decode cX7_arity 14 = .ok (.iconst 1, 1) := by decide +kernel
theorem dX7_arity_15 : decode cX7_arity 15 = .ok (.goto 4, 3) := by decide +kernel
theorem dX7_arity_18 : decode cX7_arity 18 = .ok (.iconst 2, 1) := by decide +kernel
theorem dX7_arity_19 : decode cX7_arity 19 = .ok (.ireturn, 1) := by decide +kernel
abbrev w_X7_arity (cI cO : ClassId)   : (Unit) → va_W := fun u => ([] : va_W)
set_option maxRecDepth 100000 in
set_option maxHeartbeats 8000000 in
theorem mX7_arity (l : Launch) (D : va_G) (cI cO : ClassId) (tA tS : Nat)   (x0 : Int32) (sz : Nat) {post : Int32 → (Unit) → Prop} (h : qX7_arity post x0) : Met l yX7_arity wsX7_arity ({ frames := 0, cells := 0, slots := 0, locals := 0 } : Room) (xPre D cI cO tA tS [.int x0] ([] : va_W) sz) (va_Qi post (xB D cI cO (va_A ([] : va_W) sz) (w_X7_arity cI cO)) (va_A ([] : va_W) sz)) 0 0 (va_A ([] : va_W) sz) := by
  refine xMet D cI cO tA tS (fun A => va_Qi post (xB D cI cO A (w_X7_arity cI cO)) A) (cc := cX7_arity) (maxL := 1) (ret := (some .int)) (by decide) rfl (Nat.le_of_ble_eq_true rfl) ?_
  intro p e s m below meth c A ls hx hb hr hts hown hlocks hin hml hA hS hP hK hD hE hl
  have hown : s.vm.findClass RX7 = some m.cls := hown
  have hl : lv_has ls 1 [(0, .int x0)] := hl
  refine lv_iload_n hx hb dX7_arity_0 rfl (lv_at hl 0 rfl) ?_
  refine lv_iconst (v := 2) hx hb dX7_arity_1 (by decide) ?_
  obtain ⟨hh1, hh2⟩ := h
  refine lv_icmp_ge (tgt := 9) hx hb dX7_arity_2 (by decide) (fun hc => ?_) (fun hc => ?_)
  · have h := hh1 hc
    refine lv_iload_n hx hb dX7_arity_9 rfl (lv_at hl 0 rfl) ?_
    refine lv_iconst (v := 3) hx hb dX7_arity_10 (by decide) ?_
    obtain ⟨hh1, hh2⟩ := h
    refine lv_icmp_ge (tgt := 18) hx hb dX7_arity_11 (by decide) (fun hc => ?_) (fun hc => ?_)
    · have h := hh1 hc
      refine lv_iconst (v := 2) hx hb dX7_arity_18 (by decide) ?_
      exact xiret (w := (w_X7_arity cI cO)) () hx hb hr hlocks h hP hK hD hS dX7_arity_19
    · have h := hh2 hc
      refine lv_iconst (v := 1) hx hb dX7_arity_14 (by decide) ?_
      refine lv_goto (tgt := 19) hx hb dX7_arity_15 (by decide) ?_
      exact xiret (w := (w_X7_arity cI cO)) () hx hb hr hlocks h hP hK hD hS dX7_arity_19
  · have h := hh2 hc
    refine lv_iconst (v := 0) hx hb dX7_arity_5 (by decide) ?_
    refine lv_goto (tgt := 19) hx hb dX7_arity_6 (by decide) ?_
    exact xiret (w := (w_X7_arity cI cO)) () hx hb hr hlocks h hP hK hD hS dX7_arity_19
theorem dX7_has_0 : decode cX7_has 0 = .ok (.iload_n 0, 1) := by decide +kernel
theorem dX7_has_1 : decode cX7_has 1 = .ok (.iload_n 1, 1) := by decide +kernel
theorem dX7_has_2 : decode cX7_has 2 = .ok (.ishr, 1) := by decide +kernel
theorem dX7_has_3 : decode cX7_has 3 = .ok (.iconst 1, 1) := by decide +kernel
theorem dX7_has_4 : decode cX7_has 4 = .ok (.iand, 1) := by decide +kernel
theorem dX7_has_5 : decode cX7_has 5 = .ok (.iconst 1, 1) := by decide +kernel
theorem dX7_has_6 : decode cX7_has 6 = .ok (.if_icmp .ne 7, 3) := by decide +kernel
theorem dX7_has_9 : decode cX7_has 9 = .ok (.iconst 1, 1) := by decide +kernel
theorem dX7_has_10 : decode cX7_has 10 = .ok (.goto 4, 3) := by decide +kernel
theorem dX7_has_13 : decode cX7_has 13 = .ok (.iconst 0, 1) := by decide +kernel
theorem dX7_has_14 : decode cX7_has 14 = .ok (.ireturn, 1) := by decide +kernel
abbrev w_X7_has (cI cO : ClassId)   : (Unit) → va_W := fun u => ([] : va_W)
set_option maxRecDepth 100000 in
set_option maxHeartbeats 8000000 in
theorem mX7_has (l : Launch) (D : va_G) (cI cO : ClassId) (tA tS : Nat)   (x0 : Int32) (x1 : Int32) (sz : Nat) {post : Int32 → (Unit) → Prop} (h : qX7_has post x0 x1) : Met l yX7_has wsX7_has ({ frames := 0, cells := 0, slots := 0, locals := 0 } : Room) (xPre D cI cO tA tS [.int x0, .int x1] ([] : va_W) sz) (va_Qi post (xB D cI cO (va_A ([] : va_W) sz) (w_X7_has cI cO)) (va_A ([] : va_W) sz)) 0 0 (va_A ([] : va_W) sz) := by
  refine xMet D cI cO tA tS (fun A => va_Qi post (xB D cI cO A (w_X7_has cI cO)) A) (cc := cX7_has) (maxL := 2) (ret := (some .boolean)) (by decide) rfl (Nat.le_of_ble_eq_true rfl) ?_
  intro p e s m below meth c A ls hx hb hr hts hown hlocks hin hml hA hS hP hK hD hE hl
  have hown : s.vm.findClass RX7 = some m.cls := hown
  have hl : lv_has ls 2 [(0, .int x0), (1, .int x1)] := hl
  refine lv_iload_n hx hb dX7_has_0 rfl (lv_at hl 0 rfl) ?_
  refine lv_iload_n hx hb dX7_has_1 rfl (lv_at hl 1 rfl) ?_
  refine lv_ishr hx hb dX7_has_2 ?_
  refine lv_iconst (v := 1) hx hb dX7_has_3 (by decide) ?_
  refine lv_iand hx hb dX7_has_4 ?_
  refine lv_iconst (v := 1) hx hb dX7_has_5 (by decide) ?_
  obtain ⟨hh1, hh2⟩ := h
  refine lv_icmp_ne (tgt := 13) hx hb dX7_has_6 (by decide) (fun hc => ?_) (fun hc => ?_)
  · have h := hh2 hc
    refine lv_iconst (v := 0) hx hb dX7_has_13 (by decide) ?_
    exact xzret (w := (w_X7_has cI cO)) () hx hb hr hlocks rfl h hP hK hD hS dX7_has_14
  · have h := hh1 hc
    refine lv_iconst (v := 1) hx hb dX7_has_9 (by decide) ?_
    refine lv_goto (tgt := 14) hx hb dX7_has_10 (by decide) ?_
    exact xzret (w := (w_X7_has cI cO)) () hx hb hr hlocks rfl h hP hK hD hS dX7_has_14
set_option maxRecDepth 20000 in
theorem ggX7_reset_X7_in : GoodIn wsX7_reset wsX7_in := goodIn_r _ [7] (by decide +kernel) (by decide +kernel)
set_option maxRecDepth 20000 in
theorem gX7_reset_X7_in : GoodIn wsX7_reset (va_wsS RX7 58 yX7_in wsX7_in) := goodIn_app (goodIn_of _ (by decide +kernel)) ggX7_reset_X7_in
theorem dX7_reset_0 : decode cX7_reset 0 = .ok (.iload_n 1, 1) := by decide +kernel
theorem dX7_reset_1 : decode cX7_reset 1 = .ok (.iconst 1, 1) := by decide +kernel
theorem dX7_reset_2 : decode cX7_reset 2 = .ok (.bipush 6, 2) := by decide +kernel
theorem dX7_reset_4 : decode cX7_reset 4 = .ok (.invokestatic 58, 3) := by decide +kernel
theorem dX7_reset_7 : decode cX7_reset 7 = .ok (.ifCond .ne 5, 3) := by decide +kernel
theorem dX7_reset_10 : decode cX7_reset 10 = .ok (.iconst (-1), 1) := by decide +kernel
theorem dX7_reset_11 : decode cX7_reset 11 = .ok (.ireturn, 1) := by decide +kernel
theorem dX7_reset_12 : decode cX7_reset 12 = .ok (.aload_n 0, 1) := by decide +kernel
theorem dX7_reset_13 : decode cX7_reset 13 = .ok (.getfield 31, 3) := by decide +kernel
theorem dX7_reset_16 : decode cX7_reset 16 = .ok (.istore_n 2, 1) := by decide +kernel
theorem dX7_reset_17 : decode cX7_reset 17 = .ok (.aload_n 0, 1) := by decide +kernel
theorem dX7_reset_18 : decode cX7_reset 18 = .ok (.iload_n 1, 1) := by decide +kernel
theorem dX7_reset_19 : decode cX7_reset 19 = .ok (.putfield 31, 3) := by decide +kernel
theorem dX7_reset_22 : decode cX7_reset 22 = .ok (.aload_n 0, 1) := by decide +kernel
theorem dX7_reset_23 : decode cX7_reset 23 = .ok (.getfield 35, 3) := by decide +kernel
theorem dX7_reset_26 : decode cX7_reset 26 = .ok (.bipush 80, 2) := by decide +kernel
theorem dX7_reset_28 : decode cX7_reset 28 = .ok (.iconst 0, 1) := by decide +kernel
theorem dX7_reset_29 : decode cX7_reset 29 = .ok (.iastore, 1) := by decide +kernel
theorem dX7_reset_30 : decode cX7_reset 30 = .ok (.aload_n 0, 1) := by decide +kernel
theorem dX7_reset_31 : decode cX7_reset 31 = .ok (.getfield 35, 3) := by decide +kernel
theorem dX7_reset_34 : decode cX7_reset 34 = .ok (.bipush 81, 2) := by decide +kernel
theorem dX7_reset_36 : decode cX7_reset 36 = .ok (.iconst 0, 1) := by decide +kernel
theorem dX7_reset_37 : decode cX7_reset 37 = .ok (.iastore, 1) := by decide +kernel
theorem dX7_reset_38 : decode cX7_reset 38 = .ok (.aload_n 0, 1) := by decide +kernel
theorem dX7_reset_39 : decode cX7_reset 39 = .ok (.iconst 0, 1) := by decide +kernel
theorem dX7_reset_40 : decode cX7_reset 40 = .ok (.putfield 62, 3) := by decide +kernel
theorem dX7_reset_43 : decode cX7_reset 43 = .ok (.iload_n 2, 1) := by decide +kernel
theorem dX7_reset_44 : decode cX7_reset 44 = .ok (.ireturn, 1) := by decide +kernel
theorem jX7_reset_X7 : ∀ w ∈ wsX70, w ∈ wsX7_reset := by decide +kernel
abbrev w_X7_reset (cI cO : ClassId) (aN : Nat → Nat)  : ((CS)) → va_W := fun u => (wN cI aN u)
set_option maxRecDepth 100000 in
set_option maxHeartbeats 8000000 in
theorem mX7_reset (l : Launch) (D : va_G) (cI cO : ClassId) (tA tS : Nat) (aN : Nat → Nat) (zN : CS) (x1 : Int32) (sz : Nat) {post : Int32 → ((CS)) → Prop} (h : qX7_reset post x1 zN) : Met l yX7_reset wsX7_reset ({ frames := 1, cells := 0, slots := 0, locals := 22 } : Room) (xPre D cI cO tA tS [.ref (aN 0), .int x1] (wN cI aN zN) sz) (va_Qi post (xB D cI cO (va_A (wN cI aN zN) sz) (w_X7_reset cI cO aN)) (va_A (wN cI aN zN) sz)) 0 0 (va_A (wN cI aN zN) sz) := by
  refine xMet D cI cO tA tS (fun A => va_Qi post (xB D cI cO A (w_X7_reset cI cO aN)) A) (cc := cX7_reset) (maxL := 3) (ret := (some .int)) (by decide) rfl (Nat.le_of_ble_eq_true rfl) ?_
  intro p e s m below meth c A ls hx hb hr hts hown hlocks hin hml hA hS hP hK hD hE hl
  have hown : s.vm.findClass RX7 = some m.cls := hown
  have hl : lv_has ls 3 [(0, .ref (aN 0)), (1, .int x1)] := hl
  refine lv_iload_n hx hb dX7_reset_0 rfl (lv_at hl 1 rfl) ?_
  refine lv_iconst (v := 1) hx hb dX7_reset_1 (by decide) ?_
  refine lv_bipush (v := 6) hx hb dX7_reset_2 (by decide) ?_
  refine xcalli (wr := (wN cI aN zN)) (w2 := fun (u4 : Unit) => (wN cI aN zN)) (va_runS (As := [.int x1, .int (1 : Int32), .int (6 : Int32)]) (rest := []) ⟨hx, hb, hml, hown, hts⟩ (mX7_in l D cI cO tA tS x1 (1 : Int32) (6 : Int32) _ h) (va_cwS 3 hts gX7_reset_X7_in rfl rfl rfl (by decide +kernel) ⟨Nat.le_of_ble_eq_true rfl, Nat.le_of_ble_eq_true rfl⟩) (xpreP hP hD hS hA hK hE [] rfl rfl) rfl rfl hl.1 rfl (lv_room (Nat.le_of_ble_eq_true rfl)) dX7_reset_4 ⟨Nat.le_refl 0, Nat.le_refl 0⟩) hP hD hS hA [] [0, 1, 2, 3, 4, 5, 6, 7, 8, 9, 10, 11] [0, 1, 2, 3, 4, 5, 6, 7, 8, 9, 10, 11] rfl rfl rfl (by decide) rfl (fun _ => rfl) (fun r4 u4 H locs h hP hD hS => ?_)
  obtain ⟨hh1, hh2⟩ := h
  refine lv_if_ne (tgt := 12) hx hb dX7_reset_7 (by decide) (fun hc => ?_) (fun hc => ?_)
  · have h := hh2 hc
    refine lv_aload_n hx hb dX7_reset_12 rfl (lv_at hl 0 rfl) ?_
    refine va_get (D := D) (ci := 7) (v := .int (zN 11 1)) (C := RX7) (T := TX7) (N := 14) hx hb hts jX7_reset_X7 hown hK hP 0 rfl rfl 8 (by decide) (hts (.fieldLink RX7 31 "BrotherAutomataModel" "states" "I") (List.mem_of_getElem? (i := 1) rfl)) (fun _ h9 => h9) rfl dX7_reset_13 ?_
    refine lv_istore_n (lv' := [(2, .int (zN 11 1)), (0, .ref (aN 0)), (1, .int x1)]) hx hb dX7_reset_16 rfl hl (by decide) rfl (fun ls hl => ?_)
    refine lv_aload_n hx hb dX7_reset_17 rfl (lv_at hl 1 rfl) ?_
    refine lv_iload_n hx hb dX7_reset_18 rfl (lv_at hl 2 rfl) ?_
    refine va_put (D := D) (ci := 7) (v := .int x1) (ty := .int) (C := RX7) (T := TX7) (N := 14) hx hb hts jX7_reset_X7 tyX7 tyX7_ok nmX7 hown hK hP hD hS 0 rfl rfl 8 (by decide) (hts (.fieldLink RX7 31 "BrotherAutomataModel" "states" "I") (List.mem_of_getElem? (i := 1) rfl)) (fun _ h9 => h9) rfl (by decide +kernel) rfl rfl (Nat.le_of_ble_eq_true rfl) dX7_reset_19 (fun H locs hP hD hS => ?_)
    have hP : va_P D vwCl (wN cI aN (st zN 11 1 x1)) H := hP
    have hD : va_D A (wN cI aN (st zN 11 1 x1)) := hD
    refine lv_aload_n hx hb dX7_reset_22 rfl (lv_at hl 1 rfl) ?_
    refine va_get (D := D) (ci := 7) (v := .ref (aN 8)) (C := RX7) (T := TX7) (N := 14) hx hb hts jX7_reset_X7 hown hK hP 0 rfl rfl 9 (by decide) (hts (.fieldLink RX7 35 "BrotherAutomataModel" "now" "[I") (List.mem_of_getElem? (i := 2) rfl)) (fun _ h9 => h9) rfl dX7_reset_23 ?_
    refine lv_bipush (v := 80) hx hb dX7_reset_26 (by decide) ?_
    refine lv_iconst (v := 0) hx hb dX7_reset_28 (by decide) ?_
    obtain ⟨hi, h⟩ := h
    refine va_iast hx hb hK hP hD hS 8 0 rfl rfl hi dX7_reset_29 (fun H locs hP hD hS => ?_)
    have hP : va_P D vwCl (wN cI aN (st (st zN 11 1 x1) 7 (80 : Int32).toNatClampNeg (0 : Int32))) H := hP
    have hD : va_D A (wN cI aN (st (st zN 11 1 x1) 7 (80 : Int32).toNatClampNeg (0 : Int32))) := hD
    refine lv_aload_n hx hb dX7_reset_30 rfl (lv_at hl 1 rfl) ?_
    refine va_get (D := D) (ci := 7) (v := .ref (aN 8)) (C := RX7) (T := TX7) (N := 14) hx hb hts jX7_reset_X7 hown hK hP 0 rfl rfl 9 (by decide) (hts (.fieldLink RX7 35 "BrotherAutomataModel" "now" "[I") (List.mem_of_getElem? (i := 2) rfl)) (fun _ h9 => h9) rfl dX7_reset_31 ?_
    refine lv_bipush (v := 81) hx hb dX7_reset_34 (by decide) ?_
    refine lv_iconst (v := 0) hx hb dX7_reset_36 (by decide) ?_
    obtain ⟨hi, h⟩ := h
    refine va_iast hx hb hK hP hD hS 8 0 rfl rfl hi dX7_reset_37 (fun H locs hP hD hS => ?_)
    have hP : va_P D vwCl (wN cI aN (st (st (st zN 11 1 x1) 7 (80 : Int32).toNatClampNeg (0 : Int32)) 7 (81 : Int32).toNatClampNeg (0 : Int32))) H := hP
    have hD : va_D A (wN cI aN (st (st (st zN 11 1 x1) 7 (80 : Int32).toNatClampNeg (0 : Int32)) 7 (81 : Int32).toNatClampNeg (0 : Int32))) := hD
    refine lv_aload_n hx hb dX7_reset_38 rfl (lv_at hl 1 rfl) ?_
    refine lv_iconst (v := 0) hx hb dX7_reset_39 (by decide) ?_
    refine va_put (D := D) (ci := 7) (v := .int (0 : Int32)) (ty := .int) (C := RX7) (T := TX7) (N := 14) hx hb hts jX7_reset_X7 tyX7 tyX7_ok nmX7 hown hK hP hD hS 0 rfl rfl 11 (by decide) (hts (.fieldLink RX7 62 "BrotherAutomataModel" "edits" "I") (List.mem_of_getElem? (i := 3) rfl)) (fun _ h9 => h9) rfl (by decide +kernel) rfl rfl (Nat.le_of_ble_eq_true rfl) dX7_reset_40 (fun H locs hP hD hS => ?_)
    have hP : va_P D vwCl (wN cI aN (st (st (st (st zN 11 1 x1) 7 (80 : Int32).toNatClampNeg (0 : Int32)) 7 (81 : Int32).toNatClampNeg (0 : Int32)) 11 2 (0 : Int32))) H := hP
    have hD : va_D A (wN cI aN (st (st (st (st zN 11 1 x1) 7 (80 : Int32).toNatClampNeg (0 : Int32)) 7 (81 : Int32).toNatClampNeg (0 : Int32)) 11 2 (0 : Int32))) := hD
    refine lv_iload_n hx hb dX7_reset_43 rfl (lv_at hl 0 rfl) ?_
    exact xiret (w := (w_X7_reset cI cO aN)) (st (st (st (st zN 11 1 x1) 7 (80 : Int32).toNatClampNeg (0 : Int32)) 7 (81 : Int32).toNatClampNeg (0 : Int32)) 11 2 (0 : Int32)) hx hb hr hlocks h hP hK hD hS dX7_reset_44
  · have h := hh1 hc
    refine lv_iconst (v := -1) hx hb dX7_reset_10 (by decide) ?_
    exact xiret (w := (w_X7_reset cI cO aN)) (zN) hx hb hr hlocks h hP hK hD hS dX7_reset_11
theorem dX7_edit_0 : decode cX7_edit 0 = .ok (.aload_n 0, 1) := by decide +kernel
theorem dX7_edit_1 : decode cX7_edit 1 = .ok (.getfield 62, 3) := by decide +kernel
theorem dX7_edit_4 : decode cX7_edit 4 = .ok (.iconst 5, 1) := by decide +kernel
theorem dX7_edit_5 : decode cX7_edit 5 = .ok (.if_icmp .ne 43, 3) := by decide +kernel
theorem dX7_edit_8 : decode cX7_edit 8 = .ok (.iconst 0, 1) := by decide +kernel
theorem dX7_edit_9 : decode cX7_edit 9 = .ok (.istore_n 1, 1) := by decide +kernel
theorem dX7_edit_10 : decode cX7_edit 10 = .ok (.iload_n 1, 1) := by decide +kernel
theorem dX7_edit_11 : decode cX7_edit 11 = .ok (.sipush 328, 3) := by decide +kernel
theorem dX7_edit_14 : decode cX7_edit 14 = .ok (.if_icmp .ge 24, 3) := by decide +kernel
theorem dX7_edit_17 : decode cX7_edit 17 = .ok (.aload_n 0, 1) := by decide +kernel
theorem dX7_edit_18 : decode cX7_edit 18 = .ok (.getfield 38, 3) := by decide +kernel
theorem dX7_edit_21 : decode cX7_edit 21 = .ok (.iload_n 1, 1) := by decide +kernel
theorem dX7_edit_22 : decode cX7_edit 22 = .ok (.aload_n 0, 1) := by decide +kernel
theorem dX7_edit_23 : decode cX7_edit 23 = .ok (.getfield 38, 3) := by decide +kernel
theorem dX7_edit_26 : decode cX7_edit 26 = .ok (.iload_n 1, 1) := by decide +kernel
theorem dX7_edit_27 : decode cX7_edit 27 = .ok (.bipush 82, 2) := by decide +kernel
theorem dX7_edit_29 : decode cX7_edit 29 = .ok (.iadd, 1) := by decide +kernel
theorem dX7_edit_30 : decode cX7_edit 30 = .ok (.iaload, 1) := by decide +kernel
theorem dX7_edit_31 : decode cX7_edit 31 = .ok (.iastore, 1) := by decide +kernel
theorem dX7_edit_32 : decode cX7_edit 32 = .ok (.iinc 1 1, 3) := by decide +kernel
theorem dX7_edit_35 : decode cX7_edit 35 = .ok (.goto (-25), 3) := by decide +kernel
theorem dX7_edit_38 : decode cX7_edit 38 = .ok (.aload_n 0, 1) := by decide +kernel
theorem dX7_edit_39 : decode cX7_edit 39 = .ok (.dup, 1) := by decide +kernel
theorem dX7_edit_40 : decode cX7_edit 40 = .ok (.getfield 62, 3) := by decide +kernel
theorem dX7_edit_43 : decode cX7_edit 43 = .ok (.iconst 1, 1) := by decide +kernel
theorem dX7_edit_44 : decode cX7_edit 44 = .ok (.isub, 1) := by decide +kernel
theorem dX7_edit_45 : decode cX7_edit 45 = .ok (.putfield 62, 3) := by decide +kernel
theorem dX7_edit_48 : decode cX7_edit 48 = .ok (.iconst 0, 1) := by decide +kernel
theorem dX7_edit_49 : decode cX7_edit 49 = .ok (.istore_n 1, 1) := by decide +kernel
theorem dX7_edit_50 : decode cX7_edit 50 = .ok (.iload_n 1, 1) := by decide +kernel
theorem dX7_edit_51 : decode cX7_edit 51 = .ok (.bipush 82, 2) := by decide +kernel
theorem dX7_edit_53 : decode cX7_edit 53 = .ok (.if_icmp .ge 29, 3) := by decide +kernel
theorem dX7_edit_56 : decode cX7_edit 56 = .ok (.aload_n 0, 1) := by decide +kernel
theorem dX7_edit_57 : decode cX7_edit 57 = .ok (.getfield 38, 3) := by decide +kernel
theorem dX7_edit_60 : decode cX7_edit 60 = .ok (.bipush 82, 2) := by decide +kernel
theorem dX7_edit_62 : decode cX7_edit 62 = .ok (.aload_n 0, 1) := by decide +kernel
theorem dX7_edit_63 : decode cX7_edit 63 = .ok (.getfield 62, 3) := by decide +kernel
theorem dX7_edit_66 : decode cX7_edit 66 = .ok (.imul, 1) := by decide +kernel
theorem dX7_edit_67 : decode cX7_edit 67 = .ok (.iload_n 1, 1) := by decide +kernel
theorem dX7_edit_68 : decode cX7_edit 68 = .ok (.iadd, 1) := by decide +kernel
theorem dX7_edit_69 : decode cX7_edit 69 = .ok (.aload_n 0, 1) := by decide +kernel
theorem dX7_edit_70 : decode cX7_edit 70 = .ok (.getfield 35, 3) := by decide +kernel
theorem dX7_edit_73 : decode cX7_edit 73 = .ok (.iload_n 1, 1) := by decide +kernel
theorem dX7_edit_74 : decode cX7_edit 74 = .ok (.iaload, 1) := by decide +kernel
theorem dX7_edit_75 : decode cX7_edit 75 = .ok (.iastore, 1) := by decide +kernel
theorem dX7_edit_76 : decode cX7_edit 76 = .ok (.iinc 1 1, 3) := by decide +kernel
theorem dX7_edit_79 : decode cX7_edit 79 = .ok (.goto (-29), 3) := by decide +kernel
theorem dX7_edit_82 : decode cX7_edit 82 = .ok (.aload_n 0, 1) := by decide +kernel
theorem dX7_edit_83 : decode cX7_edit 83 = .ok (.dup, 1) := by decide +kernel
theorem dX7_edit_84 : decode cX7_edit 84 = .ok (.getfield 62, 3) := by decide +kernel
theorem dX7_edit_87 : decode cX7_edit 87 = .ok (.iconst 1, 1) := by decide +kernel
theorem dX7_edit_88 : decode cX7_edit 88 = .ok (.iadd, 1) := by decide +kernel
theorem dX7_edit_89 : decode cX7_edit 89 = .ok (.putfield 62, 3) := by decide +kernel
theorem dX7_edit_92 : decode cX7_edit 92 = .ok (.return_, 1) := by decide +kernel
theorem jX7_edit_X7 : ∀ w ∈ wsX70, w ∈ wsX7_edit := by decide +kernel
abbrev w_X7_edit (cI cO : ClassId) (aN : Nat → Nat)  : ((CS)) → va_W := fun u => (wN cI aN u)
set_option maxRecDepth 100000 in
set_option maxHeartbeats 8000000 in
theorem mX7_edit (l : Launch) (D : va_G) (cI cO : ClassId) (tA tS : Nat) (aN : Nat → Nat) (zN : CS)  (sz : Nat) {post : ((CS)) → Prop} (h : qX7_edit post zN) : Met l yX7_edit wsX7_edit ({ frames := 0, cells := 0, slots := 0, locals := 0 } : Room) (xPre D cI cO tA tS [.ref (aN 0)] (wN cI aN zN) sz) (va_Qv post (xB D cI cO (va_A (wN cI aN zN) sz) (w_X7_edit cI cO aN)) (va_A (wN cI aN zN) sz)) 0 0 (va_A (wN cI aN zN) sz) := by
  refine xMet D cI cO tA tS (fun A => va_Qv post (xB D cI cO A (w_X7_edit cI cO aN)) A) (cc := cX7_edit) (maxL := 2) (ret := none) (by decide) rfl (Nat.le_of_ble_eq_true rfl) ?_
  intro p e s m below meth c A ls hx hb hr hts hown hlocks hin hml hA hS hP hK hD hE hl
  have hown : s.vm.findClass RX7 = some m.cls := hown
  have hl : lv_has ls 2 [(0, .ref (aN 0))] := hl
  have g50 : ∀ (n : Nat) (y1 : Int32) (zN : CS) (H : Heap) (locs : List Loc) (ls : Array Slot), qX7_edit_50 post n y1 zN → va_P D vwCl (wN cI aN zN) H → va_D A (wN cI aN zN) → va_S A s.heap H locs → lv_has ls 2 [(1, .int y1), (0, .ref (aN 0))] → W p l e ({ frames := 0, cells := 0, slots := 0, locals := 0 } : Room) s m ([.ref (aN 0)] : List Value).toArray below meth c H locs 0 0 (MQ below (va_Qv post (xB D cI cO A (w_X7_edit cI cO aN)) A) ([.ref (aN 0)] : List Value).toArray s 0 0 A) (F0 m 50 ls []) := by
    intro n
    induction n with
    | zero => intro y1 zN H locs ls h; exact False.elim h
    | succ n hk50 =>
      intro y1 zN H locs ls h hP hD hS hl
      have h : qX7_edit_50b post (qX7_edit_50 post n) y1 zN := h
      refine lv_iload_n hx hb dX7_edit_50 rfl (lv_at hl 0 rfl) ?_
      refine lv_bipush (v := 82) hx hb dX7_edit_51 (by decide) ?_
      obtain ⟨hh1, hh2⟩ := h
      refine lv_icmp_ge (tgt := 82) hx hb dX7_edit_53 (by decide) (fun hc => ?_) (fun hc => ?_)
      · have h := hh1 hc
        refine lv_aload_n hx hb dX7_edit_82 rfl (lv_at hl 1 rfl) ?_
        refine lv_dup hx hb dX7_edit_83 rfl ?_
        refine va_get (D := D) (ci := 7) (v := .int (zN 11 2)) (C := RX7) (T := TX7) (N := 14) hx hb hts jX7_edit_X7 hown hK hP 0 rfl rfl 11 (by decide) (hts (.fieldLink RX7 62 "BrotherAutomataModel" "edits" "I") (List.mem_of_getElem? (i := 1) rfl)) (fun _ h9 => h9) rfl dX7_edit_84 ?_
        refine lv_iconst (v := 1) hx hb dX7_edit_87 (by decide) ?_
        refine lv_iadd hx hb dX7_edit_88 ?_
        refine va_put (D := D) (ci := 7) (v := .int ((zN 11 2) + (1 : Int32))) (ty := .int) (C := RX7) (T := TX7) (N := 14) hx hb hts jX7_edit_X7 tyX7 tyX7_ok nmX7 hown hK hP hD hS 0 rfl rfl 11 (by decide) (hts (.fieldLink RX7 62 "BrotherAutomataModel" "edits" "I") (List.mem_of_getElem? (i := 1) rfl)) (fun _ h9 => h9) rfl (by decide +kernel) rfl rfl (Nat.le_of_ble_eq_true rfl) dX7_edit_89 (fun H locs hP hD hS => ?_)
        have hP : va_P D vwCl (wN cI aN (st zN 11 2 ((zN 11 2) + (1 : Int32)))) H := hP
        have hD : va_D A (wN cI aN (st zN 11 2 ((zN 11 2) + (1 : Int32)))) := hD
        exact xvret (w := (w_X7_edit cI cO aN)) (st zN 11 2 ((zN 11 2) + (1 : Int32))) hx hb hr hlocks h hP hK hD hS dX7_edit_92
      · have h := hh2 hc
        refine lv_aload_n hx hb dX7_edit_56 rfl (lv_at hl 1 rfl) ?_
        refine va_get (D := D) (ci := 7) (v := .ref (aN 9)) (C := RX7) (T := TX7) (N := 14) hx hb hts jX7_edit_X7 hown hK hP 0 rfl rfl 10 (by decide) (hts (.fieldLink RX7 38 "BrotherAutomataModel" "history" "[I") (List.mem_of_getElem? (i := 2) rfl)) (fun _ h9 => h9) rfl dX7_edit_57 ?_
        refine lv_bipush (v := 82) hx hb dX7_edit_60 (by decide) ?_
        refine lv_aload_n hx hb dX7_edit_62 rfl (lv_at hl 1 rfl) ?_
        refine va_get (D := D) (ci := 7) (v := .int (zN 11 2)) (C := RX7) (T := TX7) (N := 14) hx hb hts jX7_edit_X7 hown hK hP 0 rfl rfl 11 (by decide) (hts (.fieldLink RX7 62 "BrotherAutomataModel" "edits" "I") (List.mem_of_getElem? (i := 1) rfl)) (fun _ h9 => h9) rfl dX7_edit_63 ?_
        refine lv_imul hx hb dX7_edit_66 ?_
        refine lv_iload_n hx hb dX7_edit_67 rfl (lv_at hl 0 rfl) ?_
        refine lv_iadd hx hb dX7_edit_68 ?_
        refine lv_aload_n hx hb dX7_edit_69 rfl (lv_at hl 1 rfl) ?_
        refine va_get (D := D) (ci := 7) (v := .ref (aN 8)) (C := RX7) (T := TX7) (N := 14) hx hb hts jX7_edit_X7 hown hK hP 0 rfl rfl 9 (by decide) (hts (.fieldLink RX7 35 "BrotherAutomataModel" "now" "[I") (List.mem_of_getElem? (i := 3) rfl)) (fun _ h9 => h9) rfl dX7_edit_70 ?_
        refine lv_iload_n hx hb dX7_edit_73 rfl (lv_at hl 0 rfl) ?_
        obtain ⟨hi, h⟩ := h
        refine va_iald hx hb hK hP 8 0 rfl rfl hi dX7_edit_74 ?_
        obtain ⟨hi, h⟩ := h
        refine va_iast hx hb hK hP hD hS 9 0 rfl rfl hi dX7_edit_75 (fun H locs hP hD hS => ?_)
        have hP : va_P D vwCl (wN cI aN (st zN 8 (((82 : Int32) * (zN 11 2)) + y1).toNatClampNeg ((zN 7) y1.toNatClampNeg))) H := hP
        have hD : va_D A (wN cI aN (st zN 8 (((82 : Int32) * (zN 11 2)) + y1).toNatClampNeg ((zN 7) y1.toNatClampNeg))) := hD
        refine lv_iinc (v := (y1 + (1 : Int32))) (lv' := [(1, .int (y1 + (1 : Int32))), (0, .ref (aN 0))]) hx hb dX7_edit_76 hl (k := 0) rfl rfl (by decide) rfl (fun ls hl => ?_)
        refine lv_goto (tgt := 50) hx hb dX7_edit_79 (by decide) ?_
        exact hk50 (y1 + (1 : Int32)) (st zN 8 (((82 : Int32) * (zN 11 2)) + y1).toNatClampNeg ((zN 7) y1.toNatClampNeg)) _ _ _ h hP hD hS hl
  have g48 : ∀ (zN : CS) (H : Heap) (locs : List Loc) (ls : Array Slot), qX7_edit_48 post zN → va_P D vwCl (wN cI aN zN) H → va_D A (wN cI aN zN) → va_S A s.heap H locs → lv_has ls 2 [(0, .ref (aN 0))] → W p l e ({ frames := 0, cells := 0, slots := 0, locals := 0 } : Room) s m ([.ref (aN 0)] : List Value).toArray below meth c H locs 0 0 (MQ below (va_Qv post (xB D cI cO A (w_X7_edit cI cO aN)) A) ([.ref (aN 0)] : List Value).toArray s 0 0 A) (F0 m 48 ls []) := by
    intro zN H locs ls h hP hD hS hl
    refine lv_iconst (v := 0) hx hb dX7_edit_48 (by decide) ?_
    refine lv_istore_n (lv' := [(1, .int (0 : Int32)), (0, .ref (aN 0))]) hx hb dX7_edit_49 rfl hl (by decide) rfl (fun ls hl => ?_)
    obtain ⟨n0, h⟩ := h
    exact g50 n0 (0 : Int32) zN _ _ _ h hP hD hS hl
  have g10 : ∀ (n : Nat) (y1 : Int32) (zN : CS) (H : Heap) (locs : List Loc) (ls : Array Slot), qX7_edit_10 post n y1 zN → va_P D vwCl (wN cI aN zN) H → va_D A (wN cI aN zN) → va_S A s.heap H locs → lv_has ls 2 [(1, .int y1), (0, .ref (aN 0))] → W p l e ({ frames := 0, cells := 0, slots := 0, locals := 0 } : Room) s m ([.ref (aN 0)] : List Value).toArray below meth c H locs 0 0 (MQ below (va_Qv post (xB D cI cO A (w_X7_edit cI cO aN)) A) ([.ref (aN 0)] : List Value).toArray s 0 0 A) (F0 m 10 ls []) := by
    intro n
    induction n with
    | zero => intro y1 zN H locs ls h; exact False.elim h
    | succ n hk10 =>
      intro y1 zN H locs ls h hP hD hS hl
      have h : qX7_edit_10b post (qX7_edit_10 post n) y1 zN := h
      refine lv_iload_n hx hb dX7_edit_10 rfl (lv_at hl 0 rfl) ?_
      refine lv_sipush (v := 328) hx hb dX7_edit_11 (by decide) ?_
      obtain ⟨hh1, hh2⟩ := h
      refine lv_icmp_ge (tgt := 38) hx hb dX7_edit_14 (by decide) (fun hc => ?_) (fun hc => ?_)
      · have h := hh1 hc
        refine lv_aload_n hx hb dX7_edit_38 rfl (lv_at hl 1 rfl) ?_
        refine lv_dup hx hb dX7_edit_39 rfl ?_
        refine va_get (D := D) (ci := 7) (v := .int (zN 11 2)) (C := RX7) (T := TX7) (N := 14) hx hb hts jX7_edit_X7 hown hK hP 0 rfl rfl 11 (by decide) (hts (.fieldLink RX7 62 "BrotherAutomataModel" "edits" "I") (List.mem_of_getElem? (i := 1) rfl)) (fun _ h9 => h9) rfl dX7_edit_40 ?_
        refine lv_iconst (v := 1) hx hb dX7_edit_43 (by decide) ?_
        refine lv_isub hx hb dX7_edit_44 ?_
        refine va_put (D := D) (ci := 7) (v := .int ((zN 11 2) - (1 : Int32))) (ty := .int) (C := RX7) (T := TX7) (N := 14) hx hb hts jX7_edit_X7 tyX7 tyX7_ok nmX7 hown hK hP hD hS 0 rfl rfl 11 (by decide) (hts (.fieldLink RX7 62 "BrotherAutomataModel" "edits" "I") (List.mem_of_getElem? (i := 1) rfl)) (fun _ h9 => h9) rfl (by decide +kernel) rfl rfl (Nat.le_of_ble_eq_true rfl) dX7_edit_45 (fun H locs hP hD hS => ?_)
        have hP : va_P D vwCl (wN cI aN (st zN 11 2 ((zN 11 2) - (1 : Int32)))) H := hP
        have hD : va_D A (wN cI aN (st zN 11 2 ((zN 11 2) - (1 : Int32)))) := hD
        exact g48 (st zN 11 2 ((zN 11 2) - (1 : Int32))) _ _ _ h hP hD hS (lv_sub hl [1] rfl)
      · have h := hh2 hc
        refine lv_aload_n hx hb dX7_edit_17 rfl (lv_at hl 1 rfl) ?_
        refine va_get (D := D) (ci := 7) (v := .ref (aN 9)) (C := RX7) (T := TX7) (N := 14) hx hb hts jX7_edit_X7 hown hK hP 0 rfl rfl 10 (by decide) (hts (.fieldLink RX7 38 "BrotherAutomataModel" "history" "[I") (List.mem_of_getElem? (i := 2) rfl)) (fun _ h9 => h9) rfl dX7_edit_18 ?_
        refine lv_iload_n hx hb dX7_edit_21 rfl (lv_at hl 0 rfl) ?_
        refine lv_aload_n hx hb dX7_edit_22 rfl (lv_at hl 1 rfl) ?_
        refine va_get (D := D) (ci := 7) (v := .ref (aN 9)) (C := RX7) (T := TX7) (N := 14) hx hb hts jX7_edit_X7 hown hK hP 0 rfl rfl 10 (by decide) (hts (.fieldLink RX7 38 "BrotherAutomataModel" "history" "[I") (List.mem_of_getElem? (i := 2) rfl)) (fun _ h9 => h9) rfl dX7_edit_23 ?_
        refine lv_iload_n hx hb dX7_edit_26 rfl (lv_at hl 0 rfl) ?_
        refine lv_bipush (v := 82) hx hb dX7_edit_27 (by decide) ?_
        refine lv_iadd hx hb dX7_edit_29 ?_
        obtain ⟨hi, h⟩ := h
        refine va_iald hx hb hK hP 9 0 rfl rfl hi dX7_edit_30 ?_
        obtain ⟨hi, h⟩ := h
        refine va_iast hx hb hK hP hD hS 9 0 rfl rfl hi dX7_edit_31 (fun H locs hP hD hS => ?_)
        have hP : va_P D vwCl (wN cI aN (st zN 8 y1.toNatClampNeg ((zN 8) (y1 + (82 : Int32)).toNatClampNeg))) H := hP
        have hD : va_D A (wN cI aN (st zN 8 y1.toNatClampNeg ((zN 8) (y1 + (82 : Int32)).toNatClampNeg))) := hD
        refine lv_iinc (v := (y1 + (1 : Int32))) (lv' := [(1, .int (y1 + (1 : Int32))), (0, .ref (aN 0))]) hx hb dX7_edit_32 hl (k := 0) rfl rfl (by decide) rfl (fun ls hl => ?_)
        refine lv_goto (tgt := 10) hx hb dX7_edit_35 (by decide) ?_
        exact hk10 (y1 + (1 : Int32)) (st zN 8 y1.toNatClampNeg ((zN 8) (y1 + (82 : Int32)).toNatClampNeg)) _ _ _ h hP hD hS hl
  refine lv_aload_n hx hb dX7_edit_0 rfl (lv_at hl 0 rfl) ?_
  refine va_get (D := D) (ci := 7) (v := .int (zN 11 2)) (C := RX7) (T := TX7) (N := 14) hx hb hts jX7_edit_X7 hown hK hP 0 rfl rfl 11 (by decide) (hts (.fieldLink RX7 62 "BrotherAutomataModel" "edits" "I") (List.mem_of_getElem? (i := 1) rfl)) (fun _ h9 => h9) rfl dX7_edit_1 ?_
  refine lv_iconst (v := 5) hx hb dX7_edit_4 (by decide) ?_
  obtain ⟨hh1, hh2⟩ := h
  refine lv_icmp_ne (tgt := 48) hx hb dX7_edit_5 (by decide) (fun hc => ?_) (fun hc => ?_)
  · have h := hh2 hc
    exact g48 zN _ _ _ h hP hD hS hl
  · have h := hh1 hc
    refine lv_iconst (v := 0) hx hb dX7_edit_8 (by decide) ?_
    refine lv_istore_n (lv' := [(1, .int (0 : Int32)), (0, .ref (aN 0))]) hx hb dX7_edit_9 rfl hl (by decide) rfl (fun ls hl => ?_)
    obtain ⟨n0, h⟩ := h
    exact g10 n0 (0 : Int32) zN _ _ _ h hP hD hS hl
theorem dX7_undo_0 : decode cX7_undo 0 = .ok (.aload_n 0, 1) := by decide +kernel
theorem dX7_undo_1 : decode cX7_undo 1 = .ok (.getfield 62, 3) := by decide +kernel
theorem dX7_undo_4 : decode cX7_undo 4 = .ok (.ifCond .ne 6, 3) := by decide +kernel
theorem dX7_undo_7 : decode cX7_undo 7 = .ok (.bipush (-3), 2) := by decide +kernel
theorem dX7_undo_9 : decode cX7_undo 9 = .ok (.ireturn, 1) := by decide +kernel
theorem dX7_undo_10 : decode cX7_undo 10 = .ok (.aload_n 0, 1) := by decide +kernel
theorem dX7_undo_11 : decode cX7_undo 11 = .ok (.dup, 1) := by decide +kernel
theorem dX7_undo_12 : decode cX7_undo 12 = .ok (.getfield 62, 3) := by decide +kernel
theorem dX7_undo_15 : decode cX7_undo 15 = .ok (.iconst 1, 1) := by decide +kernel
theorem dX7_undo_16 : decode cX7_undo 16 = .ok (.isub, 1) := by decide +kernel
theorem dX7_undo_17 : decode cX7_undo 17 = .ok (.putfield 62, 3) := by decide +kernel
theorem dX7_undo_20 : decode cX7_undo 20 = .ok (.iconst 0, 1) := by decide +kernel
theorem dX7_undo_21 : decode cX7_undo 21 = .ok (.istore_n 1, 1) := by decide +kernel
theorem dX7_undo_22 : decode cX7_undo 22 = .ok (.iload_n 1, 1) := by decide +kernel
theorem dX7_undo_23 : decode cX7_undo 23 = .ok (.bipush 82, 2) := by decide +kernel
theorem dX7_undo_25 : decode cX7_undo 25 = .ok (.if_icmp .ge 29, 3) := by decide +kernel
theorem dX7_undo_28 : decode cX7_undo 28 = .ok (.aload_n 0, 1) := by decide +kernel
theorem dX7_undo_29 : decode cX7_undo 29 = .ok (.getfield 35, 3) := by decide +kernel
theorem dX7_undo_32 : decode cX7_undo 32 = .ok (.iload_n 1, 1) := by decide +kernel
theorem dX7_undo_33 : decode cX7_undo 33 = .ok (.aload_n 0, 1) := by decide +kernel
theorem dX7_undo_34 : decode cX7_undo 34 = .ok (.getfield 38, 3) := by decide +kernel
theorem dX7_undo_37 : decode cX7_undo 37 = .ok (.bipush 82, 2) := by decide +kernel
theorem dX7_undo_39 : decode cX7_undo 39 = .ok (.aload_n 0, 1) := by decide +kernel
theorem dX7_undo_40 : decode cX7_undo 40 = .ok (.getfield 62, 3) := by decide +kernel
theorem dX7_undo_43 : decode cX7_undo 43 = .ok (.imul, 1) := by decide +kernel
theorem dX7_undo_44 : decode cX7_undo 44 = .ok (.iload_n 1, 1) := by decide +kernel
theorem dX7_undo_45 : decode cX7_undo 45 = .ok (.iadd, 1) := by decide +kernel
theorem dX7_undo_46 : decode cX7_undo 46 = .ok (.iaload, 1) := by decide +kernel
theorem dX7_undo_47 : decode cX7_undo 47 = .ok (.iastore, 1) := by decide +kernel
theorem dX7_undo_48 : decode cX7_undo 48 = .ok (.iinc 1 1, 3) := by decide +kernel
theorem dX7_undo_51 : decode cX7_undo 51 = .ok (.goto (-29), 3) := by decide +kernel
theorem dX7_undo_54 : decode cX7_undo 54 = .ok (.aload_n 0, 1) := by decide +kernel
theorem dX7_undo_55 : decode cX7_undo 55 = .ok (.getfield 62, 3) := by decide +kernel
theorem dX7_undo_58 : decode cX7_undo 58 = .ok (.ireturn, 1) := by decide +kernel
theorem jX7_undo_X7 : ∀ w ∈ wsX70, w ∈ wsX7_undo := by decide +kernel
abbrev w_X7_undo (cI cO : ClassId) (aN : Nat → Nat)  : ((CS)) → va_W := fun u => (wN cI aN u)
set_option maxRecDepth 100000 in
set_option maxHeartbeats 8000000 in
theorem mX7_undo (l : Launch) (D : va_G) (cI cO : ClassId) (tA tS : Nat) (aN : Nat → Nat) (zN : CS)  (sz : Nat) {post : Int32 → ((CS)) → Prop} (h : qX7_undo post zN) : Met l yX7_undo wsX7_undo ({ frames := 0, cells := 0, slots := 0, locals := 0 } : Room) (xPre D cI cO tA tS [.ref (aN 0)] (wN cI aN zN) sz) (va_Qi post (xB D cI cO (va_A (wN cI aN zN) sz) (w_X7_undo cI cO aN)) (va_A (wN cI aN zN) sz)) 0 0 (va_A (wN cI aN zN) sz) := by
  refine xMet D cI cO tA tS (fun A => va_Qi post (xB D cI cO A (w_X7_undo cI cO aN)) A) (cc := cX7_undo) (maxL := 2) (ret := (some .int)) (by decide) rfl (Nat.le_of_ble_eq_true rfl) ?_
  intro p e s m below meth c A ls hx hb hr hts hown hlocks hin hml hA hS hP hK hD hE hl
  have hown : s.vm.findClass RX7 = some m.cls := hown
  have hl : lv_has ls 2 [(0, .ref (aN 0))] := hl
  have g22 : ∀ (n : Nat) (y1 : Int32) (zN : CS) (H : Heap) (locs : List Loc) (ls : Array Slot), qX7_undo_22 post n y1 zN → va_P D vwCl (wN cI aN zN) H → va_D A (wN cI aN zN) → va_S A s.heap H locs → lv_has ls 2 [(1, .int y1), (0, .ref (aN 0))] → W p l e ({ frames := 0, cells := 0, slots := 0, locals := 0 } : Room) s m ([.ref (aN 0)] : List Value).toArray below meth c H locs 0 0 (MQ below (va_Qi post (xB D cI cO A (w_X7_undo cI cO aN)) A) ([.ref (aN 0)] : List Value).toArray s 0 0 A) (F0 m 22 ls []) := by
    intro n
    induction n with
    | zero => intro y1 zN H locs ls h; exact False.elim h
    | succ n hk22 =>
      intro y1 zN H locs ls h hP hD hS hl
      have h : qX7_undo_22b post (qX7_undo_22 post n) y1 zN := h
      refine lv_iload_n hx hb dX7_undo_22 rfl (lv_at hl 0 rfl) ?_
      refine lv_bipush (v := 82) hx hb dX7_undo_23 (by decide) ?_
      obtain ⟨hh1, hh2⟩ := h
      refine lv_icmp_ge (tgt := 54) hx hb dX7_undo_25 (by decide) (fun hc => ?_) (fun hc => ?_)
      · have h := hh1 hc
        refine lv_aload_n hx hb dX7_undo_54 rfl (lv_at hl 1 rfl) ?_
        refine va_get (D := D) (ci := 7) (v := .int (zN 11 2)) (C := RX7) (T := TX7) (N := 14) hx hb hts jX7_undo_X7 hown hK hP 0 rfl rfl 11 (by decide) (hts (.fieldLink RX7 62 "BrotherAutomataModel" "edits" "I") (List.mem_of_getElem? (i := 1) rfl)) (fun _ h9 => h9) rfl dX7_undo_55 ?_
        exact xiret (w := (w_X7_undo cI cO aN)) (zN) hx hb hr hlocks h hP hK hD hS dX7_undo_58
      · have h := hh2 hc
        refine lv_aload_n hx hb dX7_undo_28 rfl (lv_at hl 1 rfl) ?_
        refine va_get (D := D) (ci := 7) (v := .ref (aN 8)) (C := RX7) (T := TX7) (N := 14) hx hb hts jX7_undo_X7 hown hK hP 0 rfl rfl 9 (by decide) (hts (.fieldLink RX7 35 "BrotherAutomataModel" "now" "[I") (List.mem_of_getElem? (i := 2) rfl)) (fun _ h9 => h9) rfl dX7_undo_29 ?_
        refine lv_iload_n hx hb dX7_undo_32 rfl (lv_at hl 0 rfl) ?_
        refine lv_aload_n hx hb dX7_undo_33 rfl (lv_at hl 1 rfl) ?_
        refine va_get (D := D) (ci := 7) (v := .ref (aN 9)) (C := RX7) (T := TX7) (N := 14) hx hb hts jX7_undo_X7 hown hK hP 0 rfl rfl 10 (by decide) (hts (.fieldLink RX7 38 "BrotherAutomataModel" "history" "[I") (List.mem_of_getElem? (i := 3) rfl)) (fun _ h9 => h9) rfl dX7_undo_34 ?_
        refine lv_bipush (v := 82) hx hb dX7_undo_37 (by decide) ?_
        refine lv_aload_n hx hb dX7_undo_39 rfl (lv_at hl 1 rfl) ?_
        refine va_get (D := D) (ci := 7) (v := .int (zN 11 2)) (C := RX7) (T := TX7) (N := 14) hx hb hts jX7_undo_X7 hown hK hP 0 rfl rfl 11 (by decide) (hts (.fieldLink RX7 62 "BrotherAutomataModel" "edits" "I") (List.mem_of_getElem? (i := 1) rfl)) (fun _ h9 => h9) rfl dX7_undo_40 ?_
        refine lv_imul hx hb dX7_undo_43 ?_
        refine lv_iload_n hx hb dX7_undo_44 rfl (lv_at hl 0 rfl) ?_
        refine lv_iadd hx hb dX7_undo_45 ?_
        obtain ⟨hi, h⟩ := h
        refine va_iald hx hb hK hP 9 0 rfl rfl hi dX7_undo_46 ?_
        obtain ⟨hi, h⟩ := h
        refine va_iast hx hb hK hP hD hS 8 0 rfl rfl hi dX7_undo_47 (fun H locs hP hD hS => ?_)
        have hP : va_P D vwCl (wN cI aN (st zN 7 y1.toNatClampNeg ((zN 8) (((82 : Int32) * (zN 11 2)) + y1).toNatClampNeg))) H := hP
        have hD : va_D A (wN cI aN (st zN 7 y1.toNatClampNeg ((zN 8) (((82 : Int32) * (zN 11 2)) + y1).toNatClampNeg))) := hD
        refine lv_iinc (v := (y1 + (1 : Int32))) (lv' := [(1, .int (y1 + (1 : Int32))), (0, .ref (aN 0))]) hx hb dX7_undo_48 hl (k := 0) rfl rfl (by decide) rfl (fun ls hl => ?_)
        refine lv_goto (tgt := 22) hx hb dX7_undo_51 (by decide) ?_
        exact hk22 (y1 + (1 : Int32)) (st zN 7 y1.toNatClampNeg ((zN 8) (((82 : Int32) * (zN 11 2)) + y1).toNatClampNeg)) _ _ _ h hP hD hS hl
  refine lv_aload_n hx hb dX7_undo_0 rfl (lv_at hl 0 rfl) ?_
  refine va_get (D := D) (ci := 7) (v := .int (zN 11 2)) (C := RX7) (T := TX7) (N := 14) hx hb hts jX7_undo_X7 hown hK hP 0 rfl rfl 11 (by decide) (hts (.fieldLink RX7 62 "BrotherAutomataModel" "edits" "I") (List.mem_of_getElem? (i := 1) rfl)) (fun _ h9 => h9) rfl dX7_undo_1 ?_
  obtain ⟨hh1, hh2⟩ := h
  refine lv_if_ne (tgt := 10) hx hb dX7_undo_4 (by decide) (fun hc => ?_) (fun hc => ?_)
  · have h := hh2 hc
    refine lv_aload_n hx hb dX7_undo_10 rfl (lv_at hl 0 rfl) ?_
    refine lv_dup hx hb dX7_undo_11 rfl ?_
    refine va_get (D := D) (ci := 7) (v := .int (zN 11 2)) (C := RX7) (T := TX7) (N := 14) hx hb hts jX7_undo_X7 hown hK hP 0 rfl rfl 11 (by decide) (hts (.fieldLink RX7 62 "BrotherAutomataModel" "edits" "I") (List.mem_of_getElem? (i := 1) rfl)) (fun _ h9 => h9) rfl dX7_undo_12 ?_
    refine lv_iconst (v := 1) hx hb dX7_undo_15 (by decide) ?_
    refine lv_isub hx hb dX7_undo_16 ?_
    refine va_put (D := D) (ci := 7) (v := .int ((zN 11 2) - (1 : Int32))) (ty := .int) (C := RX7) (T := TX7) (N := 14) hx hb hts jX7_undo_X7 tyX7 tyX7_ok nmX7 hown hK hP hD hS 0 rfl rfl 11 (by decide) (hts (.fieldLink RX7 62 "BrotherAutomataModel" "edits" "I") (List.mem_of_getElem? (i := 1) rfl)) (fun _ h9 => h9) rfl (by decide +kernel) rfl rfl (Nat.le_of_ble_eq_true rfl) dX7_undo_17 (fun H locs hP hD hS => ?_)
    have hP : va_P D vwCl (wN cI aN (st zN 11 2 ((zN 11 2) - (1 : Int32)))) H := hP
    have hD : va_D A (wN cI aN (st zN 11 2 ((zN 11 2) - (1 : Int32)))) := hD
    refine lv_iconst (v := 0) hx hb dX7_undo_20 (by decide) ?_
    refine lv_istore_n (lv' := [(1, .int (0 : Int32)), (0, .ref (aN 0))]) hx hb dX7_undo_21 rfl hl (by decide) rfl (fun ls hl => ?_)
    obtain ⟨n0, h⟩ := h
    exact g22 n0 (0 : Int32) (st zN 11 2 ((zN 11 2) - (1 : Int32))) _ _ _ h hP hD hS hl
  · have h := hh1 hc
    refine lv_bipush (v := -3) hx hb dX7_undo_7 (by decide) ?_
    exact xiret (w := (w_X7_undo cI cO aN)) (zN) hx hb hr hlocks h hP hK hD hS dX7_undo_9
set_option maxRecDepth 20000 in
theorem ggX7_setFinal_X7_isState : GoodIn wsX7_setFinal wsX7_isState := goodIn_r _ [7, 2, 8, 9, 6, 10, 20, 21, 22, 23, 24, 25, 26, 27, 28, 29, 30, 31, 32, 33] (by decide +kernel) (by decide +kernel)
set_option maxRecDepth 20000 in
theorem gX7_setFinal_X7_isState : GoodIn wsX7_setFinal (wsV RX7 65 RX7 yX7_isState wsX7_isState) := goodIn_app (goodIn_of _ (by decide +kernel)) ggX7_setFinal_X7_isState
set_option maxRecDepth 20000 in
theorem ggX7_setFinal_X7_edit : GoodIn wsX7_setFinal wsX7_edit := goodIn_r _ [14, 15, 16, 1, 20, 21, 22, 23, 24, 25, 26, 27, 28, 29, 30, 31, 32, 33] (by decide +kernel) (by decide +kernel)
set_option maxRecDepth 20000 in
theorem gX7_setFinal_X7_edit : GoodIn wsX7_setFinal (wsV RX7 69 RX7 yX7_edit wsX7_edit) := goodIn_app (goodIn_of _ (by decide +kernel)) ggX7_setFinal_X7_edit
set_option maxRecDepth 20000 in
theorem ggX7_setFinal_X7_has : GoodIn wsX7_setFinal wsX7_has := goodIn_r _ [19] (by decide +kernel) (by decide +kernel)
set_option maxRecDepth 20000 in
theorem gX7_setFinal_X7_has : GoodIn wsX7_setFinal (va_wsS RX7 72 yX7_has wsX7_has) := goodIn_app (goodIn_of _ (by decide +kernel)) ggX7_setFinal_X7_has
theorem dX7_setFinal_0 : decode cX7_setFinal 0 = .ok (.aload_n 0, 1) := by decide +kernel
theorem dX7_setFinal_1 : decode cX7_setFinal 1 = .ok (.iload_n 1, 1) := by decide +kernel
theorem dX7_setFinal_2 : decode cX7_setFinal 2 = .ok (.invokevirtual 65, 3) := by decide +kernel
theorem dX7_setFinal_5 : decode cX7_setFinal 5 = .ok (.ifCond .ne 5, 3) := by decide +kernel
theorem dX7_setFinal_8 : decode cX7_setFinal 8 = .ok (.iconst (-1), 1) := by decide +kernel
theorem dX7_setFinal_9 : decode cX7_setFinal 9 = .ok (.ireturn, 1) := by decide +kernel
theorem dX7_setFinal_10 : decode cX7_setFinal 10 = .ok (.aload_n 0, 1) := by decide +kernel
theorem dX7_setFinal_11 : decode cX7_setFinal 11 = .ok (.invokevirtual 69, 3) := by decide +kernel
theorem dX7_setFinal_14 : decode cX7_setFinal 14 = .ok (.aload_n 0, 1) := by decide +kernel
theorem dX7_setFinal_15 : decode cX7_setFinal 15 = .ok (.getfield 35, 3) := by decide +kernel
theorem dX7_setFinal_18 : decode cX7_setFinal 18 = .ok (.bipush 81, 2) := by decide +kernel
theorem dX7_setFinal_20 : decode cX7_setFinal 20 = .ok (.aload_n 0, 1) := by decide +kernel
theorem dX7_setFinal_21 : decode cX7_setFinal 21 = .ok (.getfield 35, 3) := by decide +kernel
theorem dX7_setFinal_24 : decode cX7_setFinal 24 = .ok (.bipush 81, 2) := by decide +kernel
theorem dX7_setFinal_26 : decode cX7_setFinal 26 = .ok (.iaload, 1) := by decide +kernel
theorem dX7_setFinal_27 : decode cX7_setFinal 27 = .ok (.iconst 1, 1) := by decide +kernel
theorem dX7_setFinal_28 : decode cX7_setFinal 28 = .ok (.iload_n 1, 1) := by decide +kernel
theorem dX7_setFinal_29 : decode cX7_setFinal 29 = .ok (.ishl, 1) := by decide +kernel
theorem dX7_setFinal_30 : decode cX7_setFinal 30 = .ok (.iconst (-1), 1) := by decide +kernel
theorem dX7_setFinal_31 : decode cX7_setFinal 31 = .ok (.ixor, 1) := by decide +kernel
theorem dX7_setFinal_32 : decode cX7_setFinal 32 = .ok (.iand, 1) := by decide +kernel
theorem dX7_setFinal_33 : decode cX7_setFinal 33 = .ok (.iload_n 2, 1) := by decide +kernel
theorem dX7_setFinal_34 : decode cX7_setFinal 34 = .ok (.ifCond .eq 9, 3) := by decide +kernel
theorem dX7_setFinal_37 : decode cX7_setFinal 37 = .ok (.iconst 1, 1) := by decide +kernel
theorem dX7_setFinal_38 : decode cX7_setFinal 38 = .ok (.iload_n 1, 1) := by decide +kernel
theorem dX7_setFinal_39 : decode cX7_setFinal 39 = .ok (.ishl, 1) := by decide +kernel
theorem dX7_setFinal_40 : decode cX7_setFinal 40 = .ok (.goto 4, 3) := by decide +kernel
theorem dX7_setFinal_43 : decode cX7_setFinal 43 = .ok (.iconst 0, 1) := by decide +kernel
theorem dX7_setFinal_44 : decode cX7_setFinal 44 = .ok (.ior, 1) := by decide +kernel
theorem dX7_setFinal_45 : decode cX7_setFinal 45 = .ok (.iastore, 1) := by decide +kernel
theorem dX7_setFinal_46 : decode cX7_setFinal 46 = .ok (.iconst 0, 1) := by decide +kernel
theorem dX7_setFinal_47 : decode cX7_setFinal 47 = .ok (.istore_n 3, 1) := by decide +kernel
theorem dX7_setFinal_48 : decode cX7_setFinal 48 = .ok (.iconst 0, 1) := by decide +kernel
theorem dX7_setFinal_49 : decode cX7_setFinal 49 = .ok (.istore 4, 2) := by decide +kernel
theorem dX7_setFinal_51 : decode cX7_setFinal 51 = .ok (.iload 4, 2) := by decide +kernel
theorem dX7_setFinal_53 : decode cX7_setFinal 53 = .ok (.aload_n 0, 1) := by decide +kernel
theorem dX7_setFinal_54 : decode cX7_setFinal 54 = .ok (.getfield 31, 3) := by decide +kernel
theorem dX7_setFinal_57 : decode cX7_setFinal 57 = .ok (.if_icmp .ge 32, 3) := by decide +kernel
theorem dX7_setFinal_60 : decode cX7_setFinal 60 = .ok (.iload_n 3, 1) := by decide +kernel
theorem dX7_setFinal_61 : decode cX7_setFinal 61 = .ok (.aload_n 0, 1) := by decide +kernel
theorem dX7_setFinal_62 : decode cX7_setFinal 62 = .ok (.getfield 35, 3) := by decide +kernel
theorem dX7_setFinal_65 : decode cX7_setFinal 65 = .ok (.bipush 81, 2) := by decide +kernel
theorem dX7_setFinal_67 : decode cX7_setFinal 67 = .ok (.iaload, 1) := by decide +kernel
theorem dX7_setFinal_68 : decode cX7_setFinal 68 = .ok (.iload 4, 2) := by decide +kernel
theorem dX7_setFinal_70 : decode cX7_setFinal 70 = .ok (.invokestatic 72, 3) := by decide +kernel
theorem dX7_setFinal_73 : decode cX7_setFinal 73 = .ok (.ifCond .eq 7, 3) := by decide +kernel
theorem dX7_setFinal_76 : decode cX7_setFinal 76 = .ok (.iconst 1, 1) := by decide +kernel
theorem dX7_setFinal_77 : decode cX7_setFinal 77 = .ok (.goto 4, 3) := by decide +kernel
theorem dX7_setFinal_80 : decode cX7_setFinal 80 = .ok (.iconst 0, 1) := by decide +kernel
theorem dX7_setFinal_81 : decode cX7_setFinal 81 = .ok (.iadd, 1) := by decide +kernel
theorem dX7_setFinal_82 : decode cX7_setFinal 82 = .ok (.istore_n 3, 1) := by decide +kernel
theorem dX7_setFinal_83 : decode cX7_setFinal 83 = .ok (.iinc 4 1, 3) := by decide +kernel
theorem dX7_setFinal_86 : decode cX7_setFinal 86 = .ok (.goto (-35), 3) := by decide +kernel
theorem dX7_setFinal_89 : decode cX7_setFinal 89 = .ok (.iload_n 3, 1) := by decide +kernel
theorem dX7_setFinal_90 : decode cX7_setFinal 90 = .ok (.ireturn, 1) := by decide +kernel
theorem jX7_setFinal_X7 : ∀ w ∈ wsX70, w ∈ wsX7_setFinal := by decide +kernel
abbrev w_X7_setFinal (cI cO : ClassId) (aN : Nat → Nat)  : ((CS)) → va_W := fun u => (wN cI aN u)
set_option maxRecDepth 100000 in
set_option maxHeartbeats 8000000 in
theorem mX7_setFinal (l : Launch) (D : va_G) (cI cO : ClassId) (tA tS : Nat) (aN : Nat → Nat) (zN : CS) (x1 : Int32) (x2 : Int32) (sz : Nat) {post : Int32 → ((CS)) → Prop} (h : qX7_setFinal post x1 x2 zN) : Met l yX7_setFinal wsX7_setFinal ({ frames := 2, cells := 0, slots := 0, locals := 43 } : Room) (xPre D cI cO tA tS [.ref (aN 0), .int x1, .int x2] (wN cI aN zN) sz) (va_Qi post (xB D cI cO (va_A (wN cI aN zN) sz) (w_X7_setFinal cI cO aN)) (va_A (wN cI aN zN) sz)) 0 0 (va_A (wN cI aN zN) sz) := by
  refine xMet D cI cO tA tS (fun A => va_Qi post (xB D cI cO A (w_X7_setFinal cI cO aN)) A) (cc := cX7_setFinal) (maxL := 5) (ret := (some .int)) (by decide) rfl (Nat.le_of_ble_eq_true rfl) ?_
  intro p e s m below meth c A ls hx hb hr hts hown hlocks hin hml hA hS hP hK hD hE hl
  have hown : s.vm.findClass RX7 = some m.cls := hown
  have hl : lv_has ls 5 [(0, .ref (aN 0)), (1, .int x1), (2, .int x2)] := hl
  have g81 : ∀ (k51 : (Int32) → (Int32) → (CS) → Prop), (∀ (y3 : Int32) (y4 : Int32) (zN : CS) (H : Heap) (locs : List Loc) (ls : Array Slot), k51 y3 y4 zN → va_P D vwCl (wN cI aN zN) H → va_D A (wN cI aN zN) → va_S A s.heap H locs → lv_has ls 5 [(4, .int y4), (3, .int y3), (0, .ref (aN 0)), (1, .int x1), (2, .int x2)] → W p l e ({ frames := 2, cells := 0, slots := 0, locals := 43 } : Room) s m ([.ref (aN 0), .int x1, .int x2] : List Value).toArray below meth c H locs 0 0 (MQ below (va_Qi post (xB D cI cO A (w_X7_setFinal cI cO aN)) A) ([.ref (aN 0), .int x1, .int x2] : List Value).toArray s 0 0 A) (F0 m 51 ls [])) → ∀ (y3 : Int32) (y4 : Int32) (w0 : Int32) (w1 : Int32) (zN : CS) (H : Heap) (locs : List Loc) (ls : Array Slot), qX7_setFinal_81 post x1 x2 k51 y3 y4 w0 w1 zN → va_P D vwCl (wN cI aN zN) H → va_D A (wN cI aN zN) → va_S A s.heap H locs → lv_has ls 5 [(4, .int y4), (3, .int y3), (0, .ref (aN 0)), (1, .int x1), (2, .int x2)] → W p l e ({ frames := 2, cells := 0, slots := 0, locals := 43 } : Room) s m ([.ref (aN 0), .int x1, .int x2] : List Value).toArray below meth c H locs 0 0 (MQ below (va_Qi post (xB D cI cO A (w_X7_setFinal cI cO aN)) A) ([.ref (aN 0), .int x1, .int x2] : List Value).toArray s 0 0 A) (F0 m 81 ls [.int w1, .int w0]) := by
    intro k51 hk51 y3 y4 w0 w1 zN H locs ls h hP hD hS hl
    refine lv_iadd hx hb dX7_setFinal_81 ?_
    refine lv_istore_n (lv' := [(3, .int (w0 + w1)), (4, .int y4), (0, .ref (aN 0)), (1, .int x1), (2, .int x2)]) hx hb dX7_setFinal_82 rfl hl (by decide) rfl (fun ls hl => ?_)
    refine lv_iinc (v := (y4 + (1 : Int32))) (lv' := [(4, .int (y4 + (1 : Int32))), (3, .int (w0 + w1)), (0, .ref (aN 0)), (1, .int x1), (2, .int x2)]) hx hb dX7_setFinal_83 hl (k := 1) rfl rfl (by decide) rfl (fun ls hl => ?_)
    refine lv_goto (tgt := 51) hx hb dX7_setFinal_86 (by decide) ?_
    exact hk51 (w0 + w1) (y4 + (1 : Int32)) zN _ _ _ h hP hD hS hl
  have g51 : ∀ (n : Nat) (y3 : Int32) (y4 : Int32) (zN : CS) (H : Heap) (locs : List Loc) (ls : Array Slot), qX7_setFinal_51 post x1 x2 n y3 y4 zN → va_P D vwCl (wN cI aN zN) H → va_D A (wN cI aN zN) → va_S A s.heap H locs → lv_has ls 5 [(4, .int y4), (3, .int y3), (0, .ref (aN 0)), (1, .int x1), (2, .int x2)] → W p l e ({ frames := 2, cells := 0, slots := 0, locals := 43 } : Room) s m ([.ref (aN 0), .int x1, .int x2] : List Value).toArray below meth c H locs 0 0 (MQ below (va_Qi post (xB D cI cO A (w_X7_setFinal cI cO aN)) A) ([.ref (aN 0), .int x1, .int x2] : List Value).toArray s 0 0 A) (F0 m 51 ls []) := by
    intro n
    induction n with
    | zero => intro y3 y4 zN H locs ls h; exact False.elim h
    | succ n hk51 =>
      intro y3 y4 zN H locs ls h hP hD hS hl
      have h : qX7_setFinal_51b post x1 x2 (qX7_setFinal_51 post x1 x2 n) y3 y4 zN := h
      refine lv_iload hx hb dX7_setFinal_51 (lv_at hl 0 rfl) ?_
      refine lv_aload_n hx hb dX7_setFinal_53 rfl (lv_at hl 2 rfl) ?_
      refine va_get (D := D) (ci := 7) (v := .int (zN 11 1)) (C := RX7) (T := TX7) (N := 14) hx hb hts jX7_setFinal_X7 hown hK hP 0 rfl rfl 8 (by decide) (hts (.fieldLink RX7 31 "BrotherAutomataModel" "states" "I") (List.mem_of_getElem? (i := 2) rfl)) (fun _ h9 => h9) rfl dX7_setFinal_54 ?_
      obtain ⟨hh1, hh2⟩ := h
      refine lv_icmp_ge (tgt := 89) hx hb dX7_setFinal_57 (by decide) (fun hc => ?_) (fun hc => ?_)
      · have h := hh1 hc
        refine lv_iload_n hx hb dX7_setFinal_89 rfl (lv_at hl 1 rfl) ?_
        exact xiret (w := (w_X7_setFinal cI cO aN)) (zN) hx hb hr hlocks h hP hK hD hS dX7_setFinal_90
      · have h := hh2 hc
        refine lv_iload_n hx hb dX7_setFinal_60 rfl (lv_at hl 1 rfl) ?_
        refine lv_aload_n hx hb dX7_setFinal_61 rfl (lv_at hl 2 rfl) ?_
        refine va_get (D := D) (ci := 7) (v := .ref (aN 8)) (C := RX7) (T := TX7) (N := 14) hx hb hts jX7_setFinal_X7 hown hK hP 0 rfl rfl 9 (by decide) (hts (.fieldLink RX7 35 "BrotherAutomataModel" "now" "[I") (List.mem_of_getElem? (i := 1) rfl)) (fun _ h9 => h9) rfl dX7_setFinal_62 ?_
        refine lv_bipush (v := 81) hx hb dX7_setFinal_65 (by decide) ?_
        obtain ⟨hi, h⟩ := h
        refine va_iald hx hb hK hP 8 0 rfl rfl hi dX7_setFinal_67 ?_
        refine lv_iload hx hb dX7_setFinal_68 (lv_at hl 0 rfl) ?_
        refine xcalli (wr := (wN cI aN zN)) (w2 := fun (u70 : Unit) => (wN cI aN zN)) (va_runS (As := [.int ((zN 7) (81 : Int32).toNatClampNeg), .int y4]) (rest := [.int y3]) ⟨hx, hb, hml, hown, hts⟩ (mX7_has l D cI cO tA tS ((zN 7) (81 : Int32).toNatClampNeg) y4 _ h) (va_cwS 2 hts gX7_setFinal_X7_has rfl rfl rfl (by decide +kernel) ⟨Nat.le_of_ble_eq_true rfl, Nat.le_of_ble_eq_true rfl⟩) (xpreP hP hD hS hA hK hE [] rfl rfl) rfl rfl hl.1 rfl (lv_room (Nat.le_of_ble_eq_true rfl)) dX7_setFinal_70 ⟨Nat.le_refl 0, Nat.le_refl 0⟩) hP hD hS hA [] [0, 1, 2, 3, 4, 5, 6, 7, 8, 9, 10, 11] [0, 1, 2, 3, 4, 5, 6, 7, 8, 9, 10, 11] rfl rfl rfl (by decide) rfl (fun _ => rfl) (fun r70 u70 H locs h hP hD hS => ?_)
        obtain ⟨hh1, hh2⟩ := h
        refine lv_if_eq (tgt := 80) hx hb dX7_setFinal_73 (by decide) (fun hc => ?_) (fun hc => ?_)
        · have h := hh1 hc
          refine lv_iconst (v := 0) hx hb dX7_setFinal_80 (by decide) ?_
          exact g81 (qX7_setFinal_51 post x1 x2 n) hk51 y3 y4 y3 (0 : Int32) zN _ _ _ h hP hD hS hl
        · have h := hh2 hc
          refine lv_iconst (v := 1) hx hb dX7_setFinal_76 (by decide) ?_
          refine lv_goto (tgt := 81) hx hb dX7_setFinal_77 (by decide) ?_
          exact g81 (qX7_setFinal_51 post x1 x2 n) hk51 y3 y4 y3 (1 : Int32) zN _ _ _ h hP hD hS hl
  have g44 : ∀ (w1 : Int32) (w2 : Int32) (w3 : Int32) (zN : CS) (H : Heap) (locs : List Loc) (ls : Array Slot), qX7_setFinal_44 post x1 x2 w1 w2 w3 zN → va_P D vwCl (wN cI aN zN) H → va_D A (wN cI aN zN) → va_S A s.heap H locs → lv_has ls 5 [(0, .ref (aN 0)), (1, .int x1), (2, .int x2)] → W p l e ({ frames := 2, cells := 0, slots := 0, locals := 43 } : Room) s m ([.ref (aN 0), .int x1, .int x2] : List Value).toArray below meth c H locs 0 0 (MQ below (va_Qi post (xB D cI cO A (w_X7_setFinal cI cO aN)) A) ([.ref (aN 0), .int x1, .int x2] : List Value).toArray s 0 0 A) (F0 m 44 ls [.int w3, .int w2, .int w1, .ref (aN 8)]) := by
    intro w1 w2 w3 zN H locs ls h hP hD hS hl
    refine lv_ior hx hb dX7_setFinal_44 ?_
    obtain ⟨hi, h⟩ := h
    refine va_iast hx hb hK hP hD hS 8 0 rfl rfl hi dX7_setFinal_45 (fun H locs hP hD hS => ?_)
    have hP : va_P D vwCl (wN cI aN (st zN 7 w1.toNatClampNeg (w2 ||| w3))) H := hP
    have hD : va_D A (wN cI aN (st zN 7 w1.toNatClampNeg (w2 ||| w3))) := hD
    refine lv_iconst (v := 0) hx hb dX7_setFinal_46 (by decide) ?_
    refine lv_istore_n (lv' := [(3, .int (0 : Int32)), (0, .ref (aN 0)), (1, .int x1), (2, .int x2)]) hx hb dX7_setFinal_47 rfl hl (by decide) rfl (fun ls hl => ?_)
    refine lv_iconst (v := 0) hx hb dX7_setFinal_48 (by decide) ?_
    refine lv_istore (lv' := [(4, .int (0 : Int32)), (3, .int (0 : Int32)), (0, .ref (aN 0)), (1, .int x1), (2, .int x2)]) hx hb dX7_setFinal_49 hl (by decide) rfl (fun ls hl => ?_)
    obtain ⟨n0, h⟩ := h
    exact g51 n0 (0 : Int32) (0 : Int32) (st zN 7 w1.toNatClampNeg (w2 ||| w3)) _ _ _ h hP hD hS hl
  refine lv_aload_n hx hb dX7_setFinal_0 rfl (lv_at hl 0 rfl) ?_
  refine lv_iload_n hx hb dX7_setFinal_1 rfl (lv_at hl 1 rfl) ?_
  refine xcalli (wr := ([] : va_W)) (w2 := fun (u2 : Unit) => (wN cI aN zN)) (va_runV (As := [.int x1]) (rest := []) ⟨hx, hb, hml, hown, hts⟩ (mX7_isState l D cI cO tA tS aN zN x1 _ h) (cwV 1 hts gX7_setFinal_X7_isState rfl rfl rfl (by decide +kernel) ⟨Nat.le_of_ble_eq_true rfl, Nat.le_of_ble_eq_true rfl⟩) (xpreV hP hD hS hA hK hE [0, 1, 2, 3, 4, 5, 6, 7, 8, 9, 10, 11] rfl rfl 7 0 rfl rfl) rfl rfl hl.1 rfl (lv_room (Nat.le_of_ble_eq_true rfl)) dX7_setFinal_2 ⟨Nat.le_refl 0, Nat.le_refl 0⟩) hP hD hS hA [0, 1, 2, 3, 4, 5, 6, 7, 8, 9, 10, 11] [] [0, 1, 2, 3, 4, 5, 6, 7, 8, 9, 10, 11] rfl rfl rfl (by decide) rfl (fun _ => rfl) (fun r2 u2 H locs h hP hD hS => ?_)
  obtain ⟨hh1, hh2⟩ := h
  refine lv_if_ne (tgt := 10) hx hb dX7_setFinal_5 (by decide) (fun hc => ?_) (fun hc => ?_)
  · have h := hh2 hc
    refine lv_aload_n hx hb dX7_setFinal_10 rfl (lv_at hl 0 rfl) ?_
    refine xcallv (wr := ([] : va_W)) (w2 := fun (u11 : (CS)) => (wN cI aN u11)) (va_runV (As := []) (rest := []) ⟨hx, hb, hml, hown, hts⟩ (mX7_edit l D cI cO tA tS aN zN _ h) (cwV 0 hts gX7_setFinal_X7_edit rfl rfl rfl (by decide +kernel) ⟨Nat.le_of_ble_eq_true rfl, Nat.le_of_ble_eq_true rfl⟩) (xpreV hP hD hS hA hK hE [0, 1, 2, 3, 4, 5, 6, 7, 8, 9, 10, 11] rfl rfl 7 0 rfl rfl) rfl rfl hl.1 rfl (lv_room (Nat.le_of_ble_eq_true rfl)) dX7_setFinal_11 ⟨Nat.le_refl 0, Nat.le_refl 0⟩) hP hD hS hA [0, 1, 2, 3, 4, 5, 6, 7, 8, 9, 10, 11] [] [0, 1, 2, 3, 4, 5, 6, 7, 8, 9, 10, 11] rfl rfl rfl (by decide) rfl (fun _ => rfl) (fun u11 H locs h hP hD hS => ?_)
    refine lv_aload_n hx hb dX7_setFinal_14 rfl (lv_at hl 0 rfl) ?_
    refine va_get (D := D) (ci := 7) (v := .ref (aN 8)) (C := RX7) (T := TX7) (N := 14) hx hb hts jX7_setFinal_X7 hown hK hP 0 rfl rfl 9 (by decide) (hts (.fieldLink RX7 35 "BrotherAutomataModel" "now" "[I") (List.mem_of_getElem? (i := 1) rfl)) (fun _ h9 => h9) rfl dX7_setFinal_15 ?_
    refine lv_bipush (v := 81) hx hb dX7_setFinal_18 (by decide) ?_
    refine lv_aload_n hx hb dX7_setFinal_20 rfl (lv_at hl 0 rfl) ?_
    refine va_get (D := D) (ci := 7) (v := .ref (aN 8)) (C := RX7) (T := TX7) (N := 14) hx hb hts jX7_setFinal_X7 hown hK hP 0 rfl rfl 9 (by decide) (hts (.fieldLink RX7 35 "BrotherAutomataModel" "now" "[I") (List.mem_of_getElem? (i := 1) rfl)) (fun _ h9 => h9) rfl dX7_setFinal_21 ?_
    refine lv_bipush (v := 81) hx hb dX7_setFinal_24 (by decide) ?_
    obtain ⟨hi, h⟩ := h
    refine va_iald hx hb hK hP 8 0 rfl rfl hi dX7_setFinal_26 ?_
    refine lv_iconst (v := 1) hx hb dX7_setFinal_27 (by decide) ?_
    refine lv_iload_n hx hb dX7_setFinal_28 rfl (lv_at hl 1 rfl) ?_
    refine lv_ishl hx hb dX7_setFinal_29 ?_
    refine lv_iconst (v := -1) hx hb dX7_setFinal_30 (by decide) ?_
    refine lv_ixor hx hb dX7_setFinal_31 ?_
    refine lv_iand hx hb dX7_setFinal_32 ?_
    refine lv_iload_n hx hb dX7_setFinal_33 rfl (lv_at hl 2 rfl) ?_
    obtain ⟨hh1, hh2⟩ := h
    refine lv_if_eq (tgt := 43) hx hb dX7_setFinal_34 (by decide) (fun hc => ?_) (fun hc => ?_)
    · have h := hh1 hc
      refine lv_iconst (v := 0) hx hb dX7_setFinal_43 (by decide) ?_
      exact g44 (81 : Int32) (((u11 7) (81 : Int32).toNatClampNeg) &&& (((1 : Int32) <<< (x1 &&& 31)) ^^^ (-1 : Int32))) (0 : Int32) u11 _ _ _ h hP hD hS hl
    · have h := hh2 hc
      refine lv_iconst (v := 1) hx hb dX7_setFinal_37 (by decide) ?_
      refine lv_iload_n hx hb dX7_setFinal_38 rfl (lv_at hl 1 rfl) ?_
      refine lv_ishl hx hb dX7_setFinal_39 ?_
      refine lv_goto (tgt := 44) hx hb dX7_setFinal_40 (by decide) ?_
      exact g44 (81 : Int32) (((u11 7) (81 : Int32).toNatClampNeg) &&& (((1 : Int32) <<< (x1 &&& 31)) ^^^ (-1 : Int32))) ((1 : Int32) <<< (x1 &&& 31)) u11 _ _ _ h hP hD hS hl
  · have h := hh1 hc
    refine lv_iconst (v := -1) hx hb dX7_setFinal_8 (by decide) ?_
    exact xiret (w := (w_X7_setFinal cI cO aN)) (zN) hx hb hr hlocks h hP hK hD hS dX7_setFinal_9
set_option maxRecDepth 20000 in
theorem ggX7_addRule_X7_in : GoodIn wsX7_addRule wsX7_in := goodIn_r _ [5] (by decide +kernel) (by decide +kernel)
set_option maxRecDepth 20000 in
theorem gX7_addRule_X7_in : GoodIn wsX7_addRule (va_wsS RX7 58 yX7_in wsX7_in) := goodIn_app (goodIn_of _ (by decide +kernel)) ggX7_addRule_X7_in
set_option maxRecDepth 20000 in
theorem ggX7_addRule_X7_isState : GoodIn wsX7_addRule wsX7_isState := goodIn_r _ [9, 10, 2, 3, 4, 5, 20, 21, 22, 23, 24, 25, 26, 27, 28, 29, 30, 31, 32, 33] (by decide +kernel) (by decide +kernel)
set_option maxRecDepth 20000 in
theorem gX7_addRule_X7_isState : GoodIn wsX7_addRule (wsV RX7 65 RX7 yX7_isState wsX7_isState) := goodIn_app (goodIn_of _ (by decide +kernel)) ggX7_addRule_X7_isState
set_option maxRecDepth 20000 in
theorem ggX7_addRule_X7_arity : GoodIn wsX7_addRule wsX7_arity := goodIn_r _ [13] (by decide +kernel) (by decide +kernel)
set_option maxRecDepth 20000 in
theorem gX7_addRule_X7_arity : GoodIn wsX7_addRule (va_wsS RX7 76 yX7_arity wsX7_arity) := goodIn_app (goodIn_of _ (by decide +kernel)) ggX7_addRule_X7_arity
set_option maxRecDepth 20000 in
theorem ggX7_addRule_X7_edit : GoodIn wsX7_addRule wsX7_edit := goodIn_r _ [17, 18, 19, 1, 20, 21, 22, 23, 24, 25, 26, 27, 28, 29, 30, 31, 32, 33] (by decide +kernel) (by decide +kernel)
set_option maxRecDepth 20000 in
theorem gX7_addRule_X7_edit : GoodIn wsX7_addRule (wsV RX7 69 RX7 yX7_edit wsX7_edit) := goodIn_app (goodIn_of _ (by decide +kernel)) ggX7_addRule_X7_edit
theorem dX7_addRule_0 : decode cX7_addRule 0 = .ok (.iload_n 1, 1) := by decide +kernel
theorem dX7_addRule_1 : decode cX7_addRule 1 = .ok (.iconst 0, 1) := by decide +kernel
theorem dX7_addRule_2 : decode cX7_addRule 2 = .ok (.iconst 4, 1) := by decide +kernel
theorem dX7_addRule_3 : decode cX7_addRule 3 = .ok (.invokestatic 58, 3) := by decide +kernel
theorem dX7_addRule_6 : decode cX7_addRule 6 = .ok (.ifCond .eq 26, 3) := by decide +kernel
theorem dX7_addRule_9 : decode cX7_addRule 9 = .ok (.aload_n 0, 1) := by decide +kernel
theorem dX7_addRule_10 : decode cX7_addRule 10 = .ok (.iload 5, 2) := by decide +kernel
theorem dX7_addRule_12 : decode cX7_addRule 12 = .ok (.invokevirtual 65, 3) := by decide +kernel
theorem dX7_addRule_15 : decode cX7_addRule 15 = .ok (.ifCond .eq 17, 3) := by decide +kernel
theorem dX7_addRule_18 : decode cX7_addRule 18 = .ok (.iload 4, 2) := by decide +kernel
theorem dX7_addRule_20 : decode cX7_addRule 20 = .ok (.iconst 0, 1) := by decide +kernel
theorem dX7_addRule_21 : decode cX7_addRule 21 = .ok (.iconst 2, 1) := by decide +kernel
theorem dX7_addRule_22 : decode cX7_addRule 22 = .ok (.invokestatic 58, 3) := by decide +kernel
theorem dX7_addRule_25 : decode cX7_addRule 25 = .ok (.ifCond .eq 7, 3) := by decide +kernel
theorem dX7_addRule_28 : decode cX7_addRule 28 = .ok (.iconst 1, 1) := by decide +kernel
theorem dX7_addRule_29 : decode cX7_addRule 29 = .ok (.goto 4, 3) := by decide +kernel
theorem dX7_addRule_32 : decode cX7_addRule 32 = .ok (.iconst 0, 1) := by decide +kernel
theorem dX7_addRule_33 : decode cX7_addRule 33 = .ok (.istore 6, 2) := by decide +kernel
theorem dX7_addRule_35 : decode cX7_addRule 35 = .ok (.iload 6, 2) := by decide +kernel
theorem dX7_addRule_37 : decode cX7_addRule 37 = .ok (.ifCond .eq 57, 3) := by decide +kernel
theorem dX7_addRule_40 : decode cX7_addRule 40 = .ok (.iload_n 1, 1) := by decide +kernel
theorem dX7_addRule_41 : decode cX7_addRule 41 = .ok (.invokestatic 76, 3) := by decide +kernel
theorem dX7_addRule_44 : decode cX7_addRule 44 = .ok (.ifCond .le 14, 3) := by decide +kernel
theorem dX7_addRule_47 : decode cX7_addRule 47 = .ok (.aload_n 0, 1) := by decide +kernel
theorem dX7_addRule_48 : decode cX7_addRule 48 = .ok (.iload_n 2, 1) := by decide +kernel
theorem dX7_addRule_49 : decode cX7_addRule 49 = .ok (.invokevirtual 65, 3) := by decide +kernel
theorem dX7_addRule_52 : decode cX7_addRule 52 = .ok (.ifCond .eq 42, 3) := by decide +kernel
theorem dX7_addRule_55 : decode cX7_addRule 55 = .ok (.goto 7, 3) := by decide +kernel
theorem dX7_addRule_58 : decode cX7_addRule 58 = .ok (.iload_n 2, 1) := by decide +kernel
theorem dX7_addRule_59 : decode cX7_addRule 59 = .ok (.ifCond .ne 35, 3) := by decide +kernel
theorem dX7_addRule_62 : decode cX7_addRule 62 = .ok (.iload_n 1, 1) := by decide +kernel
theorem dX7_addRule_63 : decode cX7_addRule 63 = .ok (.invokestatic 76, 3) := by decide +kernel
theorem dX7_addRule_66 : decode cX7_addRule 66 = .ok (.iconst 1, 1) := by decide +kernel
theorem dX7_addRule_67 : decode cX7_addRule 67 = .ok (.if_icmp .le 14, 3) := by decide +kernel
theorem dX7_addRule_70 : decode cX7_addRule 70 = .ok (.aload_n 0, 1) := by decide +kernel
theorem dX7_addRule_71 : decode cX7_addRule 71 = .ok (.iload_n 3, 1) := by decide +kernel
theorem dX7_addRule_72 : decode cX7_addRule 72 = .ok (.invokevirtual 65, 3) := by decide +kernel
theorem dX7_addRule_75 : decode cX7_addRule 75 = .ok (.ifCond .eq 19, 3) := by decide +kernel
theorem dX7_addRule_78 : decode cX7_addRule 78 = .ok (.goto 12, 3) := by decide +kernel
theorem dX7_addRule_81 : decode cX7_addRule 81 = .ok (.iload_n 3, 1) := by decide +kernel
theorem dX7_addRule_82 : decode cX7_addRule 82 = .ok (.ifCond .ne 12, 3) := by decide +kernel
theorem dX7_addRule_85 : decode cX7_addRule 85 = .ok (.iload 4, 2) := by decide +kernel
theorem dX7_addRule_87 : decode cX7_addRule 87 = .ok (.ifCond .ne 7, 3) := by decide +kernel
theorem dX7_addRule_90 : decode cX7_addRule 90 = .ok (.iconst 1, 1) := by decide +kernel
theorem dX7_addRule_91 : decode cX7_addRule 91 = .ok (.goto 4, 3) := by decide +kernel
theorem dX7_addRule_94 : decode cX7_addRule 94 = .ok (.iconst 0, 1) := by decide +kernel
theorem dX7_addRule_95 : decode cX7_addRule 95 = .ok (.istore 6, 2) := by decide +kernel
theorem dX7_addRule_97 : decode cX7_addRule 97 = .ok (.iload 6, 2) := by decide +kernel
theorem dX7_addRule_99 : decode cX7_addRule 99 = .ok (.ifCond .ne 5, 3) := by decide +kernel
theorem dX7_addRule_102 : decode cX7_addRule 102 = .ok (.iconst (-1), 1) := by decide +kernel
theorem dX7_addRule_103 : decode cX7_addRule 103 = .ok (.ireturn, 1) := by decide +kernel
theorem dX7_addRule_104 : decode cX7_addRule 104 = .ok (.aload_n 0, 1) := by decide +kernel
theorem dX7_addRule_105 : decode cX7_addRule 105 = .ok (.getfield 35, 3) := by decide +kernel
theorem dX7_addRule_108 : decode cX7_addRule 108 = .ok (.bipush 80, 2) := by decide +kernel
theorem dX7_addRule_110 : decode cX7_addRule 110 = .ok (.iaload, 1) := by decide +kernel
theorem dX7_addRule_111 : decode cX7_addRule 111 = .ok (.bipush 16, 2) := by decide +kernel
theorem dX7_addRule_113 : decode cX7_addRule 113 = .ok (.if_icmp .ne 6, 3) := by decide +kernel
theorem dX7_addRule_116 : decode cX7_addRule 116 = .ok (.bipush (-2), 2) := by decide +kernel
theorem dX7_addRule_118 : decode cX7_addRule 118 = .ok (.ireturn, 1) := by decide +kernel
theorem dX7_addRule_119 : decode cX7_addRule 119 = .ok (.aload_n 0, 1) := by decide +kernel
theorem dX7_addRule_120 : decode cX7_addRule 120 = .ok (.invokevirtual 69, 3) := by decide +kernel
theorem dX7_addRule_123 : decode cX7_addRule 123 = .ok (.iconst 5, 1) := by decide +kernel
theorem dX7_addRule_124 : decode cX7_addRule 124 = .ok (.aload_n 0, 1) := by decide +kernel
theorem dX7_addRule_125 : decode cX7_addRule 125 = .ok (.getfield 35, 3) := by decide +kernel
theorem dX7_addRule_128 : decode cX7_addRule 128 = .ok (.bipush 80, 2) := by decide +kernel
theorem dX7_addRule_130 : decode cX7_addRule 130 = .ok (.iaload, 1) := by decide +kernel
theorem dX7_addRule_131 : decode cX7_addRule 131 = .ok (.imul, 1) := by decide +kernel
theorem dX7_addRule_132 : decode cX7_addRule 132 = .ok (.istore 7, 2) := by decide +kernel
theorem dX7_addRule_134 : decode cX7_addRule 134 = .ok (.aload_n 0, 1) := by decide +kernel
theorem dX7_addRule_135 : decode cX7_addRule 135 = .ok (.getfield 35, 3) := by decide +kernel
theorem dX7_addRule_138 : decode cX7_addRule 138 = .ok (.iload 7, 2) := by decide +kernel
theorem dX7_addRule_140 : decode cX7_addRule 140 = .ok (.iload_n 1, 1) := by decide +kernel
theorem dX7_addRule_141 : decode cX7_addRule 141 = .ok (.iastore, 1) := by decide +kernel
theorem dX7_addRule_142 : decode cX7_addRule 142 = .ok (.aload_n 0, 1) := by decide +kernel
theorem dX7_addRule_143 : decode cX7_addRule 143 = .ok (.getfield 35, 3) := by decide +kernel
theorem dX7_addRule_146 : decode cX7_addRule 146 = .ok (.iload 7, 2) := by decide +kernel
theorem dX7_addRule_148 : decode cX7_addRule 148 = .ok (.iconst 1, 1) := by decide +kernel
theorem dX7_addRule_149 : decode cX7_addRule 149 = .ok (.iadd, 1) := by decide +kernel
theorem dX7_addRule_150 : decode cX7_addRule 150 = .ok (.iload_n 2, 1) := by decide +kernel
theorem dX7_addRule_151 : decode cX7_addRule 151 = .ok (.iastore, 1) := by decide +kernel
theorem dX7_addRule_152 : decode cX7_addRule 152 = .ok (.aload_n 0, 1) := by decide +kernel
theorem dX7_addRule_153 : decode cX7_addRule 153 = .ok (.getfield 35, 3) := by decide +kernel
theorem dX7_addRule_156 : decode cX7_addRule 156 = .ok (.iload 7, 2) := by decide +kernel
theorem dX7_addRule_158 : decode cX7_addRule 158 = .ok (.iconst 2, 1) := by decide +kernel
theorem dX7_addRule_159 : decode cX7_addRule 159 = .ok (.iadd, 1) := by decide +kernel
theorem dX7_addRule_160 : decode cX7_addRule 160 = .ok (.iload_n 3, 1) := by decide +kernel
theorem dX7_addRule_161 : decode cX7_addRule 161 = .ok (.iastore, 1) := by decide +kernel
theorem dX7_addRule_162 : decode cX7_addRule 162 = .ok (.aload_n 0, 1) := by decide +kernel
theorem dX7_addRule_163 : decode cX7_addRule 163 = .ok (.getfield 35, 3) := by decide +kernel
theorem dX7_addRule_166 : decode cX7_addRule 166 = .ok (.iload 7, 2) := by decide +kernel
theorem dX7_addRule_168 : decode cX7_addRule 168 = .ok (.iconst 3, 1) := by decide +kernel
theorem dX7_addRule_169 : decode cX7_addRule 169 = .ok (.iadd, 1) := by decide +kernel
theorem dX7_addRule_170 : decode cX7_addRule 170 = .ok (.iload 4, 2) := by decide +kernel
theorem dX7_addRule_172 : decode cX7_addRule 172 = .ok (.iastore, 1) := by decide +kernel
theorem dX7_addRule_173 : decode cX7_addRule 173 = .ok (.aload_n 0, 1) := by decide +kernel
theorem dX7_addRule_174 : decode cX7_addRule 174 = .ok (.getfield 35, 3) := by decide +kernel
theorem dX7_addRule_177 : decode cX7_addRule 177 = .ok (.iload 7, 2) := by decide +kernel
theorem dX7_addRule_179 : decode cX7_addRule 179 = .ok (.iconst 4, 1) := by decide +kernel
theorem dX7_addRule_180 : decode cX7_addRule 180 = .ok (.iadd, 1) := by decide +kernel
theorem dX7_addRule_181 : decode cX7_addRule 181 = .ok (.iload 5, 2) := by decide +kernel
theorem dX7_addRule_183 : decode cX7_addRule 183 = .ok (.iastore, 1) := by decide +kernel
theorem dX7_addRule_184 : decode cX7_addRule 184 = .ok (.aload_n 0, 1) := by decide +kernel
theorem dX7_addRule_185 : decode cX7_addRule 185 = .ok (.getfield 35, 3) := by decide +kernel
theorem dX7_addRule_188 : decode cX7_addRule 188 = .ok (.bipush 80, 2) := by decide +kernel
theorem dX7_addRule_190 : decode cX7_addRule 190 = .ok (.dup2, 1) := by decide +kernel
theorem dX7_addRule_191 : decode cX7_addRule 191 = .ok (.iaload, 1) := by decide +kernel
theorem dX7_addRule_192 : decode cX7_addRule 192 = .ok (.iconst 1, 1) := by decide +kernel
theorem dX7_addRule_193 : decode cX7_addRule 193 = .ok (.iadd, 1) := by decide +kernel
theorem dX7_addRule_194 : decode cX7_addRule 194 = .ok (.iastore, 1) := by decide +kernel
theorem dX7_addRule_195 : decode cX7_addRule 195 = .ok (.aload_n 0, 1) := by decide +kernel
theorem dX7_addRule_196 : decode cX7_addRule 196 = .ok (.getfield 35, 3) := by decide +kernel
theorem dX7_addRule_199 : decode cX7_addRule 199 = .ok (.bipush 80, 2) := by decide +kernel
theorem dX7_addRule_201 : decode cX7_addRule 201 = .ok (.iaload, 1) := by decide +kernel
theorem dX7_addRule_202 : decode cX7_addRule 202 = .ok (.iconst 1, 1) := by decide +kernel
theorem dX7_addRule_203 : decode cX7_addRule 203 = .ok (.isub, 1) := by decide +kernel
theorem dX7_addRule_204 : decode cX7_addRule 204 = .ok (.ireturn, 1) := by decide +kernel
theorem jX7_addRule_X7 : ∀ w ∈ wsX70, w ∈ wsX7_addRule := by decide +kernel
abbrev w_X7_addRule (cI cO : ClassId) (aN : Nat → Nat)  : ((CS)) → va_W := fun u => (wN cI aN u)
set_option maxRecDepth 100000 in
set_option maxHeartbeats 8000000 in
theorem mX7_addRule (l : Launch) (D : va_G) (cI cO : ClassId) (tA tS : Nat) (aN : Nat → Nat) (zN : CS) (x1 : Int32) (x2 : Int32) (x3 : Int32) (x4 : Int32) (x5 : Int32) (sz : Nat) {post : Int32 → ((CS)) → Prop} (h : qX7_addRule post x1 x2 x3 x4 x5 zN) : Met l yX7_addRule wsX7_addRule ({ frames := 2, cells := 0, slots := 0, locals := 43 } : Room) (xPre D cI cO tA tS [.ref (aN 0), .int x1, .int x2, .int x3, .int x4, .int x5] (wN cI aN zN) sz) (va_Qi post (xB D cI cO (va_A (wN cI aN zN) sz) (w_X7_addRule cI cO aN)) (va_A (wN cI aN zN) sz)) 0 0 (va_A (wN cI aN zN) sz) := by
  refine xMet D cI cO tA tS (fun A => va_Qi post (xB D cI cO A (w_X7_addRule cI cO aN)) A) (cc := cX7_addRule) (maxL := 8) (ret := (some .int)) (by decide) rfl (Nat.le_of_ble_eq_true rfl) ?_
  intro p e s m below meth c A ls hx hb hr hts hown hlocks hin hml hA hS hP hK hD hE hl
  have hown : s.vm.findClass RX7 = some m.cls := hown
  have hl : lv_has ls 8 [(0, .ref (aN 0)), (1, .int x1), (2, .int x2), (3, .int x3), (4, .int x4), (5, .int x5)] := hl
  have g95 : ∀ (y6 : Int32) (w0 : Int32) (zN : CS) (H : Heap) (locs : List Loc) (ls : Array Slot), qX7_addRule_95 post x1 x2 x3 x4 x5 y6 w0 zN → va_P D vwCl (wN cI aN zN) H → va_D A (wN cI aN zN) → va_S A s.heap H locs → lv_has ls 8 [(6, .int y6), (0, .ref (aN 0)), (1, .int x1), (2, .int x2), (3, .int x3), (4, .int x4), (5, .int x5)] → W p l e ({ frames := 2, cells := 0, slots := 0, locals := 43 } : Room) s m ([.ref (aN 0), .int x1, .int x2, .int x3, .int x4, .int x5] : List Value).toArray below meth c H locs 0 0 (MQ below (va_Qi post (xB D cI cO A (w_X7_addRule cI cO aN)) A) ([.ref (aN 0), .int x1, .int x2, .int x3, .int x4, .int x5] : List Value).toArray s 0 0 A) (F0 m 95 ls [.int w0]) := by
    intro y6 w0 zN H locs ls h hP hD hS hl
    refine lv_istore (lv' := [(6, .int w0), (0, .ref (aN 0)), (1, .int x1), (2, .int x2), (3, .int x3), (4, .int x4), (5, .int x5)]) hx hb dX7_addRule_95 hl (by decide) rfl (fun ls hl => ?_)
    refine lv_iload hx hb dX7_addRule_97 (lv_at hl 0 rfl) ?_
    obtain ⟨hh1, hh2⟩ := h
    refine lv_if_ne (tgt := 104) hx hb dX7_addRule_99 (by decide) (fun hc => ?_) (fun hc => ?_)
    · have h := hh2 hc
      refine lv_aload_n hx hb dX7_addRule_104 rfl (lv_at hl 1 rfl) ?_
      refine va_get (D := D) (ci := 7) (v := .ref (aN 8)) (C := RX7) (T := TX7) (N := 14) hx hb hts jX7_addRule_X7 hown hK hP 0 rfl rfl 9 (by decide) (hts (.fieldLink RX7 35 "BrotherAutomataModel" "now" "[I") (List.mem_of_getElem? (i := 1) rfl)) (fun _ h9 => h9) rfl dX7_addRule_105 ?_
      refine lv_bipush (v := 80) hx hb dX7_addRule_108 (by decide) ?_
      obtain ⟨hi, h⟩ := h
      refine va_iald hx hb hK hP 8 0 rfl rfl hi dX7_addRule_110 ?_
      refine lv_bipush (v := 16) hx hb dX7_addRule_111 (by decide) ?_
      obtain ⟨hh1, hh2⟩ := h
      refine lv_icmp_ne (tgt := 119) hx hb dX7_addRule_113 (by decide) (fun hc => ?_) (fun hc => ?_)
      · have h := hh2 hc
        refine lv_aload_n hx hb dX7_addRule_119 rfl (lv_at hl 1 rfl) ?_
        refine xcallv (wr := ([] : va_W)) (w2 := fun (u120 : (CS)) => (wN cI aN u120)) (va_runV (As := []) (rest := []) ⟨hx, hb, hml, hown, hts⟩ (mX7_edit l D cI cO tA tS aN zN _ h) (cwV 0 hts gX7_addRule_X7_edit rfl rfl rfl (by decide +kernel) ⟨Nat.le_of_ble_eq_true rfl, Nat.le_of_ble_eq_true rfl⟩) (xpreV hP hD hS hA hK hE [0, 1, 2, 3, 4, 5, 6, 7, 8, 9, 10, 11] rfl rfl 7 0 rfl rfl) rfl rfl hl.1 rfl (lv_room (Nat.le_of_ble_eq_true rfl)) dX7_addRule_120 ⟨Nat.le_refl 0, Nat.le_refl 0⟩) hP hD hS hA [0, 1, 2, 3, 4, 5, 6, 7, 8, 9, 10, 11] [] [0, 1, 2, 3, 4, 5, 6, 7, 8, 9, 10, 11] rfl rfl rfl (by decide) rfl (fun _ => rfl) (fun u120 H locs h hP hD hS => ?_)
        refine lv_iconst (v := 5) hx hb dX7_addRule_123 (by decide) ?_
        refine lv_aload_n hx hb dX7_addRule_124 rfl (lv_at hl 1 rfl) ?_
        refine va_get (D := D) (ci := 7) (v := .ref (aN 8)) (C := RX7) (T := TX7) (N := 14) hx hb hts jX7_addRule_X7 hown hK hP 0 rfl rfl 9 (by decide) (hts (.fieldLink RX7 35 "BrotherAutomataModel" "now" "[I") (List.mem_of_getElem? (i := 1) rfl)) (fun _ h9 => h9) rfl dX7_addRule_125 ?_
        refine lv_bipush (v := 80) hx hb dX7_addRule_128 (by decide) ?_
        obtain ⟨hi, h⟩ := h
        refine va_iald hx hb hK hP 8 0 rfl rfl hi dX7_addRule_130 ?_
        refine lv_imul hx hb dX7_addRule_131 ?_
        refine lv_istore (lv' := [(7, .int ((5 : Int32) * ((u120 7) (80 : Int32).toNatClampNeg))), (6, .int w0), (0, .ref (aN 0)), (1, .int x1), (2, .int x2), (3, .int x3), (4, .int x4), (5, .int x5)]) hx hb dX7_addRule_132 hl (by decide) rfl (fun ls hl => ?_)
        refine lv_aload_n hx hb dX7_addRule_134 rfl (lv_at hl 2 rfl) ?_
        refine va_get (D := D) (ci := 7) (v := .ref (aN 8)) (C := RX7) (T := TX7) (N := 14) hx hb hts jX7_addRule_X7 hown hK hP 0 rfl rfl 9 (by decide) (hts (.fieldLink RX7 35 "BrotherAutomataModel" "now" "[I") (List.mem_of_getElem? (i := 1) rfl)) (fun _ h9 => h9) rfl dX7_addRule_135 ?_
        refine lv_iload hx hb dX7_addRule_138 (lv_at hl 0 rfl) ?_
        refine lv_iload_n hx hb dX7_addRule_140 rfl (lv_at hl 3 rfl) ?_
        obtain ⟨hi, h⟩ := h
        refine va_iast hx hb hK hP hD hS 8 0 rfl rfl hi dX7_addRule_141 (fun H locs hP hD hS => ?_)
        have hP : va_P D vwCl (wN cI aN (st u120 7 ((5 : Int32) * ((u120 7) (80 : Int32).toNatClampNeg)).toNatClampNeg x1)) H := hP
        have hD : va_D A (wN cI aN (st u120 7 ((5 : Int32) * ((u120 7) (80 : Int32).toNatClampNeg)).toNatClampNeg x1)) := hD
        refine lv_aload_n hx hb dX7_addRule_142 rfl (lv_at hl 2 rfl) ?_
        refine va_get (D := D) (ci := 7) (v := .ref (aN 8)) (C := RX7) (T := TX7) (N := 14) hx hb hts jX7_addRule_X7 hown hK hP 0 rfl rfl 9 (by decide) (hts (.fieldLink RX7 35 "BrotherAutomataModel" "now" "[I") (List.mem_of_getElem? (i := 1) rfl)) (fun _ h9 => h9) rfl dX7_addRule_143 ?_
        refine lv_iload hx hb dX7_addRule_146 (lv_at hl 0 rfl) ?_
        refine lv_iconst (v := 1) hx hb dX7_addRule_148 (by decide) ?_
        refine lv_iadd hx hb dX7_addRule_149 ?_
        refine lv_iload_n hx hb dX7_addRule_150 rfl (lv_at hl 4 rfl) ?_
        obtain ⟨hi, h⟩ := h
        refine va_iast hx hb hK hP hD hS 8 0 rfl rfl hi dX7_addRule_151 (fun H locs hP hD hS => ?_)
        have hP : va_P D vwCl (wN cI aN (st (st u120 7 ((5 : Int32) * ((u120 7) (80 : Int32).toNatClampNeg)).toNatClampNeg x1) 7 (((5 : Int32) * ((u120 7) (80 : Int32).toNatClampNeg)) + (1 : Int32)).toNatClampNeg x2)) H := hP
        have hD : va_D A (wN cI aN (st (st u120 7 ((5 : Int32) * ((u120 7) (80 : Int32).toNatClampNeg)).toNatClampNeg x1) 7 (((5 : Int32) * ((u120 7) (80 : Int32).toNatClampNeg)) + (1 : Int32)).toNatClampNeg x2)) := hD
        refine lv_aload_n hx hb dX7_addRule_152 rfl (lv_at hl 2 rfl) ?_
        refine va_get (D := D) (ci := 7) (v := .ref (aN 8)) (C := RX7) (T := TX7) (N := 14) hx hb hts jX7_addRule_X7 hown hK hP 0 rfl rfl 9 (by decide) (hts (.fieldLink RX7 35 "BrotherAutomataModel" "now" "[I") (List.mem_of_getElem? (i := 1) rfl)) (fun _ h9 => h9) rfl dX7_addRule_153 ?_
        refine lv_iload hx hb dX7_addRule_156 (lv_at hl 0 rfl) ?_
        refine lv_iconst (v := 2) hx hb dX7_addRule_158 (by decide) ?_
        refine lv_iadd hx hb dX7_addRule_159 ?_
        refine lv_iload_n hx hb dX7_addRule_160 rfl (lv_at hl 5 rfl) ?_
        obtain ⟨hi, h⟩ := h
        refine va_iast hx hb hK hP hD hS 8 0 rfl rfl hi dX7_addRule_161 (fun H locs hP hD hS => ?_)
        have hP : va_P D vwCl (wN cI aN (st (st (st u120 7 ((5 : Int32) * ((u120 7) (80 : Int32).toNatClampNeg)).toNatClampNeg x1) 7 (((5 : Int32) * ((u120 7) (80 : Int32).toNatClampNeg)) + (1 : Int32)).toNatClampNeg x2) 7 (((5 : Int32) * ((u120 7) (80 : Int32).toNatClampNeg)) + (2 : Int32)).toNatClampNeg x3)) H := hP
        have hD : va_D A (wN cI aN (st (st (st u120 7 ((5 : Int32) * ((u120 7) (80 : Int32).toNatClampNeg)).toNatClampNeg x1) 7 (((5 : Int32) * ((u120 7) (80 : Int32).toNatClampNeg)) + (1 : Int32)).toNatClampNeg x2) 7 (((5 : Int32) * ((u120 7) (80 : Int32).toNatClampNeg)) + (2 : Int32)).toNatClampNeg x3)) := hD
        refine lv_aload_n hx hb dX7_addRule_162 rfl (lv_at hl 2 rfl) ?_
        refine va_get (D := D) (ci := 7) (v := .ref (aN 8)) (C := RX7) (T := TX7) (N := 14) hx hb hts jX7_addRule_X7 hown hK hP 0 rfl rfl 9 (by decide) (hts (.fieldLink RX7 35 "BrotherAutomataModel" "now" "[I") (List.mem_of_getElem? (i := 1) rfl)) (fun _ h9 => h9) rfl dX7_addRule_163 ?_
        refine lv_iload hx hb dX7_addRule_166 (lv_at hl 0 rfl) ?_
        refine lv_iconst (v := 3) hx hb dX7_addRule_168 (by decide) ?_
        refine lv_iadd hx hb dX7_addRule_169 ?_
        refine lv_iload hx hb dX7_addRule_170 (lv_at hl 6 rfl) ?_
        obtain ⟨hi, h⟩ := h
        refine va_iast hx hb hK hP hD hS 8 0 rfl rfl hi dX7_addRule_172 (fun H locs hP hD hS => ?_)
        have hP : va_P D vwCl (wN cI aN (st (st (st (st u120 7 ((5 : Int32) * ((u120 7) (80 : Int32).toNatClampNeg)).toNatClampNeg x1) 7 (((5 : Int32) * ((u120 7) (80 : Int32).toNatClampNeg)) + (1 : Int32)).toNatClampNeg x2) 7 (((5 : Int32) * ((u120 7) (80 : Int32).toNatClampNeg)) + (2 : Int32)).toNatClampNeg x3) 7 (((5 : Int32) * ((u120 7) (80 : Int32).toNatClampNeg)) + (3 : Int32)).toNatClampNeg x4)) H := hP
        have hD : va_D A (wN cI aN (st (st (st (st u120 7 ((5 : Int32) * ((u120 7) (80 : Int32).toNatClampNeg)).toNatClampNeg x1) 7 (((5 : Int32) * ((u120 7) (80 : Int32).toNatClampNeg)) + (1 : Int32)).toNatClampNeg x2) 7 (((5 : Int32) * ((u120 7) (80 : Int32).toNatClampNeg)) + (2 : Int32)).toNatClampNeg x3) 7 (((5 : Int32) * ((u120 7) (80 : Int32).toNatClampNeg)) + (3 : Int32)).toNatClampNeg x4)) := hD
        refine lv_aload_n hx hb dX7_addRule_173 rfl (lv_at hl 2 rfl) ?_
        refine va_get (D := D) (ci := 7) (v := .ref (aN 8)) (C := RX7) (T := TX7) (N := 14) hx hb hts jX7_addRule_X7 hown hK hP 0 rfl rfl 9 (by decide) (hts (.fieldLink RX7 35 "BrotherAutomataModel" "now" "[I") (List.mem_of_getElem? (i := 1) rfl)) (fun _ h9 => h9) rfl dX7_addRule_174 ?_
        refine lv_iload hx hb dX7_addRule_177 (lv_at hl 0 rfl) ?_
        refine lv_iconst (v := 4) hx hb dX7_addRule_179 (by decide) ?_
        refine lv_iadd hx hb dX7_addRule_180 ?_
        refine lv_iload hx hb dX7_addRule_181 (lv_at hl 7 rfl) ?_
        obtain ⟨hi, h⟩ := h
        refine va_iast hx hb hK hP hD hS 8 0 rfl rfl hi dX7_addRule_183 (fun H locs hP hD hS => ?_)
        have hP : va_P D vwCl (wN cI aN (st (st (st (st (st u120 7 ((5 : Int32) * ((u120 7) (80 : Int32).toNatClampNeg)).toNatClampNeg x1) 7 (((5 : Int32) * ((u120 7) (80 : Int32).toNatClampNeg)) + (1 : Int32)).toNatClampNeg x2) 7 (((5 : Int32) * ((u120 7) (80 : Int32).toNatClampNeg)) + (2 : Int32)).toNatClampNeg x3) 7 (((5 : Int32) * ((u120 7) (80 : Int32).toNatClampNeg)) + (3 : Int32)).toNatClampNeg x4) 7 (((5 : Int32) * ((u120 7) (80 : Int32).toNatClampNeg)) + (4 : Int32)).toNatClampNeg x5)) H := hP
        have hD : va_D A (wN cI aN (st (st (st (st (st u120 7 ((5 : Int32) * ((u120 7) (80 : Int32).toNatClampNeg)).toNatClampNeg x1) 7 (((5 : Int32) * ((u120 7) (80 : Int32).toNatClampNeg)) + (1 : Int32)).toNatClampNeg x2) 7 (((5 : Int32) * ((u120 7) (80 : Int32).toNatClampNeg)) + (2 : Int32)).toNatClampNeg x3) 7 (((5 : Int32) * ((u120 7) (80 : Int32).toNatClampNeg)) + (3 : Int32)).toNatClampNeg x4) 7 (((5 : Int32) * ((u120 7) (80 : Int32).toNatClampNeg)) + (4 : Int32)).toNatClampNeg x5)) := hD
        refine lv_aload_n hx hb dX7_addRule_184 rfl (lv_at hl 2 rfl) ?_
        refine va_get (D := D) (ci := 7) (v := .ref (aN 8)) (C := RX7) (T := TX7) (N := 14) hx hb hts jX7_addRule_X7 hown hK hP 0 rfl rfl 9 (by decide) (hts (.fieldLink RX7 35 "BrotherAutomataModel" "now" "[I") (List.mem_of_getElem? (i := 1) rfl)) (fun _ h9 => h9) rfl dX7_addRule_185 ?_
        refine lv_bipush (v := 80) hx hb dX7_addRule_188 (by decide) ?_
        refine lv_dup2_11 hx hb dX7_addRule_190 rfl rfl ?_
        obtain ⟨hi, h⟩ := h
        refine va_iald hx hb hK hP 8 0 rfl rfl hi dX7_addRule_191 ?_
        refine lv_iconst (v := 1) hx hb dX7_addRule_192 (by decide) ?_
        refine lv_iadd hx hb dX7_addRule_193 ?_
        obtain ⟨hi, h⟩ := h
        refine va_iast hx hb hK hP hD hS 8 0 rfl rfl hi dX7_addRule_194 (fun H locs hP hD hS => ?_)
        have hP : va_P D vwCl (wN cI aN (st (st (st (st (st (st u120 7 ((5 : Int32) * ((u120 7) (80 : Int32).toNatClampNeg)).toNatClampNeg x1) 7 (((5 : Int32) * ((u120 7) (80 : Int32).toNatClampNeg)) + (1 : Int32)).toNatClampNeg x2) 7 (((5 : Int32) * ((u120 7) (80 : Int32).toNatClampNeg)) + (2 : Int32)).toNatClampNeg x3) 7 (((5 : Int32) * ((u120 7) (80 : Int32).toNatClampNeg)) + (3 : Int32)).toNatClampNeg x4) 7 (((5 : Int32) * ((u120 7) (80 : Int32).toNatClampNeg)) + (4 : Int32)).toNatClampNeg x5) 7 (80 : Int32).toNatClampNeg ((((st (st (st (st (st u120 7 ((5 : Int32) * ((u120 7) (80 : Int32).toNatClampNeg)).toNatClampNeg x1) 7 (((5 : Int32) * ((u120 7) (80 : Int32).toNatClampNeg)) + (1 : Int32)).toNatClampNeg x2) 7 (((5 : Int32) * ((u120 7) (80 : Int32).toNatClampNeg)) + (2 : Int32)).toNatClampNeg x3) 7 (((5 : Int32) * ((u120 7) (80 : Int32).toNatClampNeg)) + (3 : Int32)).toNatClampNeg x4) 7 (((5 : Int32) * ((u120 7) (80 : Int32).toNatClampNeg)) + (4 : Int32)).toNatClampNeg x5) 7) (80 : Int32).toNatClampNeg) + (1 : Int32)))) H := hP
        have hD : va_D A (wN cI aN (st (st (st (st (st (st u120 7 ((5 : Int32) * ((u120 7) (80 : Int32).toNatClampNeg)).toNatClampNeg x1) 7 (((5 : Int32) * ((u120 7) (80 : Int32).toNatClampNeg)) + (1 : Int32)).toNatClampNeg x2) 7 (((5 : Int32) * ((u120 7) (80 : Int32).toNatClampNeg)) + (2 : Int32)).toNatClampNeg x3) 7 (((5 : Int32) * ((u120 7) (80 : Int32).toNatClampNeg)) + (3 : Int32)).toNatClampNeg x4) 7 (((5 : Int32) * ((u120 7) (80 : Int32).toNatClampNeg)) + (4 : Int32)).toNatClampNeg x5) 7 (80 : Int32).toNatClampNeg ((((st (st (st (st (st u120 7 ((5 : Int32) * ((u120 7) (80 : Int32).toNatClampNeg)).toNatClampNeg x1) 7 (((5 : Int32) * ((u120 7) (80 : Int32).toNatClampNeg)) + (1 : Int32)).toNatClampNeg x2) 7 (((5 : Int32) * ((u120 7) (80 : Int32).toNatClampNeg)) + (2 : Int32)).toNatClampNeg x3) 7 (((5 : Int32) * ((u120 7) (80 : Int32).toNatClampNeg)) + (3 : Int32)).toNatClampNeg x4) 7 (((5 : Int32) * ((u120 7) (80 : Int32).toNatClampNeg)) + (4 : Int32)).toNatClampNeg x5) 7) (80 : Int32).toNatClampNeg) + (1 : Int32)))) := hD
        refine lv_aload_n hx hb dX7_addRule_195 rfl (lv_at hl 2 rfl) ?_
        refine va_get (D := D) (ci := 7) (v := .ref (aN 8)) (C := RX7) (T := TX7) (N := 14) hx hb hts jX7_addRule_X7 hown hK hP 0 rfl rfl 9 (by decide) (hts (.fieldLink RX7 35 "BrotherAutomataModel" "now" "[I") (List.mem_of_getElem? (i := 1) rfl)) (fun _ h9 => h9) rfl dX7_addRule_196 ?_
        refine lv_bipush (v := 80) hx hb dX7_addRule_199 (by decide) ?_
        obtain ⟨hi, h⟩ := h
        refine va_iald hx hb hK hP 8 0 rfl rfl hi dX7_addRule_201 ?_
        refine lv_iconst (v := 1) hx hb dX7_addRule_202 (by decide) ?_
        refine lv_isub hx hb dX7_addRule_203 ?_
        exact xiret (w := (w_X7_addRule cI cO aN)) (st (st (st (st (st (st u120 7 ((5 : Int32) * ((u120 7) (80 : Int32).toNatClampNeg)).toNatClampNeg x1) 7 (((5 : Int32) * ((u120 7) (80 : Int32).toNatClampNeg)) + (1 : Int32)).toNatClampNeg x2) 7 (((5 : Int32) * ((u120 7) (80 : Int32).toNatClampNeg)) + (2 : Int32)).toNatClampNeg x3) 7 (((5 : Int32) * ((u120 7) (80 : Int32).toNatClampNeg)) + (3 : Int32)).toNatClampNeg x4) 7 (((5 : Int32) * ((u120 7) (80 : Int32).toNatClampNeg)) + (4 : Int32)).toNatClampNeg x5) 7 (80 : Int32).toNatClampNeg ((((st (st (st (st (st u120 7 ((5 : Int32) * ((u120 7) (80 : Int32).toNatClampNeg)).toNatClampNeg x1) 7 (((5 : Int32) * ((u120 7) (80 : Int32).toNatClampNeg)) + (1 : Int32)).toNatClampNeg x2) 7 (((5 : Int32) * ((u120 7) (80 : Int32).toNatClampNeg)) + (2 : Int32)).toNatClampNeg x3) 7 (((5 : Int32) * ((u120 7) (80 : Int32).toNatClampNeg)) + (3 : Int32)).toNatClampNeg x4) 7 (((5 : Int32) * ((u120 7) (80 : Int32).toNatClampNeg)) + (4 : Int32)).toNatClampNeg x5) 7) (80 : Int32).toNatClampNeg) + (1 : Int32))) hx hb hr hlocks h hP hK hD hS dX7_addRule_204
      · have h := hh1 hc
        refine lv_bipush (v := -2) hx hb dX7_addRule_116 (by decide) ?_
        exact xiret (w := (w_X7_addRule cI cO aN)) (zN) hx hb hr hlocks h hP hK hD hS dX7_addRule_118
    · have h := hh1 hc
      refine lv_iconst (v := -1) hx hb dX7_addRule_102 (by decide) ?_
      exact xiret (w := (w_X7_addRule cI cO aN)) (zN) hx hb hr hlocks h hP hK hD hS dX7_addRule_103
  have g94 : ∀ (y6 : Int32) (zN : CS) (H : Heap) (locs : List Loc) (ls : Array Slot), qX7_addRule_94 post x1 x2 x3 x4 x5 y6 zN → va_P D vwCl (wN cI aN zN) H → va_D A (wN cI aN zN) → va_S A s.heap H locs → lv_has ls 8 [(6, .int y6), (0, .ref (aN 0)), (1, .int x1), (2, .int x2), (3, .int x3), (4, .int x4), (5, .int x5)] → W p l e ({ frames := 2, cells := 0, slots := 0, locals := 43 } : Room) s m ([.ref (aN 0), .int x1, .int x2, .int x3, .int x4, .int x5] : List Value).toArray below meth c H locs 0 0 (MQ below (va_Qi post (xB D cI cO A (w_X7_addRule cI cO aN)) A) ([.ref (aN 0), .int x1, .int x2, .int x3, .int x4, .int x5] : List Value).toArray s 0 0 A) (F0 m 94 ls []) := by
    intro y6 zN H locs ls h hP hD hS hl
    refine lv_iconst (v := 0) hx hb dX7_addRule_94 (by decide) ?_
    exact g95 y6 (0 : Int32) zN _ _ _ h hP hD hS hl
  have g90 : ∀ (y6 : Int32) (zN : CS) (H : Heap) (locs : List Loc) (ls : Array Slot), qX7_addRule_90 post x1 x2 x3 x4 x5 y6 zN → va_P D vwCl (wN cI aN zN) H → va_D A (wN cI aN zN) → va_S A s.heap H locs → lv_has ls 8 [(6, .int y6), (0, .ref (aN 0)), (1, .int x1), (2, .int x2), (3, .int x3), (4, .int x4), (5, .int x5)] → W p l e ({ frames := 2, cells := 0, slots := 0, locals := 43 } : Room) s m ([.ref (aN 0), .int x1, .int x2, .int x3, .int x4, .int x5] : List Value).toArray below meth c H locs 0 0 (MQ below (va_Qi post (xB D cI cO A (w_X7_addRule cI cO aN)) A) ([.ref (aN 0), .int x1, .int x2, .int x3, .int x4, .int x5] : List Value).toArray s 0 0 A) (F0 m 90 ls []) := by
    intro y6 zN H locs ls h hP hD hS hl
    refine lv_iconst (v := 1) hx hb dX7_addRule_90 (by decide) ?_
    refine lv_goto (tgt := 95) hx hb dX7_addRule_91 (by decide) ?_
    exact g95 y6 (1 : Int32) zN _ _ _ h hP hD hS hl
  have g62 : ∀ (y6 : Int32) (zN : CS) (H : Heap) (locs : List Loc) (ls : Array Slot), qX7_addRule_62 post x1 x2 x3 x4 x5 y6 zN → va_P D vwCl (wN cI aN zN) H → va_D A (wN cI aN zN) → va_S A s.heap H locs → lv_has ls 8 [(6, .int y6), (0, .ref (aN 0)), (1, .int x1), (2, .int x2), (3, .int x3), (4, .int x4), (5, .int x5)] → W p l e ({ frames := 2, cells := 0, slots := 0, locals := 43 } : Room) s m ([.ref (aN 0), .int x1, .int x2, .int x3, .int x4, .int x5] : List Value).toArray below meth c H locs 0 0 (MQ below (va_Qi post (xB D cI cO A (w_X7_addRule cI cO aN)) A) ([.ref (aN 0), .int x1, .int x2, .int x3, .int x4, .int x5] : List Value).toArray s 0 0 A) (F0 m 62 ls []) := by
    intro y6 zN H locs ls h hP hD hS hl
    refine lv_iload_n hx hb dX7_addRule_62 rfl (lv_at hl 2 rfl) ?_
    refine xcalli (wr := (wN cI aN zN)) (w2 := fun (u63 : Unit) => (wN cI aN zN)) (va_runS (As := [.int x1]) (rest := []) ⟨hx, hb, hml, hown, hts⟩ (mX7_arity l D cI cO tA tS x1 _ h) (va_cwS 1 hts gX7_addRule_X7_arity rfl rfl rfl (by decide +kernel) ⟨Nat.le_of_ble_eq_true rfl, Nat.le_of_ble_eq_true rfl⟩) (xpreP hP hD hS hA hK hE [] rfl rfl) rfl rfl hl.1 rfl (lv_room (Nat.le_of_ble_eq_true rfl)) dX7_addRule_63 ⟨Nat.le_refl 0, Nat.le_refl 0⟩) hP hD hS hA [] [0, 1, 2, 3, 4, 5, 6, 7, 8, 9, 10, 11] [0, 1, 2, 3, 4, 5, 6, 7, 8, 9, 10, 11] rfl rfl rfl (by decide) rfl (fun _ => rfl) (fun r63 u63 H locs h hP hD hS => ?_)
    refine lv_iconst (v := 1) hx hb dX7_addRule_66 (by decide) ?_
    obtain ⟨hh1, hh2⟩ := h
    refine lv_icmp_le (tgt := 81) hx hb dX7_addRule_67 (by decide) (fun hc => ?_) (fun hc => ?_)
    · have h := hh1 hc
      refine lv_iload_n hx hb dX7_addRule_81 rfl (lv_at hl 4 rfl) ?_
      obtain ⟨hh1, hh2⟩ := h
      refine lv_if_ne (tgt := 94) hx hb dX7_addRule_82 (by decide) (fun hc => ?_) (fun hc => ?_)
      · have h := hh2 hc
        exact g94 y6 zN _ _ _ h hP hD hS hl
      · have h := hh1 hc
        refine lv_iload hx hb dX7_addRule_85 (lv_at hl 5 rfl) ?_
        obtain ⟨hh1, hh2⟩ := h
        refine lv_if_ne (tgt := 94) hx hb dX7_addRule_87 (by decide) (fun hc => ?_) (fun hc => ?_)
        · have h := hh2 hc
          exact g94 y6 zN _ _ _ h hP hD hS hl
        · have h := hh1 hc
          exact g90 y6 zN _ _ _ h hP hD hS hl
    · have h := hh2 hc
      refine lv_aload_n hx hb dX7_addRule_70 rfl (lv_at hl 1 rfl) ?_
      refine lv_iload_n hx hb dX7_addRule_71 rfl (lv_at hl 4 rfl) ?_
      refine xcalli (wr := ([] : va_W)) (w2 := fun (u72 : Unit) => (wN cI aN zN)) (va_runV (As := [.int x3]) (rest := []) ⟨hx, hb, hml, hown, hts⟩ (mX7_isState l D cI cO tA tS aN zN x3 _ h) (cwV 1 hts gX7_addRule_X7_isState rfl rfl rfl (by decide +kernel) ⟨Nat.le_of_ble_eq_true rfl, Nat.le_of_ble_eq_true rfl⟩) (xpreV hP hD hS hA hK hE [0, 1, 2, 3, 4, 5, 6, 7, 8, 9, 10, 11] rfl rfl 7 0 rfl rfl) rfl rfl hl.1 rfl (lv_room (Nat.le_of_ble_eq_true rfl)) dX7_addRule_72 ⟨Nat.le_refl 0, Nat.le_refl 0⟩) hP hD hS hA [0, 1, 2, 3, 4, 5, 6, 7, 8, 9, 10, 11] [] [0, 1, 2, 3, 4, 5, 6, 7, 8, 9, 10, 11] rfl rfl rfl (by decide) rfl (fun _ => rfl) (fun r72 u72 H locs h hP hD hS => ?_)
      obtain ⟨hh1, hh2⟩ := h
      refine lv_if_eq (tgt := 94) hx hb dX7_addRule_75 (by decide) (fun hc => ?_) (fun hc => ?_)
      · have h := hh1 hc
        exact g94 y6 zN _ _ _ h hP hD hS hl
      · have h := hh2 hc
        refine lv_goto (tgt := 90) hx hb dX7_addRule_78 (by decide) ?_
        exact g90 y6 zN _ _ _ h hP hD hS hl
  have g33 : ∀ (w0 : Int32) (zN : CS) (H : Heap) (locs : List Loc) (ls : Array Slot), qX7_addRule_33 post x1 x2 x3 x4 x5 w0 zN → va_P D vwCl (wN cI aN zN) H → va_D A (wN cI aN zN) → va_S A s.heap H locs → lv_has ls 8 [(0, .ref (aN 0)), (1, .int x1), (2, .int x2), (3, .int x3), (4, .int x4), (5, .int x5)] → W p l e ({ frames := 2, cells := 0, slots := 0, locals := 43 } : Room) s m ([.ref (aN 0), .int x1, .int x2, .int x3, .int x4, .int x5] : List Value).toArray below meth c H locs 0 0 (MQ below (va_Qi post (xB D cI cO A (w_X7_addRule cI cO aN)) A) ([.ref (aN 0), .int x1, .int x2, .int x3, .int x4, .int x5] : List Value).toArray s 0 0 A) (F0 m 33 ls [.int w0]) := by
    intro w0 zN H locs ls h hP hD hS hl
    refine lv_istore (lv' := [(6, .int w0), (0, .ref (aN 0)), (1, .int x1), (2, .int x2), (3, .int x3), (4, .int x4), (5, .int x5)]) hx hb dX7_addRule_33 hl (by decide) rfl (fun ls hl => ?_)
    refine lv_iload hx hb dX7_addRule_35 (lv_at hl 0 rfl) ?_
    obtain ⟨hh1, hh2⟩ := h
    refine lv_if_eq (tgt := 94) hx hb dX7_addRule_37 (by decide) (fun hc => ?_) (fun hc => ?_)
    · have h := hh1 hc
      exact g94 w0 zN _ _ _ h hP hD hS hl
    · have h := hh2 hc
      refine lv_iload_n hx hb dX7_addRule_40 rfl (lv_at hl 2 rfl) ?_
      refine xcalli (wr := (wN cI aN zN)) (w2 := fun (u41 : Unit) => (wN cI aN zN)) (va_runS (As := [.int x1]) (rest := []) ⟨hx, hb, hml, hown, hts⟩ (mX7_arity l D cI cO tA tS x1 _ h) (va_cwS 1 hts gX7_addRule_X7_arity rfl rfl rfl (by decide +kernel) ⟨Nat.le_of_ble_eq_true rfl, Nat.le_of_ble_eq_true rfl⟩) (xpreP hP hD hS hA hK hE [] rfl rfl) rfl rfl hl.1 rfl (lv_room (Nat.le_of_ble_eq_true rfl)) dX7_addRule_41 ⟨Nat.le_refl 0, Nat.le_refl 0⟩) hP hD hS hA [] [0, 1, 2, 3, 4, 5, 6, 7, 8, 9, 10, 11] [0, 1, 2, 3, 4, 5, 6, 7, 8, 9, 10, 11] rfl rfl rfl (by decide) rfl (fun _ => rfl) (fun r41 u41 H locs h hP hD hS => ?_)
      obtain ⟨hh1, hh2⟩ := h
      refine lv_if_le (tgt := 58) hx hb dX7_addRule_44 (by decide) (fun hc => ?_) (fun hc => ?_)
      · have h := hh1 hc
        refine lv_iload_n hx hb dX7_addRule_58 rfl (lv_at hl 3 rfl) ?_
        obtain ⟨hh1, hh2⟩ := h
        refine lv_if_ne (tgt := 94) hx hb dX7_addRule_59 (by decide) (fun hc => ?_) (fun hc => ?_)
        · have h := hh2 hc
          exact g94 w0 zN _ _ _ h hP hD hS hl
        · have h := hh1 hc
          exact g62 w0 zN _ _ _ h hP hD hS hl
      · have h := hh2 hc
        refine lv_aload_n hx hb dX7_addRule_47 rfl (lv_at hl 1 rfl) ?_
        refine lv_iload_n hx hb dX7_addRule_48 rfl (lv_at hl 3 rfl) ?_
        refine xcalli (wr := ([] : va_W)) (w2 := fun (u49 : Unit) => (wN cI aN zN)) (va_runV (As := [.int x2]) (rest := []) ⟨hx, hb, hml, hown, hts⟩ (mX7_isState l D cI cO tA tS aN zN x2 _ h) (cwV 1 hts gX7_addRule_X7_isState rfl rfl rfl (by decide +kernel) ⟨Nat.le_of_ble_eq_true rfl, Nat.le_of_ble_eq_true rfl⟩) (xpreV hP hD hS hA hK hE [0, 1, 2, 3, 4, 5, 6, 7, 8, 9, 10, 11] rfl rfl 7 0 rfl rfl) rfl rfl hl.1 rfl (lv_room (Nat.le_of_ble_eq_true rfl)) dX7_addRule_49 ⟨Nat.le_refl 0, Nat.le_refl 0⟩) hP hD hS hA [0, 1, 2, 3, 4, 5, 6, 7, 8, 9, 10, 11] [] [0, 1, 2, 3, 4, 5, 6, 7, 8, 9, 10, 11] rfl rfl rfl (by decide) rfl (fun _ => rfl) (fun r49 u49 H locs h hP hD hS => ?_)
        obtain ⟨hh1, hh2⟩ := h
        refine lv_if_eq (tgt := 94) hx hb dX7_addRule_52 (by decide) (fun hc => ?_) (fun hc => ?_)
        · have h := hh1 hc
          exact g94 w0 zN _ _ _ h hP hD hS hl
        · have h := hh2 hc
          refine lv_goto (tgt := 62) hx hb dX7_addRule_55 (by decide) ?_
          exact g62 w0 zN _ _ _ h hP hD hS hl
  have g32 : ∀ (zN : CS) (H : Heap) (locs : List Loc) (ls : Array Slot), qX7_addRule_32 post x1 x2 x3 x4 x5 zN → va_P D vwCl (wN cI aN zN) H → va_D A (wN cI aN zN) → va_S A s.heap H locs → lv_has ls 8 [(0, .ref (aN 0)), (1, .int x1), (2, .int x2), (3, .int x3), (4, .int x4), (5, .int x5)] → W p l e ({ frames := 2, cells := 0, slots := 0, locals := 43 } : Room) s m ([.ref (aN 0), .int x1, .int x2, .int x3, .int x4, .int x5] : List Value).toArray below meth c H locs 0 0 (MQ below (va_Qi post (xB D cI cO A (w_X7_addRule cI cO aN)) A) ([.ref (aN 0), .int x1, .int x2, .int x3, .int x4, .int x5] : List Value).toArray s 0 0 A) (F0 m 32 ls []) := by
    intro zN H locs ls h hP hD hS hl
    refine lv_iconst (v := 0) hx hb dX7_addRule_32 (by decide) ?_
    exact g33 (0 : Int32) zN _ _ _ h hP hD hS hl
  refine lv_iload_n hx hb dX7_addRule_0 rfl (lv_at hl 1 rfl) ?_
  refine lv_iconst (v := 0) hx hb dX7_addRule_1 (by decide) ?_
  refine lv_iconst (v := 4) hx hb dX7_addRule_2 (by decide) ?_
  refine xcalli (wr := (wN cI aN zN)) (w2 := fun (u3 : Unit) => (wN cI aN zN)) (va_runS (As := [.int x1, .int (0 : Int32), .int (4 : Int32)]) (rest := []) ⟨hx, hb, hml, hown, hts⟩ (mX7_in l D cI cO tA tS x1 (0 : Int32) (4 : Int32) _ h) (va_cwS 3 hts gX7_addRule_X7_in rfl rfl rfl (by decide +kernel) ⟨Nat.le_of_ble_eq_true rfl, Nat.le_of_ble_eq_true rfl⟩) (xpreP hP hD hS hA hK hE [] rfl rfl) rfl rfl hl.1 rfl (lv_room (Nat.le_of_ble_eq_true rfl)) dX7_addRule_3 ⟨Nat.le_refl 0, Nat.le_refl 0⟩) hP hD hS hA [] [0, 1, 2, 3, 4, 5, 6, 7, 8, 9, 10, 11] [0, 1, 2, 3, 4, 5, 6, 7, 8, 9, 10, 11] rfl rfl rfl (by decide) rfl (fun _ => rfl) (fun r3 u3 H locs h hP hD hS => ?_)
  obtain ⟨hh1, hh2⟩ := h
  refine lv_if_eq (tgt := 32) hx hb dX7_addRule_6 (by decide) (fun hc => ?_) (fun hc => ?_)
  · have h := hh1 hc
    exact g32 zN _ _ _ h hP hD hS hl
  · have h := hh2 hc
    refine lv_aload_n hx hb dX7_addRule_9 rfl (lv_at hl 0 rfl) ?_
    refine lv_iload hx hb dX7_addRule_10 (lv_at hl 5 rfl) ?_
    refine xcalli (wr := ([] : va_W)) (w2 := fun (u12 : Unit) => (wN cI aN zN)) (va_runV (As := [.int x5]) (rest := []) ⟨hx, hb, hml, hown, hts⟩ (mX7_isState l D cI cO tA tS aN zN x5 _ h) (cwV 1 hts gX7_addRule_X7_isState rfl rfl rfl (by decide +kernel) ⟨Nat.le_of_ble_eq_true rfl, Nat.le_of_ble_eq_true rfl⟩) (xpreV hP hD hS hA hK hE [0, 1, 2, 3, 4, 5, 6, 7, 8, 9, 10, 11] rfl rfl 7 0 rfl rfl) rfl rfl hl.1 rfl (lv_room (Nat.le_of_ble_eq_true rfl)) dX7_addRule_12 ⟨Nat.le_refl 0, Nat.le_refl 0⟩) hP hD hS hA [0, 1, 2, 3, 4, 5, 6, 7, 8, 9, 10, 11] [] [0, 1, 2, 3, 4, 5, 6, 7, 8, 9, 10, 11] rfl rfl rfl (by decide) rfl (fun _ => rfl) (fun r12 u12 H locs h hP hD hS => ?_)
    obtain ⟨hh1, hh2⟩ := h
    refine lv_if_eq (tgt := 32) hx hb dX7_addRule_15 (by decide) (fun hc => ?_) (fun hc => ?_)
    · have h := hh1 hc
      exact g32 zN _ _ _ h hP hD hS hl
    · have h := hh2 hc
      refine lv_iload hx hb dX7_addRule_18 (lv_at hl 4 rfl) ?_
      refine lv_iconst (v := 0) hx hb dX7_addRule_20 (by decide) ?_
      refine lv_iconst (v := 2) hx hb dX7_addRule_21 (by decide) ?_
      refine xcalli (wr := (wN cI aN zN)) (w2 := fun (u22 : Unit) => (wN cI aN zN)) (va_runS (As := [.int x4, .int (0 : Int32), .int (2 : Int32)]) (rest := []) ⟨hx, hb, hml, hown, hts⟩ (mX7_in l D cI cO tA tS x4 (0 : Int32) (2 : Int32) _ h) (va_cwS 3 hts gX7_addRule_X7_in rfl rfl rfl (by decide +kernel) ⟨Nat.le_of_ble_eq_true rfl, Nat.le_of_ble_eq_true rfl⟩) (xpreP hP hD hS hA hK hE [] rfl rfl) rfl rfl hl.1 rfl (lv_room (Nat.le_of_ble_eq_true rfl)) dX7_addRule_22 ⟨Nat.le_refl 0, Nat.le_refl 0⟩) hP hD hS hA [] [0, 1, 2, 3, 4, 5, 6, 7, 8, 9, 10, 11] [0, 1, 2, 3, 4, 5, 6, 7, 8, 9, 10, 11] rfl rfl rfl (by decide) rfl (fun _ => rfl) (fun r22 u22 H locs h hP hD hS => ?_)
      obtain ⟨hh1, hh2⟩ := h
      refine lv_if_eq (tgt := 32) hx hb dX7_addRule_25 (by decide) (fun hc => ?_) (fun hc => ?_)
      · have h := hh1 hc
        exact g32 zN _ _ _ h hP hD hS hl
      · have h := hh2 hc
        refine lv_iconst (v := 1) hx hb dX7_addRule_28 (by decide) ?_
        refine lv_goto (tgt := 33) hx hb dX7_addRule_29 (by decide) ?_
        exact g33 (1 : Int32) zN _ _ _ h hP hD hS hl
set_option maxRecDepth 20000 in
theorem ggX7_removeRule_X7_in : GoodIn wsX7_removeRule wsX7_in := goodIn_r _ [5] (by decide +kernel) (by decide +kernel)
set_option maxRecDepth 20000 in
theorem gX7_removeRule_X7_in : GoodIn wsX7_removeRule (va_wsS RX7 58 yX7_in wsX7_in) := goodIn_app (goodIn_of _ (by decide +kernel)) ggX7_removeRule_X7_in
set_option maxRecDepth 20000 in
theorem ggX7_removeRule_X7_edit : GoodIn wsX7_removeRule wsX7_edit := goodIn_r _ [9, 10, 11, 1, 12, 13, 14, 15, 16, 17, 18, 19, 20, 21, 22, 23, 24, 25] (by decide +kernel) (by decide +kernel)
set_option maxRecDepth 20000 in
theorem gX7_removeRule_X7_edit : GoodIn wsX7_removeRule (wsV RX7 69 RX7 yX7_edit wsX7_edit) := goodIn_app (goodIn_of _ (by decide +kernel)) ggX7_removeRule_X7_edit
theorem dX7_removeRule_0 : decode cX7_removeRule 0 = .ok (.iload_n 1, 1) := by decide +kernel
theorem dX7_removeRule_1 : decode cX7_removeRule 1 = .ok (.iconst 0, 1) := by decide +kernel
theorem dX7_removeRule_2 : decode cX7_removeRule 2 = .ok (.aload_n 0, 1) := by decide +kernel
theorem dX7_removeRule_3 : decode cX7_removeRule 3 = .ok (.getfield 35, 3) := by decide +kernel
theorem dX7_removeRule_6 : decode cX7_removeRule 6 = .ok (.bipush 80, 2) := by decide +kernel
theorem dX7_removeRule_8 : decode cX7_removeRule 8 = .ok (.iaload, 1) := by decide +kernel
theorem dX7_removeRule_9 : decode cX7_removeRule 9 = .ok (.iconst 1, 1) := by decide +kernel
theorem dX7_removeRule_10 : decode cX7_removeRule 10 = .ok (.isub, 1) := by decide +kernel
theorem dX7_removeRule_11 : decode cX7_removeRule 11 = .ok (.invokestatic 58, 3) := by decide +kernel
theorem dX7_removeRule_14 : decode cX7_removeRule 14 = .ok (.ifCond .ne 5, 3) := by decide +kernel
theorem dX7_removeRule_17 : decode cX7_removeRule 17 = .ok (.iconst (-1), 1) := by decide +kernel
theorem dX7_removeRule_18 : decode cX7_removeRule 18 = .ok (.ireturn, 1) := by decide +kernel
theorem dX7_removeRule_19 : decode cX7_removeRule 19 = .ok (.aload_n 0, 1) := by decide +kernel
theorem dX7_removeRule_20 : decode cX7_removeRule 20 = .ok (.invokevirtual 69, 3) := by decide +kernel
theorem dX7_removeRule_23 : decode cX7_removeRule 23 = .ok (.aload_n 0, 1) := by decide +kernel
theorem dX7_removeRule_24 : decode cX7_removeRule 24 = .ok (.getfield 35, 3) := by decide +kernel
theorem dX7_removeRule_27 : decode cX7_removeRule 27 = .ok (.bipush 80, 2) := by decide +kernel
theorem dX7_removeRule_29 : decode cX7_removeRule 29 = .ok (.dup2, 1) := by decide +kernel
theorem dX7_removeRule_30 : decode cX7_removeRule 30 = .ok (.iaload, 1) := by decide +kernel
theorem dX7_removeRule_31 : decode cX7_removeRule 31 = .ok (.iconst 1, 1) := by decide +kernel
theorem dX7_removeRule_32 : decode cX7_removeRule 32 = .ok (.isub, 1) := by decide +kernel
theorem dX7_removeRule_33 : decode cX7_removeRule 33 = .ok (.iastore, 1) := by decide +kernel
theorem dX7_removeRule_34 : decode cX7_removeRule 34 = .ok (.iconst 5, 1) := by decide +kernel
theorem dX7_removeRule_35 : decode cX7_removeRule 35 = .ok (.iload_n 1, 1) := by decide +kernel
theorem dX7_removeRule_36 : decode cX7_removeRule 36 = .ok (.imul, 1) := by decide +kernel
theorem dX7_removeRule_37 : decode cX7_removeRule 37 = .ok (.istore_n 2, 1) := by decide +kernel
theorem dX7_removeRule_38 : decode cX7_removeRule 38 = .ok (.iload_n 2, 1) := by decide +kernel
theorem dX7_removeRule_39 : decode cX7_removeRule 39 = .ok (.iconst 5, 1) := by decide +kernel
theorem dX7_removeRule_40 : decode cX7_removeRule 40 = .ok (.aload_n 0, 1) := by decide +kernel
theorem dX7_removeRule_41 : decode cX7_removeRule 41 = .ok (.getfield 35, 3) := by decide +kernel
theorem dX7_removeRule_44 : decode cX7_removeRule 44 = .ok (.bipush 80, 2) := by decide +kernel
theorem dX7_removeRule_46 : decode cX7_removeRule 46 = .ok (.iaload, 1) := by decide +kernel
theorem dX7_removeRule_47 : decode cX7_removeRule 47 = .ok (.imul, 1) := by decide +kernel
theorem dX7_removeRule_48 : decode cX7_removeRule 48 = .ok (.if_icmp .ge 23, 3) := by decide +kernel
theorem dX7_removeRule_51 : decode cX7_removeRule 51 = .ok (.aload_n 0, 1) := by decide +kernel
theorem dX7_removeRule_52 : decode cX7_removeRule 52 = .ok (.getfield 35, 3) := by decide +kernel
theorem dX7_removeRule_55 : decode cX7_removeRule 55 = .ok (.iload_n 2, 1) := by decide +kernel
theorem dX7_removeRule_56 : decode cX7_removeRule 56 = .ok (.aload_n 0, 1) := by decide +kernel
theorem dX7_removeRule_57 : decode cX7_removeRule 57 = .ok (.getfield 35, 3) := by decide +kernel
theorem dX7_removeRule_60 : decode cX7_removeRule 60 = .ok (.iload_n 2, 1) := by decide +kernel
theorem dX7_removeRule_61 : decode cX7_removeRule 61 = .ok (.iconst 5, 1) := by decide +kernel
theorem dX7_removeRule_62 : decode cX7_removeRule 62 = .ok (.iadd, 1) := by decide +kernel
theorem dX7_removeRule_63 : decode cX7_removeRule 63 = .ok (.iaload, 1) := by decide +kernel
theorem dX7_removeRule_64 : decode cX7_removeRule 64 = .ok (.iastore, 1) := by decide +kernel
theorem dX7_removeRule_65 : decode cX7_removeRule 65 = .ok (.iinc 2 1, 3) := by decide +kernel
theorem dX7_removeRule_68 : decode cX7_removeRule 68 = .ok (.goto (-30), 3) := by decide +kernel
theorem dX7_removeRule_71 : decode cX7_removeRule 71 = .ok (.aload_n 0, 1) := by decide +kernel
theorem dX7_removeRule_72 : decode cX7_removeRule 72 = .ok (.getfield 35, 3) := by decide +kernel
theorem dX7_removeRule_75 : decode cX7_removeRule 75 = .ok (.bipush 80, 2) := by decide +kernel
theorem dX7_removeRule_77 : decode cX7_removeRule 77 = .ok (.iaload, 1) := by decide +kernel
theorem dX7_removeRule_78 : decode cX7_removeRule 78 = .ok (.ireturn, 1) := by decide +kernel
theorem jX7_removeRule_X7 : ∀ w ∈ wsX70, w ∈ wsX7_removeRule := by decide +kernel
abbrev w_X7_removeRule (cI cO : ClassId) (aN : Nat → Nat)  : ((CS)) → va_W := fun u => (wN cI aN u)
set_option maxRecDepth 100000 in
set_option maxHeartbeats 8000000 in
theorem mX7_removeRule (l : Launch) (D : va_G) (cI cO : ClassId) (tA tS : Nat) (aN : Nat → Nat) (zN : CS) (x1 : Int32) (sz : Nat) {post : Int32 → ((CS)) → Prop} (h : qX7_removeRule post x1 zN) : Met l yX7_removeRule wsX7_removeRule ({ frames := 1, cells := 0, slots := 0, locals := 22 } : Room) (xPre D cI cO tA tS [.ref (aN 0), .int x1] (wN cI aN zN) sz) (va_Qi post (xB D cI cO (va_A (wN cI aN zN) sz) (w_X7_removeRule cI cO aN)) (va_A (wN cI aN zN) sz)) 0 0 (va_A (wN cI aN zN) sz) := by
  refine xMet D cI cO tA tS (fun A => va_Qi post (xB D cI cO A (w_X7_removeRule cI cO aN)) A) (cc := cX7_removeRule) (maxL := 3) (ret := (some .int)) (by decide) rfl (Nat.le_of_ble_eq_true rfl) ?_
  intro p e s m below meth c A ls hx hb hr hts hown hlocks hin hml hA hS hP hK hD hE hl
  have hown : s.vm.findClass RX7 = some m.cls := hown
  have hl : lv_has ls 3 [(0, .ref (aN 0)), (1, .int x1)] := hl
  have g38 : ∀ (n : Nat) (y2 : Int32) (zN : CS) (H : Heap) (locs : List Loc) (ls : Array Slot), qX7_removeRule_38 post x1 n y2 zN → va_P D vwCl (wN cI aN zN) H → va_D A (wN cI aN zN) → va_S A s.heap H locs → lv_has ls 3 [(2, .int y2), (0, .ref (aN 0)), (1, .int x1)] → W p l e ({ frames := 1, cells := 0, slots := 0, locals := 22 } : Room) s m ([.ref (aN 0), .int x1] : List Value).toArray below meth c H locs 0 0 (MQ below (va_Qi post (xB D cI cO A (w_X7_removeRule cI cO aN)) A) ([.ref (aN 0), .int x1] : List Value).toArray s 0 0 A) (F0 m 38 ls []) := by
    intro n
    induction n with
    | zero => intro y2 zN H locs ls h; exact False.elim h
    | succ n hk38 =>
      intro y2 zN H locs ls h hP hD hS hl
      have h : qX7_removeRule_38b post x1 (qX7_removeRule_38 post x1 n) y2 zN := h
      refine lv_iload_n hx hb dX7_removeRule_38 rfl (lv_at hl 0 rfl) ?_
      refine lv_iconst (v := 5) hx hb dX7_removeRule_39 (by decide) ?_
      refine lv_aload_n hx hb dX7_removeRule_40 rfl (lv_at hl 1 rfl) ?_
      refine va_get (D := D) (ci := 7) (v := .ref (aN 8)) (C := RX7) (T := TX7) (N := 14) hx hb hts jX7_removeRule_X7 hown hK hP 0 rfl rfl 9 (by decide) (hts (.fieldLink RX7 35 "BrotherAutomataModel" "now" "[I") (List.mem_of_getElem? (i := 1) rfl)) (fun _ h9 => h9) rfl dX7_removeRule_41 ?_
      refine lv_bipush (v := 80) hx hb dX7_removeRule_44 (by decide) ?_
      obtain ⟨hi, h⟩ := h
      refine va_iald hx hb hK hP 8 0 rfl rfl hi dX7_removeRule_46 ?_
      refine lv_imul hx hb dX7_removeRule_47 ?_
      obtain ⟨hh1, hh2⟩ := h
      refine lv_icmp_ge (tgt := 71) hx hb dX7_removeRule_48 (by decide) (fun hc => ?_) (fun hc => ?_)
      · have h := hh1 hc
        refine lv_aload_n hx hb dX7_removeRule_71 rfl (lv_at hl 1 rfl) ?_
        refine va_get (D := D) (ci := 7) (v := .ref (aN 8)) (C := RX7) (T := TX7) (N := 14) hx hb hts jX7_removeRule_X7 hown hK hP 0 rfl rfl 9 (by decide) (hts (.fieldLink RX7 35 "BrotherAutomataModel" "now" "[I") (List.mem_of_getElem? (i := 1) rfl)) (fun _ h9 => h9) rfl dX7_removeRule_72 ?_
        refine lv_bipush (v := 80) hx hb dX7_removeRule_75 (by decide) ?_
        obtain ⟨hi, h⟩ := h
        refine va_iald hx hb hK hP 8 0 rfl rfl hi dX7_removeRule_77 ?_
        exact xiret (w := (w_X7_removeRule cI cO aN)) (zN) hx hb hr hlocks h hP hK hD hS dX7_removeRule_78
      · have h := hh2 hc
        refine lv_aload_n hx hb dX7_removeRule_51 rfl (lv_at hl 1 rfl) ?_
        refine va_get (D := D) (ci := 7) (v := .ref (aN 8)) (C := RX7) (T := TX7) (N := 14) hx hb hts jX7_removeRule_X7 hown hK hP 0 rfl rfl 9 (by decide) (hts (.fieldLink RX7 35 "BrotherAutomataModel" "now" "[I") (List.mem_of_getElem? (i := 1) rfl)) (fun _ h9 => h9) rfl dX7_removeRule_52 ?_
        refine lv_iload_n hx hb dX7_removeRule_55 rfl (lv_at hl 0 rfl) ?_
        refine lv_aload_n hx hb dX7_removeRule_56 rfl (lv_at hl 1 rfl) ?_
        refine va_get (D := D) (ci := 7) (v := .ref (aN 8)) (C := RX7) (T := TX7) (N := 14) hx hb hts jX7_removeRule_X7 hown hK hP 0 rfl rfl 9 (by decide) (hts (.fieldLink RX7 35 "BrotherAutomataModel" "now" "[I") (List.mem_of_getElem? (i := 1) rfl)) (fun _ h9 => h9) rfl dX7_removeRule_57 ?_
        refine lv_iload_n hx hb dX7_removeRule_60 rfl (lv_at hl 0 rfl) ?_
        refine lv_iconst (v := 5) hx hb dX7_removeRule_61 (by decide) ?_
        refine lv_iadd hx hb dX7_removeRule_62 ?_
        obtain ⟨hi, h⟩ := h
        refine va_iald hx hb hK hP 8 0 rfl rfl hi dX7_removeRule_63 ?_
        obtain ⟨hi, h⟩ := h
        refine va_iast hx hb hK hP hD hS 8 0 rfl rfl hi dX7_removeRule_64 (fun H locs hP hD hS => ?_)
        have hP : va_P D vwCl (wN cI aN (st zN 7 y2.toNatClampNeg ((zN 7) (y2 + (5 : Int32)).toNatClampNeg))) H := hP
        have hD : va_D A (wN cI aN (st zN 7 y2.toNatClampNeg ((zN 7) (y2 + (5 : Int32)).toNatClampNeg))) := hD
        refine lv_iinc (v := (y2 + (1 : Int32))) (lv' := [(2, .int (y2 + (1 : Int32))), (0, .ref (aN 0)), (1, .int x1)]) hx hb dX7_removeRule_65 hl (k := 0) rfl rfl (by decide) rfl (fun ls hl => ?_)
        refine lv_goto (tgt := 38) hx hb dX7_removeRule_68 (by decide) ?_
        exact hk38 (y2 + (1 : Int32)) (st zN 7 y2.toNatClampNeg ((zN 7) (y2 + (5 : Int32)).toNatClampNeg)) _ _ _ h hP hD hS hl
  refine lv_iload_n hx hb dX7_removeRule_0 rfl (lv_at hl 1 rfl) ?_
  refine lv_iconst (v := 0) hx hb dX7_removeRule_1 (by decide) ?_
  refine lv_aload_n hx hb dX7_removeRule_2 rfl (lv_at hl 0 rfl) ?_
  refine va_get (D := D) (ci := 7) (v := .ref (aN 8)) (C := RX7) (T := TX7) (N := 14) hx hb hts jX7_removeRule_X7 hown hK hP 0 rfl rfl 9 (by decide) (hts (.fieldLink RX7 35 "BrotherAutomataModel" "now" "[I") (List.mem_of_getElem? (i := 1) rfl)) (fun _ h9 => h9) rfl dX7_removeRule_3 ?_
  refine lv_bipush (v := 80) hx hb dX7_removeRule_6 (by decide) ?_
  obtain ⟨hi, h⟩ := h
  refine va_iald hx hb hK hP 8 0 rfl rfl hi dX7_removeRule_8 ?_
  refine lv_iconst (v := 1) hx hb dX7_removeRule_9 (by decide) ?_
  refine lv_isub hx hb dX7_removeRule_10 ?_
  refine xcalli (wr := (wN cI aN zN)) (w2 := fun (u11 : Unit) => (wN cI aN zN)) (va_runS (As := [.int x1, .int (0 : Int32), .int (((zN 7) (80 : Int32).toNatClampNeg) - (1 : Int32))]) (rest := []) ⟨hx, hb, hml, hown, hts⟩ (mX7_in l D cI cO tA tS x1 (0 : Int32) (((zN 7) (80 : Int32).toNatClampNeg) - (1 : Int32)) _ h) (va_cwS 3 hts gX7_removeRule_X7_in rfl rfl rfl (by decide +kernel) ⟨Nat.le_of_ble_eq_true rfl, Nat.le_of_ble_eq_true rfl⟩) (xpreP hP hD hS hA hK hE [] rfl rfl) rfl rfl hl.1 rfl (lv_room (Nat.le_of_ble_eq_true rfl)) dX7_removeRule_11 ⟨Nat.le_refl 0, Nat.le_refl 0⟩) hP hD hS hA [] [0, 1, 2, 3, 4, 5, 6, 7, 8, 9, 10, 11] [0, 1, 2, 3, 4, 5, 6, 7, 8, 9, 10, 11] rfl rfl rfl (by decide) rfl (fun _ => rfl) (fun r11 u11 H locs h hP hD hS => ?_)
  obtain ⟨hh1, hh2⟩ := h
  refine lv_if_ne (tgt := 19) hx hb dX7_removeRule_14 (by decide) (fun hc => ?_) (fun hc => ?_)
  · have h := hh2 hc
    refine lv_aload_n hx hb dX7_removeRule_19 rfl (lv_at hl 0 rfl) ?_
    refine xcallv (wr := ([] : va_W)) (w2 := fun (u20 : (CS)) => (wN cI aN u20)) (va_runV (As := []) (rest := []) ⟨hx, hb, hml, hown, hts⟩ (mX7_edit l D cI cO tA tS aN zN _ h) (cwV 0 hts gX7_removeRule_X7_edit rfl rfl rfl (by decide +kernel) ⟨Nat.le_of_ble_eq_true rfl, Nat.le_of_ble_eq_true rfl⟩) (xpreV hP hD hS hA hK hE [0, 1, 2, 3, 4, 5, 6, 7, 8, 9, 10, 11] rfl rfl 7 0 rfl rfl) rfl rfl hl.1 rfl (lv_room (Nat.le_of_ble_eq_true rfl)) dX7_removeRule_20 ⟨Nat.le_refl 0, Nat.le_refl 0⟩) hP hD hS hA [0, 1, 2, 3, 4, 5, 6, 7, 8, 9, 10, 11] [] [0, 1, 2, 3, 4, 5, 6, 7, 8, 9, 10, 11] rfl rfl rfl (by decide) rfl (fun _ => rfl) (fun u20 H locs h hP hD hS => ?_)
    refine lv_aload_n hx hb dX7_removeRule_23 rfl (lv_at hl 0 rfl) ?_
    refine va_get (D := D) (ci := 7) (v := .ref (aN 8)) (C := RX7) (T := TX7) (N := 14) hx hb hts jX7_removeRule_X7 hown hK hP 0 rfl rfl 9 (by decide) (hts (.fieldLink RX7 35 "BrotherAutomataModel" "now" "[I") (List.mem_of_getElem? (i := 1) rfl)) (fun _ h9 => h9) rfl dX7_removeRule_24 ?_
    refine lv_bipush (v := 80) hx hb dX7_removeRule_27 (by decide) ?_
    refine lv_dup2_11 hx hb dX7_removeRule_29 rfl rfl ?_
    obtain ⟨hi, h⟩ := h
    refine va_iald hx hb hK hP 8 0 rfl rfl hi dX7_removeRule_30 ?_
    refine lv_iconst (v := 1) hx hb dX7_removeRule_31 (by decide) ?_
    refine lv_isub hx hb dX7_removeRule_32 ?_
    obtain ⟨hi, h⟩ := h
    refine va_iast hx hb hK hP hD hS 8 0 rfl rfl hi dX7_removeRule_33 (fun H locs hP hD hS => ?_)
    have hP : va_P D vwCl (wN cI aN (st u20 7 (80 : Int32).toNatClampNeg (((u20 7) (80 : Int32).toNatClampNeg) - (1 : Int32)))) H := hP
    have hD : va_D A (wN cI aN (st u20 7 (80 : Int32).toNatClampNeg (((u20 7) (80 : Int32).toNatClampNeg) - (1 : Int32)))) := hD
    refine lv_iconst (v := 5) hx hb dX7_removeRule_34 (by decide) ?_
    refine lv_iload_n hx hb dX7_removeRule_35 rfl (lv_at hl 1 rfl) ?_
    refine lv_imul hx hb dX7_removeRule_36 ?_
    refine lv_istore_n (lv' := [(2, .int ((5 : Int32) * x1)), (0, .ref (aN 0)), (1, .int x1)]) hx hb dX7_removeRule_37 rfl hl (by decide) rfl (fun ls hl => ?_)
    obtain ⟨n0, h⟩ := h
    exact g38 n0 ((5 : Int32) * x1) (st u20 7 (80 : Int32).toNatClampNeg (((u20 7) (80 : Int32).toNatClampNeg) - (1 : Int32))) _ _ _ h hP hD hS hl
  · have h := hh1 hc
    refine lv_iconst (v := -1) hx hb dX7_removeRule_17 (by decide) ?_
    exact xiret (w := (w_X7_removeRule cI cO aN)) (zN) hx hb hr hlocks h hP hK hD hS dX7_removeRule_18
theorem dX7_swapped_0 : decode cX7_swapped 0 = .ok (.iload_n 0, 1) := by decide +kernel
theorem dX7_swapped_1 : decode cX7_swapped 1 = .ok (.iload_n 1, 1) := by decide +kernel
theorem dX7_swapped_2 : decode cX7_swapped 2 = .ok (.if_icmp .ne 7, 3) := by decide +kernel
theorem dX7_swapped_5 : decode cX7_swapped 5 = .ok (.iload_n 2, 1) := by decide +kernel
theorem dX7_swapped_6 : decode cX7_swapped 6 = .ok (.goto 13, 3) := by decide +kernel
theorem dX7_swapped_9 : decode cX7_swapped 9 = .ok (.iload_n 0, 1) := by decide +kernel
theorem dX7_swapped_10 : decode cX7_swapped 10 = .ok (.iload_n 2, 1) := by decide +kernel
theorem dX7_swapped_11 : decode cX7_swapped 11 = .ok (.if_icmp .ne 7, 3) := by decide +kernel
theorem dX7_swapped_14 : decode cX7_swapped 14 = .ok (.iload_n 1, 1) := by decide +kernel
theorem dX7_swapped_15 : decode cX7_swapped 15 = .ok (.goto 4, 3) := by decide +kernel
theorem dX7_swapped_18 : decode cX7_swapped 18 = .ok (.iload_n 0, 1) := by decide +kernel
theorem dX7_swapped_19 : decode cX7_swapped 19 = .ok (.ireturn, 1) := by decide +kernel
abbrev w_X7_swapped (cI cO : ClassId)   : (Unit) → va_W := fun u => ([] : va_W)
set_option maxRecDepth 100000 in
set_option maxHeartbeats 8000000 in
theorem mX7_swapped (l : Launch) (D : va_G) (cI cO : ClassId) (tA tS : Nat)   (x0 : Int32) (x1 : Int32) (x2 : Int32) (sz : Nat) {post : Int32 → (Unit) → Prop} (h : qX7_swapped post x0 x1 x2) : Met l yX7_swapped wsX7_swapped ({ frames := 0, cells := 0, slots := 0, locals := 0 } : Room) (xPre D cI cO tA tS [.int x0, .int x1, .int x2] ([] : va_W) sz) (va_Qi post (xB D cI cO (va_A ([] : va_W) sz) (w_X7_swapped cI cO)) (va_A ([] : va_W) sz)) 0 0 (va_A ([] : va_W) sz) := by
  refine xMet D cI cO tA tS (fun A => va_Qi post (xB D cI cO A (w_X7_swapped cI cO)) A) (cc := cX7_swapped) (maxL := 3) (ret := (some .int)) (by decide) rfl (Nat.le_of_ble_eq_true rfl) ?_
  intro p e s m below meth c A ls hx hb hr hts hown hlocks hin hml hA hS hP hK hD hE hl
  have hown : s.vm.findClass RX7 = some m.cls := hown
  have hl : lv_has ls 3 [(0, .int x0), (1, .int x1), (2, .int x2)] := hl
  refine lv_iload_n hx hb dX7_swapped_0 rfl (lv_at hl 0 rfl) ?_
  refine lv_iload_n hx hb dX7_swapped_1 rfl (lv_at hl 1 rfl) ?_
  obtain ⟨hh1, hh2⟩ := h
  refine lv_icmp_ne (tgt := 9) hx hb dX7_swapped_2 (by decide) (fun hc => ?_) (fun hc => ?_)
  · have h := hh2 hc
    refine lv_iload_n hx hb dX7_swapped_9 rfl (lv_at hl 0 rfl) ?_
    refine lv_iload_n hx hb dX7_swapped_10 rfl (lv_at hl 2 rfl) ?_
    obtain ⟨hh1, hh2⟩ := h
    refine lv_icmp_ne (tgt := 18) hx hb dX7_swapped_11 (by decide) (fun hc => ?_) (fun hc => ?_)
    · have h := hh2 hc
      refine lv_iload_n hx hb dX7_swapped_18 rfl (lv_at hl 0 rfl) ?_
      exact xiret (w := (w_X7_swapped cI cO)) () hx hb hr hlocks h hP hK hD hS dX7_swapped_19
    · have h := hh1 hc
      refine lv_iload_n hx hb dX7_swapped_14 rfl (lv_at hl 1 rfl) ?_
      refine lv_goto (tgt := 19) hx hb dX7_swapped_15 (by decide) ?_
      exact xiret (w := (w_X7_swapped cI cO)) () hx hb hr hlocks h hP hK hD hS dX7_swapped_19
  · have h := hh1 hc
    refine lv_iload_n hx hb dX7_swapped_5 rfl (lv_at hl 2 rfl) ?_
    refine lv_goto (tgt := 19) hx hb dX7_swapped_6 (by decide) ?_
    exact xiret (w := (w_X7_swapped cI cO)) () hx hb hr hlocks h hP hK hD hS dX7_swapped_19
set_option maxRecDepth 20000 in
theorem ggX7_swapStates_X7_isState : GoodIn wsX7_swapStates wsX7_isState := goodIn_r _ [7, 2, 8, 9, 6, 10, 26, 27, 28, 29, 30, 31, 32, 33, 34, 35, 36, 37, 38, 39] (by decide +kernel) (by decide +kernel)
set_option maxRecDepth 20000 in
theorem gX7_swapStates_X7_isState : GoodIn wsX7_swapStates (wsV RX7 65 RX7 yX7_isState wsX7_isState) := goodIn_app (goodIn_of _ (by decide +kernel)) ggX7_swapStates_X7_isState
set_option maxRecDepth 20000 in
theorem ggX7_swapStates_X7_edit : GoodIn wsX7_swapStates wsX7_edit := goodIn_r _ [14, 15, 16, 1, 26, 27, 28, 29, 30, 31, 32, 33, 34, 35, 36, 37, 38, 39] (by decide +kernel) (by decide +kernel)
set_option maxRecDepth 20000 in
theorem gX7_swapStates_X7_edit : GoodIn wsX7_swapStates (wsV RX7 69 RX7 yX7_edit wsX7_edit) := goodIn_app (goodIn_of _ (by decide +kernel)) ggX7_swapStates_X7_edit
set_option maxRecDepth 20000 in
theorem ggX7_swapStates_X7_arity : GoodIn wsX7_swapStates wsX7_arity := goodIn_r _ [19] (by decide +kernel) (by decide +kernel)
set_option maxRecDepth 20000 in
theorem gX7_swapStates_X7_arity : GoodIn wsX7_swapStates (va_wsS RX7 76 yX7_arity wsX7_arity) := goodIn_app (goodIn_of _ (by decide +kernel)) ggX7_swapStates_X7_arity
set_option maxRecDepth 20000 in
theorem ggX7_swapStates_X7_swapped : GoodIn wsX7_swapStates wsX7_swapped := goodIn_r _ [22] (by decide +kernel) (by decide +kernel)
set_option maxRecDepth 20000 in
theorem gX7_swapStates_X7_swapped : GoodIn wsX7_swapStates (va_wsS RX7 80 yX7_swapped wsX7_swapped) := goodIn_app (goodIn_of _ (by decide +kernel)) ggX7_swapStates_X7_swapped
set_option maxRecDepth 20000 in
theorem ggX7_swapStates_X7_has : GoodIn wsX7_swapStates wsX7_has := goodIn_r _ [25] (by decide +kernel) (by decide +kernel)
set_option maxRecDepth 20000 in
theorem gX7_swapStates_X7_has : GoodIn wsX7_swapStates (va_wsS RX7 72 yX7_has wsX7_has) := goodIn_app (goodIn_of _ (by decide +kernel)) ggX7_swapStates_X7_has
theorem dX7_swapStates_0 : decode cX7_swapStates 0 = .ok (.aload_n 0, 1) := by decide +kernel
theorem dX7_swapStates_1 : decode cX7_swapStates 1 = .ok (.iload_n 1, 1) := by decide +kernel
theorem dX7_swapStates_2 : decode cX7_swapStates 2 = .ok (.invokevirtual 65, 3) := by decide +kernel
theorem dX7_swapStates_5 : decode cX7_swapStates 5 = .ok (.ifCond .eq 11, 3) := by decide +kernel
theorem dX7_swapStates_8 : decode cX7_swapStates 8 = .ok (.aload_n 0, 1) := by decide +kernel
theorem dX7_swapStates_9 : decode cX7_swapStates 9 = .ok (.iload_n 2, 1) := by decide +kernel
theorem dX7_swapStates_10 : decode cX7_swapStates 10 = .ok (.invokevirtual 65, 3) := by decide +kernel
theorem dX7_swapStates_13 : decode cX7_swapStates 13 = .ok (.ifCond .ne 5, 3) := by decide +kernel
theorem dX7_swapStates_16 : decode cX7_swapStates 16 = .ok (.iconst (-1), 1) := by decide +kernel
theorem dX7_swapStates_17 : decode cX7_swapStates 17 = .ok (.ireturn, 1) := by decide +kernel
theorem dX7_swapStates_18 : decode cX7_swapStates 18 = .ok (.aload_n 0, 1) := by decide +kernel
theorem dX7_swapStates_19 : decode cX7_swapStates 19 = .ok (.invokevirtual 69, 3) := by decide +kernel
theorem dX7_swapStates_22 : decode cX7_swapStates 22 = .ok (.iconst 0, 1) := by decide +kernel
theorem dX7_swapStates_23 : decode cX7_swapStates 23 = .ok (.istore_n 3, 1) := by decide +kernel
theorem dX7_swapStates_24 : decode cX7_swapStates 24 = .ok (.iconst 0, 1) := by decide +kernel
theorem dX7_swapStates_25 : decode cX7_swapStates 25 = .ok (.istore 4, 2) := by decide +kernel
theorem dX7_swapStates_27 : decode cX7_swapStates 27 = .ok (.iload 4, 2) := by decide +kernel
theorem dX7_swapStates_29 : decode cX7_swapStates 29 = .ok (.aload_n 0, 1) := by decide +kernel
theorem dX7_swapStates_30 : decode cX7_swapStates 30 = .ok (.getfield 35, 3) := by decide +kernel
theorem dX7_swapStates_33 : decode cX7_swapStates 33 = .ok (.bipush 80, 2) := by decide +kernel
theorem dX7_swapStates_35 : decode cX7_swapStates 35 = .ok (.iaload, 1) := by decide +kernel
theorem dX7_swapStates_36 : decode cX7_swapStates 36 = .ok (.if_icmp .ge 189, 3) := by decide +kernel
theorem dX7_swapStates_39 : decode cX7_swapStates 39 = .ok (.aload_n 0, 1) := by decide +kernel
theorem dX7_swapStates_40 : decode cX7_swapStates 40 = .ok (.getfield 35, 3) := by decide +kernel
theorem dX7_swapStates_43 : decode cX7_swapStates 43 = .ok (.iconst 5, 1) := by decide +kernel
theorem dX7_swapStates_44 : decode cX7_swapStates 44 = .ok (.iload 4, 2) := by decide +kernel
theorem dX7_swapStates_46 : decode cX7_swapStates 46 = .ok (.imul, 1) := by decide +kernel
theorem dX7_swapStates_47 : decode cX7_swapStates 47 = .ok (.iaload, 1) := by decide +kernel
theorem dX7_swapStates_48 : decode cX7_swapStates 48 = .ok (.istore 5, 2) := by decide +kernel
theorem dX7_swapStates_50 : decode cX7_swapStates 50 = .ok (.aload_n 0, 1) := by decide +kernel
theorem dX7_swapStates_51 : decode cX7_swapStates 51 = .ok (.getfield 35, 3) := by decide +kernel
theorem dX7_swapStates_54 : decode cX7_swapStates 54 = .ok (.iconst 5, 1) := by decide +kernel
theorem dX7_swapStates_55 : decode cX7_swapStates 55 = .ok (.iload 4, 2) := by decide +kernel
theorem dX7_swapStates_57 : decode cX7_swapStates 57 = .ok (.imul, 1) := by decide +kernel
theorem dX7_swapStates_58 : decode cX7_swapStates 58 = .ok (.iconst 4, 1) := by decide +kernel
theorem dX7_swapStates_59 : decode cX7_swapStates 59 = .ok (.iadd, 1) := by decide +kernel
theorem dX7_swapStates_60 : decode cX7_swapStates 60 = .ok (.iaload, 1) := by decide +kernel
theorem dX7_swapStates_61 : decode cX7_swapStates 61 = .ok (.iload_n 1, 1) := by decide +kernel
theorem dX7_swapStates_62 : decode cX7_swapStates 62 = .ok (.if_icmp .eq 18, 3) := by decide +kernel
theorem dX7_swapStates_65 : decode cX7_swapStates 65 = .ok (.aload_n 0, 1) := by decide +kernel
theorem dX7_swapStates_66 : decode cX7_swapStates 66 = .ok (.getfield 35, 3) := by decide +kernel
theorem dX7_swapStates_69 : decode cX7_swapStates 69 = .ok (.iconst 5, 1) := by decide +kernel
theorem dX7_swapStates_70 : decode cX7_swapStates 70 = .ok (.iload 4, 2) := by decide +kernel
theorem dX7_swapStates_72 : decode cX7_swapStates 72 = .ok (.imul, 1) := by decide +kernel
theorem dX7_swapStates_73 : decode cX7_swapStates 73 = .ok (.iconst 4, 1) := by decide +kernel
theorem dX7_swapStates_74 : decode cX7_swapStates 74 = .ok (.iadd, 1) := by decide +kernel
theorem dX7_swapStates_75 : decode cX7_swapStates 75 = .ok (.iaload, 1) := by decide +kernel
theorem dX7_swapStates_76 : decode cX7_swapStates 76 = .ok (.iload_n 2, 1) := by decide +kernel
theorem dX7_swapStates_77 : decode cX7_swapStates 77 = .ok (.if_icmp .ne 7, 3) := by decide +kernel
theorem dX7_swapStates_80 : decode cX7_swapStates 80 = .ok (.iconst 1, 1) := by decide +kernel
theorem dX7_swapStates_81 : decode cX7_swapStates 81 = .ok (.goto 4, 3) := by decide +kernel
theorem dX7_swapStates_84 : decode cX7_swapStates 84 = .ok (.iconst 0, 1) := by decide +kernel
theorem dX7_swapStates_85 : decode cX7_swapStates 85 = .ok (.istore 6, 2) := by decide +kernel
theorem dX7_swapStates_87 : decode cX7_swapStates 87 = .ok (.iconst 1, 1) := by decide +kernel
theorem dX7_swapStates_88 : decode cX7_swapStates 88 = .ok (.istore 7, 2) := by decide +kernel
theorem dX7_swapStates_90 : decode cX7_swapStates 90 = .ok (.iload 7, 2) := by decide +kernel
theorem dX7_swapStates_92 : decode cX7_swapStates 92 = .ok (.iload 5, 2) := by decide +kernel
theorem dX7_swapStates_94 : decode cX7_swapStates 94 = .ok (.invokestatic 76, 3) := by decide +kernel
theorem dX7_swapStates_97 : decode cX7_swapStates 97 = .ok (.if_icmp .gt 82, 3) := by decide +kernel
theorem dX7_swapStates_100 : decode cX7_swapStates 100 = .ok (.iload 6, 2) := by decide +kernel
theorem dX7_swapStates_102 : decode cX7_swapStates 102 = .ok (.ifCond .ne 35, 3) := by decide +kernel
theorem dX7_swapStates_105 : decode cX7_swapStates 105 = .ok (.aload_n 0, 1) := by decide +kernel
theorem dX7_swapStates_106 : decode cX7_swapStates 106 = .ok (.getfield 35, 3) := by decide +kernel
theorem dX7_swapStates_109 : decode cX7_swapStates 109 = .ok (.iconst 5, 1) := by decide +kernel
theorem dX7_swapStates_110 : decode cX7_swapStates 110 = .ok (.iload 4, 2) := by decide +kernel
theorem dX7_swapStates_112 : decode cX7_swapStates 112 = .ok (.imul, 1) := by decide +kernel
theorem dX7_swapStates_113 : decode cX7_swapStates 113 = .ok (.iload 7, 2) := by decide +kernel
theorem dX7_swapStates_115 : decode cX7_swapStates 115 = .ok (.iadd, 1) := by decide +kernel
theorem dX7_swapStates_116 : decode cX7_swapStates 116 = .ok (.iaload, 1) := by decide +kernel
theorem dX7_swapStates_117 : decode cX7_swapStates 117 = .ok (.iload_n 1, 1) := by decide +kernel
theorem dX7_swapStates_118 : decode cX7_swapStates 118 = .ok (.if_icmp .eq 19, 3) := by decide +kernel
theorem dX7_swapStates_121 : decode cX7_swapStates 121 = .ok (.aload_n 0, 1) := by decide +kernel
theorem dX7_swapStates_122 : decode cX7_swapStates 122 = .ok (.getfield 35, 3) := by decide +kernel
theorem dX7_swapStates_125 : decode cX7_swapStates 125 = .ok (.iconst 5, 1) := by decide +kernel
theorem dX7_swapStates_126 : decode cX7_swapStates 126 = .ok (.iload 4, 2) := by decide +kernel
theorem dX7_swapStates_128 : decode cX7_swapStates 128 = .ok (.imul, 1) := by decide +kernel
theorem dX7_swapStates_129 : decode cX7_swapStates 129 = .ok (.iload 7, 2) := by decide +kernel
theorem dX7_swapStates_131 : decode cX7_swapStates 131 = .ok (.iadd, 1) := by decide +kernel
theorem dX7_swapStates_132 : decode cX7_swapStates 132 = .ok (.iaload, 1) := by decide +kernel
theorem dX7_swapStates_133 : decode cX7_swapStates 133 = .ok (.iload_n 2, 1) := by decide +kernel
theorem dX7_swapStates_134 : decode cX7_swapStates 134 = .ok (.if_icmp .ne 7, 3) := by decide +kernel
theorem dX7_swapStates_137 : decode cX7_swapStates 137 = .ok (.iconst 1, 1) := by decide +kernel
theorem dX7_swapStates_138 : decode cX7_swapStates 138 = .ok (.goto 4, 3) := by decide +kernel
theorem dX7_swapStates_141 : decode cX7_swapStates 141 = .ok (.iconst 0, 1) := by decide +kernel
theorem dX7_swapStates_142 : decode cX7_swapStates 142 = .ok (.istore 6, 2) := by decide +kernel
theorem dX7_swapStates_144 : decode cX7_swapStates 144 = .ok (.aload_n 0, 1) := by decide +kernel
theorem dX7_swapStates_145 : decode cX7_swapStates 145 = .ok (.getfield 35, 3) := by decide +kernel
theorem dX7_swapStates_148 : decode cX7_swapStates 148 = .ok (.iconst 5, 1) := by decide +kernel
theorem dX7_swapStates_149 : decode cX7_swapStates 149 = .ok (.iload 4, 2) := by decide +kernel
theorem dX7_swapStates_151 : decode cX7_swapStates 151 = .ok (.imul, 1) := by decide +kernel
theorem dX7_swapStates_152 : decode cX7_swapStates 152 = .ok (.iload 7, 2) := by decide +kernel
theorem dX7_swapStates_154 : decode cX7_swapStates 154 = .ok (.iadd, 1) := by decide +kernel
theorem dX7_swapStates_155 : decode cX7_swapStates 155 = .ok (.aload_n 0, 1) := by decide +kernel
theorem dX7_swapStates_156 : decode cX7_swapStates 156 = .ok (.getfield 35, 3) := by decide +kernel
theorem dX7_swapStates_159 : decode cX7_swapStates 159 = .ok (.iconst 5, 1) := by decide +kernel
theorem dX7_swapStates_160 : decode cX7_swapStates 160 = .ok (.iload 4, 2) := by decide +kernel
theorem dX7_swapStates_162 : decode cX7_swapStates 162 = .ok (.imul, 1) := by decide +kernel
theorem dX7_swapStates_163 : decode cX7_swapStates 163 = .ok (.iload 7, 2) := by decide +kernel
theorem dX7_swapStates_165 : decode cX7_swapStates 165 = .ok (.iadd, 1) := by decide +kernel
theorem dX7_swapStates_166 : decode cX7_swapStates 166 = .ok (.iaload, 1) := by decide +kernel
theorem dX7_swapStates_167 : decode cX7_swapStates 167 = .ok (.iload_n 1, 1) := by decide +kernel
theorem dX7_swapStates_168 : decode cX7_swapStates 168 = .ok (.iload_n 2, 1) := by decide +kernel
theorem dX7_swapStates_169 : decode cX7_swapStates 169 = .ok (.invokestatic 80, 3) := by decide +kernel
theorem dX7_swapStates_172 : decode cX7_swapStates 172 = .ok (.iastore, 1) := by decide +kernel
theorem dX7_swapStates_173 : decode cX7_swapStates 173 = .ok (.iinc 7 1, 3) := by decide +kernel
theorem dX7_swapStates_176 : decode cX7_swapStates 176 = .ok (.goto (-86), 3) := by decide +kernel
theorem dX7_swapStates_179 : decode cX7_swapStates 179 = .ok (.aload_n 0, 1) := by decide +kernel
theorem dX7_swapStates_180 : decode cX7_swapStates 180 = .ok (.getfield 35, 3) := by decide +kernel
theorem dX7_swapStates_183 : decode cX7_swapStates 183 = .ok (.iconst 5, 1) := by decide +kernel
theorem dX7_swapStates_184 : decode cX7_swapStates 184 = .ok (.iload 4, 2) := by decide +kernel
theorem dX7_swapStates_186 : decode cX7_swapStates 186 = .ok (.imul, 1) := by decide +kernel
theorem dX7_swapStates_187 : decode cX7_swapStates 187 = .ok (.iconst 4, 1) := by decide +kernel
theorem dX7_swapStates_188 : decode cX7_swapStates 188 = .ok (.iadd, 1) := by decide +kernel
theorem dX7_swapStates_189 : decode cX7_swapStates 189 = .ok (.aload_n 0, 1) := by decide +kernel
theorem dX7_swapStates_190 : decode cX7_swapStates 190 = .ok (.getfield 35, 3) := by decide +kernel
theorem dX7_swapStates_193 : decode cX7_swapStates 193 = .ok (.iconst 5, 1) := by decide +kernel
theorem dX7_swapStates_194 : decode cX7_swapStates 194 = .ok (.iload 4, 2) := by decide +kernel
theorem dX7_swapStates_196 : decode cX7_swapStates 196 = .ok (.imul, 1) := by decide +kernel
theorem dX7_swapStates_197 : decode cX7_swapStates 197 = .ok (.iconst 4, 1) := by decide +kernel
theorem dX7_swapStates_198 : decode cX7_swapStates 198 = .ok (.iadd, 1) := by decide +kernel
theorem dX7_swapStates_199 : decode cX7_swapStates 199 = .ok (.iaload, 1) := by decide +kernel
theorem dX7_swapStates_200 : decode cX7_swapStates 200 = .ok (.iload_n 1, 1) := by decide +kernel
theorem dX7_swapStates_201 : decode cX7_swapStates 201 = .ok (.iload_n 2, 1) := by decide +kernel
theorem dX7_swapStates_202 : decode cX7_swapStates 202 = .ok (.invokestatic 80, 3) := by decide +kernel
theorem dX7_swapStates_205 : decode cX7_swapStates 205 = .ok (.iastore, 1) := by decide +kernel
theorem dX7_swapStates_206 : decode cX7_swapStates 206 = .ok (.iload_n 3, 1) := by decide +kernel
theorem dX7_swapStates_207 : decode cX7_swapStates 207 = .ok (.iload 6, 2) := by decide +kernel
theorem dX7_swapStates_209 : decode cX7_swapStates 209 = .ok (.ifCond .eq 7, 3) := by decide +kernel
theorem dX7_swapStates_212 : decode cX7_swapStates 212 = .ok (.iconst 1, 1) := by decide +kernel
theorem dX7_swapStates_213 : decode cX7_swapStates 213 = .ok (.goto 4, 3) := by decide +kernel
theorem dX7_swapStates_216 : decode cX7_swapStates 216 = .ok (.iconst 0, 1) := by decide +kernel
theorem dX7_swapStates_217 : decode cX7_swapStates 217 = .ok (.iadd, 1) := by decide +kernel
theorem dX7_swapStates_218 : decode cX7_swapStates 218 = .ok (.istore_n 3, 1) := by decide +kernel
theorem dX7_swapStates_219 : decode cX7_swapStates 219 = .ok (.iinc 4 1, 3) := by decide +kernel
theorem dX7_swapStates_222 : decode cX7_swapStates 222 = .ok (.goto (-195), 3) := by decide +kernel
theorem dX7_swapStates_225 : decode cX7_swapStates 225 = .ok (.iconst 0, 1) := by decide +kernel
theorem dX7_swapStates_226 : decode cX7_swapStates 226 = .ok (.istore 4, 2) := by decide +kernel
theorem dX7_swapStates_228 : decode cX7_swapStates 228 = .ok (.iconst 0, 1) := by decide +kernel
theorem dX7_swapStates_229 : decode cX7_swapStates 229 = .ok (.istore 5, 2) := by decide +kernel
theorem dX7_swapStates_231 : decode cX7_swapStates 231 = .ok (.iload 5, 2) := by decide +kernel
theorem dX7_swapStates_233 : decode cX7_swapStates 233 = .ok (.aload_n 0, 1) := by decide +kernel
theorem dX7_swapStates_234 : decode cX7_swapStates 234 = .ok (.getfield 31, 3) := by decide +kernel
theorem dX7_swapStates_237 : decode cX7_swapStates 237 = .ok (.if_icmp .ge 42, 3) := by decide +kernel
theorem dX7_swapStates_240 : decode cX7_swapStates 240 = .ok (.iload 4, 2) := by decide +kernel
theorem dX7_swapStates_242 : decode cX7_swapStates 242 = .ok (.aload_n 0, 1) := by decide +kernel
theorem dX7_swapStates_243 : decode cX7_swapStates 243 = .ok (.getfield 35, 3) := by decide +kernel
theorem dX7_swapStates_246 : decode cX7_swapStates 246 = .ok (.bipush 81, 2) := by decide +kernel
theorem dX7_swapStates_248 : decode cX7_swapStates 248 = .ok (.iaload, 1) := by decide +kernel
theorem dX7_swapStates_249 : decode cX7_swapStates 249 = .ok (.iload 5, 2) := by decide +kernel
theorem dX7_swapStates_251 : decode cX7_swapStates 251 = .ok (.invokestatic 72, 3) := by decide +kernel
theorem dX7_swapStates_254 : decode cX7_swapStates 254 = .ok (.ifCond .eq 15, 3) := by decide +kernel
theorem dX7_swapStates_257 : decode cX7_swapStates 257 = .ok (.iconst 1, 1) := by decide +kernel
theorem dX7_swapStates_258 : decode cX7_swapStates 258 = .ok (.iload 5, 2) := by decide +kernel
theorem dX7_swapStates_260 : decode cX7_swapStates 260 = .ok (.iload_n 1, 1) := by decide +kernel
theorem dX7_swapStates_261 : decode cX7_swapStates 261 = .ok (.iload_n 2, 1) := by decide +kernel
theorem dX7_swapStates_262 : decode cX7_swapStates 262 = .ok (.invokestatic 80, 3) := by decide +kernel
theorem dX7_swapStates_265 : decode cX7_swapStates 265 = .ok (.ishl, 1) := by decide +kernel
theorem dX7_swapStates_266 : decode cX7_swapStates 266 = .ok (.goto 4, 3) := by decide +kernel
theorem dX7_swapStates_269 : decode cX7_swapStates 269 = .ok (.iconst 0, 1) := by decide +kernel
theorem dX7_swapStates_270 : decode cX7_swapStates 270 = .ok (.ior, 1) := by decide +kernel
theorem dX7_swapStates_271 : decode cX7_swapStates 271 = .ok (.istore 4, 2) := by decide +kernel
theorem dX7_swapStates_273 : decode cX7_swapStates 273 = .ok (.iinc 5 1, 3) := by decide +kernel
theorem dX7_swapStates_276 : decode cX7_swapStates 276 = .ok (.goto (-45), 3) := by decide +kernel
theorem dX7_swapStates_279 : decode cX7_swapStates 279 = .ok (.aload_n 0, 1) := by decide +kernel
theorem dX7_swapStates_280 : decode cX7_swapStates 280 = .ok (.getfield 35, 3) := by decide +kernel
theorem dX7_swapStates_283 : decode cX7_swapStates 283 = .ok (.bipush 81, 2) := by decide +kernel
theorem dX7_swapStates_285 : decode cX7_swapStates 285 = .ok (.iload 4, 2) := by decide +kernel
theorem dX7_swapStates_287 : decode cX7_swapStates 287 = .ok (.iastore, 1) := by decide +kernel
theorem dX7_swapStates_288 : decode cX7_swapStates 288 = .ok (.iload_n 3, 1) := by decide +kernel
theorem dX7_swapStates_289 : decode cX7_swapStates 289 = .ok (.ireturn, 1) := by decide +kernel
theorem jX7_swapStates_X7 : ∀ w ∈ wsX70, w ∈ wsX7_swapStates := by decide +kernel
abbrev w_X7_swapStates (cI cO : ClassId) (aN : Nat → Nat)  : ((CS)) → va_W := fun u => (wN cI aN u)
set_option maxRecDepth 100000 in
set_option maxHeartbeats 8000000 in
theorem mX7_swapStates (l : Launch) (D : va_G) (cI cO : ClassId) (tA tS : Nat) (aN : Nat → Nat) (zN : CS) (x1 : Int32) (x2 : Int32) (sz : Nat) {post : Int32 → ((CS)) → Prop} (h : qX7_swapStates post x1 x2 zN) : Met l yX7_swapStates wsX7_swapStates ({ frames := 2, cells := 0, slots := 0, locals := 43 } : Room) (xPre D cI cO tA tS [.ref (aN 0), .int x1, .int x2] (wN cI aN zN) sz) (va_Qi post (xB D cI cO (va_A (wN cI aN zN) sz) (w_X7_swapStates cI cO aN)) (va_A (wN cI aN zN) sz)) 0 0 (va_A (wN cI aN zN) sz) := by
  refine xMet D cI cO tA tS (fun A => va_Qi post (xB D cI cO A (w_X7_swapStates cI cO aN)) A) (cc := cX7_swapStates) (maxL := 8) (ret := (some .int)) (by decide) rfl (Nat.le_of_ble_eq_true rfl) ?_
  intro p e s m below meth c A ls hx hb hr hts hown hlocks hin hml hA hS hP hK hD hE hl
  have hown : s.vm.findClass RX7 = some m.cls := hown
  have hl : lv_has ls 8 [(0, .ref (aN 0)), (1, .int x1), (2, .int x2)] := hl
  have g270 : ∀ (k231 : (Int32) → (Int32) → (Int32) → (CS) → Prop), (∀ (y3 : Int32) (y4 : Int32) (y5 : Int32) (zN : CS) (H : Heap) (locs : List Loc) (ls : Array Slot), k231 y3 y4 y5 zN → va_P D vwCl (wN cI aN zN) H → va_D A (wN cI aN zN) → va_S A s.heap H locs → lv_has ls 8 [(5, .int y5), (4, .int y4), (3, .int y3), (0, .ref (aN 0)), (1, .int x1), (2, .int x2)] → W p l e ({ frames := 2, cells := 0, slots := 0, locals := 43 } : Room) s m ([.ref (aN 0), .int x1, .int x2] : List Value).toArray below meth c H locs 0 0 (MQ below (va_Qi post (xB D cI cO A (w_X7_swapStates cI cO aN)) A) ([.ref (aN 0), .int x1, .int x2] : List Value).toArray s 0 0 A) (F0 m 231 ls [])) → ∀ (y3 : Int32) (y4 : Int32) (y5 : Int32) (w0 : Int32) (w1 : Int32) (zN : CS) (H : Heap) (locs : List Loc) (ls : Array Slot), qX7_swapStates_270 post x1 x2 k231 y3 y4 y5 w0 w1 zN → va_P D vwCl (wN cI aN zN) H → va_D A (wN cI aN zN) → va_S A s.heap H locs → lv_has ls 8 [(5, .int y5), (4, .int y4), (3, .int y3), (0, .ref (aN 0)), (1, .int x1), (2, .int x2)] → W p l e ({ frames := 2, cells := 0, slots := 0, locals := 43 } : Room) s m ([.ref (aN 0), .int x1, .int x2] : List Value).toArray below meth c H locs 0 0 (MQ below (va_Qi post (xB D cI cO A (w_X7_swapStates cI cO aN)) A) ([.ref (aN 0), .int x1, .int x2] : List Value).toArray s 0 0 A) (F0 m 270 ls [.int w1, .int w0]) := by
    intro k231 hk231 y3 y4 y5 w0 w1 zN H locs ls h hP hD hS hl
    refine lv_ior hx hb dX7_swapStates_270 ?_
    refine lv_istore (lv' := [(4, .int (w0 ||| w1)), (5, .int y5), (3, .int y3), (0, .ref (aN 0)), (1, .int x1), (2, .int x2)]) hx hb dX7_swapStates_271 hl (by decide) rfl (fun ls hl => ?_)
    refine lv_iinc (v := (y5 + (1 : Int32))) (lv' := [(5, .int (y5 + (1 : Int32))), (4, .int (w0 ||| w1)), (3, .int y3), (0, .ref (aN 0)), (1, .int x1), (2, .int x2)]) hx hb dX7_swapStates_273 hl (k := 1) rfl rfl (by decide) rfl (fun ls hl => ?_)
    refine lv_goto (tgt := 231) hx hb dX7_swapStates_276 (by decide) ?_
    exact hk231 y3 (w0 ||| w1) (y5 + (1 : Int32)) zN _ _ _ h hP hD hS hl
  have g231 : ∀ (n : Nat) (y3 : Int32) (y4 : Int32) (y5 : Int32) (zN : CS) (H : Heap) (locs : List Loc) (ls : Array Slot), qX7_swapStates_231 post x1 x2 n y3 y4 y5 zN → va_P D vwCl (wN cI aN zN) H → va_D A (wN cI aN zN) → va_S A s.heap H locs → lv_has ls 8 [(5, .int y5), (4, .int y4), (3, .int y3), (0, .ref (aN 0)), (1, .int x1), (2, .int x2)] → W p l e ({ frames := 2, cells := 0, slots := 0, locals := 43 } : Room) s m ([.ref (aN 0), .int x1, .int x2] : List Value).toArray below meth c H locs 0 0 (MQ below (va_Qi post (xB D cI cO A (w_X7_swapStates cI cO aN)) A) ([.ref (aN 0), .int x1, .int x2] : List Value).toArray s 0 0 A) (F0 m 231 ls []) := by
    intro n
    induction n with
    | zero => intro y3 y4 y5 zN H locs ls h; exact False.elim h
    | succ n hk231 =>
      intro y3 y4 y5 zN H locs ls h hP hD hS hl
      have h : qX7_swapStates_231b post x1 x2 (qX7_swapStates_231 post x1 x2 n) y3 y4 y5 zN := h
      refine lv_iload hx hb dX7_swapStates_231 (lv_at hl 0 rfl) ?_
      refine lv_aload_n hx hb dX7_swapStates_233 rfl (lv_at hl 3 rfl) ?_
      refine va_get (D := D) (ci := 7) (v := .int (zN 11 1)) (C := RX7) (T := TX7) (N := 14) hx hb hts jX7_swapStates_X7 hown hK hP 0 rfl rfl 8 (by decide) (hts (.fieldLink RX7 31 "BrotherAutomataModel" "states" "I") (List.mem_of_getElem? (i := 2) rfl)) (fun _ h9 => h9) rfl dX7_swapStates_234 ?_
      obtain ⟨hh1, hh2⟩ := h
      refine lv_icmp_ge (tgt := 279) hx hb dX7_swapStates_237 (by decide) (fun hc => ?_) (fun hc => ?_)
      · have h := hh1 hc
        refine lv_aload_n hx hb dX7_swapStates_279 rfl (lv_at hl 3 rfl) ?_
        refine va_get (D := D) (ci := 7) (v := .ref (aN 8)) (C := RX7) (T := TX7) (N := 14) hx hb hts jX7_swapStates_X7 hown hK hP 0 rfl rfl 9 (by decide) (hts (.fieldLink RX7 35 "BrotherAutomataModel" "now" "[I") (List.mem_of_getElem? (i := 1) rfl)) (fun _ h9 => h9) rfl dX7_swapStates_280 ?_
        refine lv_bipush (v := 81) hx hb dX7_swapStates_283 (by decide) ?_
        refine lv_iload hx hb dX7_swapStates_285 (lv_at hl 1 rfl) ?_
        obtain ⟨hi, h⟩ := h
        refine va_iast hx hb hK hP hD hS 8 0 rfl rfl hi dX7_swapStates_287 (fun H locs hP hD hS => ?_)
        have hP : va_P D vwCl (wN cI aN (st zN 7 (81 : Int32).toNatClampNeg y4)) H := hP
        have hD : va_D A (wN cI aN (st zN 7 (81 : Int32).toNatClampNeg y4)) := hD
        refine lv_iload_n hx hb dX7_swapStates_288 rfl (lv_at hl 2 rfl) ?_
        exact xiret (w := (w_X7_swapStates cI cO aN)) (st zN 7 (81 : Int32).toNatClampNeg y4) hx hb hr hlocks h hP hK hD hS dX7_swapStates_289
      · have h := hh2 hc
        refine lv_iload hx hb dX7_swapStates_240 (lv_at hl 1 rfl) ?_
        refine lv_aload_n hx hb dX7_swapStates_242 rfl (lv_at hl 3 rfl) ?_
        refine va_get (D := D) (ci := 7) (v := .ref (aN 8)) (C := RX7) (T := TX7) (N := 14) hx hb hts jX7_swapStates_X7 hown hK hP 0 rfl rfl 9 (by decide) (hts (.fieldLink RX7 35 "BrotherAutomataModel" "now" "[I") (List.mem_of_getElem? (i := 1) rfl)) (fun _ h9 => h9) rfl dX7_swapStates_243 ?_
        refine lv_bipush (v := 81) hx hb dX7_swapStates_246 (by decide) ?_
        obtain ⟨hi, h⟩ := h
        refine va_iald hx hb hK hP 8 0 rfl rfl hi dX7_swapStates_248 ?_
        refine lv_iload hx hb dX7_swapStates_249 (lv_at hl 0 rfl) ?_
        refine xcalli (wr := (wN cI aN zN)) (w2 := fun (u251 : Unit) => (wN cI aN zN)) (va_runS (As := [.int ((zN 7) (81 : Int32).toNatClampNeg), .int y5]) (rest := [.int y4]) ⟨hx, hb, hml, hown, hts⟩ (mX7_has l D cI cO tA tS ((zN 7) (81 : Int32).toNatClampNeg) y5 _ h) (va_cwS 2 hts gX7_swapStates_X7_has rfl rfl rfl (by decide +kernel) ⟨Nat.le_of_ble_eq_true rfl, Nat.le_of_ble_eq_true rfl⟩) (xpreP hP hD hS hA hK hE [] rfl rfl) rfl rfl hl.1 rfl (lv_room (Nat.le_of_ble_eq_true rfl)) dX7_swapStates_251 ⟨Nat.le_refl 0, Nat.le_refl 0⟩) hP hD hS hA [] [0, 1, 2, 3, 4, 5, 6, 7, 8, 9, 10, 11] [0, 1, 2, 3, 4, 5, 6, 7, 8, 9, 10, 11] rfl rfl rfl (by decide) rfl (fun _ => rfl) (fun r251 u251 H locs h hP hD hS => ?_)
        obtain ⟨hh1, hh2⟩ := h
        refine lv_if_eq (tgt := 269) hx hb dX7_swapStates_254 (by decide) (fun hc => ?_) (fun hc => ?_)
        · have h := hh1 hc
          refine lv_iconst (v := 0) hx hb dX7_swapStates_269 (by decide) ?_
          exact g270 (qX7_swapStates_231 post x1 x2 n) hk231 y3 y4 y5 y4 (0 : Int32) zN _ _ _ h hP hD hS hl
        · have h := hh2 hc
          refine lv_iconst (v := 1) hx hb dX7_swapStates_257 (by decide) ?_
          refine lv_iload hx hb dX7_swapStates_258 (lv_at hl 0 rfl) ?_
          refine lv_iload_n hx hb dX7_swapStates_260 rfl (lv_at hl 4 rfl) ?_
          refine lv_iload_n hx hb dX7_swapStates_261 rfl (lv_at hl 5 rfl) ?_
          refine xcalli (wr := (wN cI aN zN)) (w2 := fun (u262 : Unit) => (wN cI aN zN)) (va_runS (As := [.int y5, .int x1, .int x2]) (rest := [.int (1 : Int32), .int y4]) ⟨hx, hb, hml, hown, hts⟩ (mX7_swapped l D cI cO tA tS y5 x1 x2 _ h) (va_cwS 3 hts gX7_swapStates_X7_swapped rfl rfl rfl (by decide +kernel) ⟨Nat.le_of_ble_eq_true rfl, Nat.le_of_ble_eq_true rfl⟩) (xpreP hP hD hS hA hK hE [] rfl rfl) rfl rfl hl.1 rfl (lv_room (Nat.le_of_ble_eq_true rfl)) dX7_swapStates_262 ⟨Nat.le_refl 0, Nat.le_refl 0⟩) hP hD hS hA [] [0, 1, 2, 3, 4, 5, 6, 7, 8, 9, 10, 11] [0, 1, 2, 3, 4, 5, 6, 7, 8, 9, 10, 11] rfl rfl rfl (by decide) rfl (fun _ => rfl) (fun r262 u262 H locs h hP hD hS => ?_)
          refine lv_ishl hx hb dX7_swapStates_265 ?_
          refine lv_goto (tgt := 270) hx hb dX7_swapStates_266 (by decide) ?_
          exact g270 (qX7_swapStates_231 post x1 x2 n) hk231 y3 y4 y5 y4 ((1 : Int32) <<< (r262 &&& 31)) zN _ _ _ h hP hD hS hl
  have g217 : ∀ (k27 : (Int32) → (Int32) → (CS) → Prop), (∀ (y3 : Int32) (y4 : Int32) (zN : CS) (H : Heap) (locs : List Loc) (ls : Array Slot), k27 y3 y4 zN → va_P D vwCl (wN cI aN zN) H → va_D A (wN cI aN zN) → va_S A s.heap H locs → lv_has ls 8 [(4, .int y4), (3, .int y3), (0, .ref (aN 0)), (1, .int x1), (2, .int x2)] → W p l e ({ frames := 2, cells := 0, slots := 0, locals := 43 } : Room) s m ([.ref (aN 0), .int x1, .int x2] : List Value).toArray below meth c H locs 0 0 (MQ below (va_Qi post (xB D cI cO A (w_X7_swapStates cI cO aN)) A) ([.ref (aN 0), .int x1, .int x2] : List Value).toArray s 0 0 A) (F0 m 27 ls [])) → ∀ (y3 : Int32) (y4 : Int32) (y5 : Int32) (y6 : Int32) (y7 : Int32) (w0 : Int32) (w1 : Int32) (zN : CS) (H : Heap) (locs : List Loc) (ls : Array Slot), qX7_swapStates_217 post x1 x2 k27 y3 y4 y5 y6 y7 w0 w1 zN → va_P D vwCl (wN cI aN zN) H → va_D A (wN cI aN zN) → va_S A s.heap H locs → lv_has ls 8 [(7, .int y7), (6, .int y6), (5, .int y5), (4, .int y4), (3, .int y3), (0, .ref (aN 0)), (1, .int x1), (2, .int x2)] → W p l e ({ frames := 2, cells := 0, slots := 0, locals := 43 } : Room) s m ([.ref (aN 0), .int x1, .int x2] : List Value).toArray below meth c H locs 0 0 (MQ below (va_Qi post (xB D cI cO A (w_X7_swapStates cI cO aN)) A) ([.ref (aN 0), .int x1, .int x2] : List Value).toArray s 0 0 A) (F0 m 217 ls [.int w1, .int w0]) := by
    intro k27 hk27 y3 y4 y5 y6 y7 w0 w1 zN H locs ls h hP hD hS hl
    refine lv_iadd hx hb dX7_swapStates_217 ?_
    refine lv_istore_n (lv' := [(3, .int (w0 + w1)), (7, .int y7), (6, .int y6), (5, .int y5), (4, .int y4), (0, .ref (aN 0)), (1, .int x1), (2, .int x2)]) hx hb dX7_swapStates_218 rfl hl (by decide) rfl (fun ls hl => ?_)
    refine lv_iinc (v := (y4 + (1 : Int32))) (lv' := [(4, .int (y4 + (1 : Int32))), (3, .int (w0 + w1)), (7, .int y7), (6, .int y6), (5, .int y5), (0, .ref (aN 0)), (1, .int x1), (2, .int x2)]) hx hb dX7_swapStates_219 hl (k := 4) rfl rfl (by decide) rfl (fun ls hl => ?_)
    refine lv_goto (tgt := 27) hx hb dX7_swapStates_222 (by decide) ?_
    exact hk27 (w0 + w1) (y4 + (1 : Int32)) zN _ _ _ h hP hD hS (lv_sub hl [0, 1, 5, 6, 7] rfl)
  have g142 : ∀ (k27 : (Int32) → (Int32) → (CS) → Prop), (∀ (y3 : Int32) (y4 : Int32) (zN : CS) (H : Heap) (locs : List Loc) (ls : Array Slot), k27 y3 y4 zN → va_P D vwCl (wN cI aN zN) H → va_D A (wN cI aN zN) → va_S A s.heap H locs → lv_has ls 8 [(4, .int y4), (3, .int y3), (0, .ref (aN 0)), (1, .int x1), (2, .int x2)] → W p l e ({ frames := 2, cells := 0, slots := 0, locals := 43 } : Room) s m ([.ref (aN 0), .int x1, .int x2] : List Value).toArray below meth c H locs 0 0 (MQ below (va_Qi post (xB D cI cO A (w_X7_swapStates cI cO aN)) A) ([.ref (aN 0), .int x1, .int x2] : List Value).toArray s 0 0 A) (F0 m 27 ls [])) → ∀ (k90 : (Int32) → (Int32) → (Int32) → (Int32) → (Int32) → (CS) → Prop), (∀ (y3 : Int32) (y4 : Int32) (y5 : Int32) (y6 : Int32) (y7 : Int32) (zN : CS) (H : Heap) (locs : List Loc) (ls : Array Slot), k90 y3 y4 y5 y6 y7 zN → va_P D vwCl (wN cI aN zN) H → va_D A (wN cI aN zN) → va_S A s.heap H locs → lv_has ls 8 [(7, .int y7), (6, .int y6), (5, .int y5), (4, .int y4), (3, .int y3), (0, .ref (aN 0)), (1, .int x1), (2, .int x2)] → W p l e ({ frames := 2, cells := 0, slots := 0, locals := 43 } : Room) s m ([.ref (aN 0), .int x1, .int x2] : List Value).toArray below meth c H locs 0 0 (MQ below (va_Qi post (xB D cI cO A (w_X7_swapStates cI cO aN)) A) ([.ref (aN 0), .int x1, .int x2] : List Value).toArray s 0 0 A) (F0 m 90 ls [])) → ∀ (y3 : Int32) (y4 : Int32) (y5 : Int32) (y6 : Int32) (y7 : Int32) (w0 : Int32) (zN : CS) (H : Heap) (locs : List Loc) (ls : Array Slot), qX7_swapStates_142 post x1 x2 k27 k90 y3 y4 y5 y6 y7 w0 zN → va_P D vwCl (wN cI aN zN) H → va_D A (wN cI aN zN) → va_S A s.heap H locs → lv_has ls 8 [(7, .int y7), (6, .int y6), (5, .int y5), (4, .int y4), (3, .int y3), (0, .ref (aN 0)), (1, .int x1), (2, .int x2)] → W p l e ({ frames := 2, cells := 0, slots := 0, locals := 43 } : Room) s m ([.ref (aN 0), .int x1, .int x2] : List Value).toArray below meth c H locs 0 0 (MQ below (va_Qi post (xB D cI cO A (w_X7_swapStates cI cO aN)) A) ([.ref (aN 0), .int x1, .int x2] : List Value).toArray s 0 0 A) (F0 m 142 ls [.int w0]) := by
    intro k27 hk27 k90 hk90 y3 y4 y5 y6 y7 w0 zN H locs ls h hP hD hS hl
    refine lv_istore (lv' := [(6, .int w0), (7, .int y7), (5, .int y5), (4, .int y4), (3, .int y3), (0, .ref (aN 0)), (1, .int x1), (2, .int x2)]) hx hb dX7_swapStates_142 hl (by decide) rfl (fun ls hl => ?_)
    refine lv_aload_n hx hb dX7_swapStates_144 rfl (lv_at hl 5 rfl) ?_
    refine va_get (D := D) (ci := 7) (v := .ref (aN 8)) (C := RX7) (T := TX7) (N := 14) hx hb hts jX7_swapStates_X7 hown hK hP 0 rfl rfl 9 (by decide) (hts (.fieldLink RX7 35 "BrotherAutomataModel" "now" "[I") (List.mem_of_getElem? (i := 1) rfl)) (fun _ h9 => h9) rfl dX7_swapStates_145 ?_
    refine lv_iconst (v := 5) hx hb dX7_swapStates_148 (by decide) ?_
    refine lv_iload hx hb dX7_swapStates_149 (lv_at hl 3 rfl) ?_
    refine lv_imul hx hb dX7_swapStates_151 ?_
    refine lv_iload hx hb dX7_swapStates_152 (lv_at hl 1 rfl) ?_
    refine lv_iadd hx hb dX7_swapStates_154 ?_
    refine lv_aload_n hx hb dX7_swapStates_155 rfl (lv_at hl 5 rfl) ?_
    refine va_get (D := D) (ci := 7) (v := .ref (aN 8)) (C := RX7) (T := TX7) (N := 14) hx hb hts jX7_swapStates_X7 hown hK hP 0 rfl rfl 9 (by decide) (hts (.fieldLink RX7 35 "BrotherAutomataModel" "now" "[I") (List.mem_of_getElem? (i := 1) rfl)) (fun _ h9 => h9) rfl dX7_swapStates_156 ?_
    refine lv_iconst (v := 5) hx hb dX7_swapStates_159 (by decide) ?_
    refine lv_iload hx hb dX7_swapStates_160 (lv_at hl 3 rfl) ?_
    refine lv_imul hx hb dX7_swapStates_162 ?_
    refine lv_iload hx hb dX7_swapStates_163 (lv_at hl 1 rfl) ?_
    refine lv_iadd hx hb dX7_swapStates_165 ?_
    obtain ⟨hi, h⟩ := h
    refine va_iald hx hb hK hP 8 0 rfl rfl hi dX7_swapStates_166 ?_
    refine lv_iload_n hx hb dX7_swapStates_167 rfl (lv_at hl 6 rfl) ?_
    refine lv_iload_n hx hb dX7_swapStates_168 rfl (lv_at hl 7 rfl) ?_
    refine xcalli (wr := (wN cI aN zN)) (w2 := fun (u169 : Unit) => (wN cI aN zN)) (va_runS (As := [.int ((zN 7) (((5 : Int32) * y4) + y7).toNatClampNeg), .int x1, .int x2]) (rest := [.int (((5 : Int32) * y4) + y7), .ref (aN 8)]) ⟨hx, hb, hml, hown, hts⟩ (mX7_swapped l D cI cO tA tS ((zN 7) (((5 : Int32) * y4) + y7).toNatClampNeg) x1 x2 _ h) (va_cwS 3 hts gX7_swapStates_X7_swapped rfl rfl rfl (by decide +kernel) ⟨Nat.le_of_ble_eq_true rfl, Nat.le_of_ble_eq_true rfl⟩) (xpreP hP hD hS hA hK hE [] rfl rfl) rfl rfl hl.1 rfl (lv_room (Nat.le_of_ble_eq_true rfl)) dX7_swapStates_169 ⟨Nat.le_refl 0, Nat.le_refl 0⟩) hP hD hS hA [] [0, 1, 2, 3, 4, 5, 6, 7, 8, 9, 10, 11] [0, 1, 2, 3, 4, 5, 6, 7, 8, 9, 10, 11] rfl rfl rfl (by decide) rfl (fun _ => rfl) (fun r169 u169 H locs h hP hD hS => ?_)
    obtain ⟨hi, h⟩ := h
    refine va_iast hx hb hK hP hD hS 8 0 rfl rfl hi dX7_swapStates_172 (fun H locs hP hD hS => ?_)
    have hP : va_P D vwCl (wN cI aN (st zN 7 (((5 : Int32) * y4) + y7).toNatClampNeg r169)) H := hP
    have hD : va_D A (wN cI aN (st zN 7 (((5 : Int32) * y4) + y7).toNatClampNeg r169)) := hD
    refine lv_iinc (v := (y7 + (1 : Int32))) (lv' := [(7, .int (y7 + (1 : Int32))), (6, .int w0), (5, .int y5), (4, .int y4), (3, .int y3), (0, .ref (aN 0)), (1, .int x1), (2, .int x2)]) hx hb dX7_swapStates_173 hl (k := 1) rfl rfl (by decide) rfl (fun ls hl => ?_)
    refine lv_goto (tgt := 90) hx hb dX7_swapStates_176 (by decide) ?_
    exact hk90 y3 y4 y5 w0 (y7 + (1 : Int32)) (st zN 7 (((5 : Int32) * y4) + y7).toNatClampNeg r169) _ _ _ h hP hD hS hl
  have g137 : ∀ (k27 : (Int32) → (Int32) → (CS) → Prop), (∀ (y3 : Int32) (y4 : Int32) (zN : CS) (H : Heap) (locs : List Loc) (ls : Array Slot), k27 y3 y4 zN → va_P D vwCl (wN cI aN zN) H → va_D A (wN cI aN zN) → va_S A s.heap H locs → lv_has ls 8 [(4, .int y4), (3, .int y3), (0, .ref (aN 0)), (1, .int x1), (2, .int x2)] → W p l e ({ frames := 2, cells := 0, slots := 0, locals := 43 } : Room) s m ([.ref (aN 0), .int x1, .int x2] : List Value).toArray below meth c H locs 0 0 (MQ below (va_Qi post (xB D cI cO A (w_X7_swapStates cI cO aN)) A) ([.ref (aN 0), .int x1, .int x2] : List Value).toArray s 0 0 A) (F0 m 27 ls [])) → ∀ (k90 : (Int32) → (Int32) → (Int32) → (Int32) → (Int32) → (CS) → Prop), (∀ (y3 : Int32) (y4 : Int32) (y5 : Int32) (y6 : Int32) (y7 : Int32) (zN : CS) (H : Heap) (locs : List Loc) (ls : Array Slot), k90 y3 y4 y5 y6 y7 zN → va_P D vwCl (wN cI aN zN) H → va_D A (wN cI aN zN) → va_S A s.heap H locs → lv_has ls 8 [(7, .int y7), (6, .int y6), (5, .int y5), (4, .int y4), (3, .int y3), (0, .ref (aN 0)), (1, .int x1), (2, .int x2)] → W p l e ({ frames := 2, cells := 0, slots := 0, locals := 43 } : Room) s m ([.ref (aN 0), .int x1, .int x2] : List Value).toArray below meth c H locs 0 0 (MQ below (va_Qi post (xB D cI cO A (w_X7_swapStates cI cO aN)) A) ([.ref (aN 0), .int x1, .int x2] : List Value).toArray s 0 0 A) (F0 m 90 ls [])) → ∀ (y3 : Int32) (y4 : Int32) (y5 : Int32) (y6 : Int32) (y7 : Int32) (zN : CS) (H : Heap) (locs : List Loc) (ls : Array Slot), qX7_swapStates_137 post x1 x2 k27 k90 y3 y4 y5 y6 y7 zN → va_P D vwCl (wN cI aN zN) H → va_D A (wN cI aN zN) → va_S A s.heap H locs → lv_has ls 8 [(7, .int y7), (6, .int y6), (5, .int y5), (4, .int y4), (3, .int y3), (0, .ref (aN 0)), (1, .int x1), (2, .int x2)] → W p l e ({ frames := 2, cells := 0, slots := 0, locals := 43 } : Room) s m ([.ref (aN 0), .int x1, .int x2] : List Value).toArray below meth c H locs 0 0 (MQ below (va_Qi post (xB D cI cO A (w_X7_swapStates cI cO aN)) A) ([.ref (aN 0), .int x1, .int x2] : List Value).toArray s 0 0 A) (F0 m 137 ls []) := by
    intro k27 hk27 k90 hk90 y3 y4 y5 y6 y7 zN H locs ls h hP hD hS hl
    refine lv_iconst (v := 1) hx hb dX7_swapStates_137 (by decide) ?_
    refine lv_goto (tgt := 142) hx hb dX7_swapStates_138 (by decide) ?_
    exact g142 k27 hk27 k90 hk90 y3 y4 y5 y6 y7 (1 : Int32) zN _ _ _ h hP hD hS hl
  have g90 : ∀ (k27 : (Int32) → (Int32) → (CS) → Prop), (∀ (y3 : Int32) (y4 : Int32) (zN : CS) (H : Heap) (locs : List Loc) (ls : Array Slot), k27 y3 y4 zN → va_P D vwCl (wN cI aN zN) H → va_D A (wN cI aN zN) → va_S A s.heap H locs → lv_has ls 8 [(4, .int y4), (3, .int y3), (0, .ref (aN 0)), (1, .int x1), (2, .int x2)] → W p l e ({ frames := 2, cells := 0, slots := 0, locals := 43 } : Room) s m ([.ref (aN 0), .int x1, .int x2] : List Value).toArray below meth c H locs 0 0 (MQ below (va_Qi post (xB D cI cO A (w_X7_swapStates cI cO aN)) A) ([.ref (aN 0), .int x1, .int x2] : List Value).toArray s 0 0 A) (F0 m 27 ls [])) → ∀ (n : Nat) (y3 : Int32) (y4 : Int32) (y5 : Int32) (y6 : Int32) (y7 : Int32) (zN : CS) (H : Heap) (locs : List Loc) (ls : Array Slot), qX7_swapStates_90 post x1 x2 k27 n y3 y4 y5 y6 y7 zN → va_P D vwCl (wN cI aN zN) H → va_D A (wN cI aN zN) → va_S A s.heap H locs → lv_has ls 8 [(7, .int y7), (6, .int y6), (5, .int y5), (4, .int y4), (3, .int y3), (0, .ref (aN 0)), (1, .int x1), (2, .int x2)] → W p l e ({ frames := 2, cells := 0, slots := 0, locals := 43 } : Room) s m ([.ref (aN 0), .int x1, .int x2] : List Value).toArray below meth c H locs 0 0 (MQ below (va_Qi post (xB D cI cO A (w_X7_swapStates cI cO aN)) A) ([.ref (aN 0), .int x1, .int x2] : List Value).toArray s 0 0 A) (F0 m 90 ls []) := by
    intro k27 hk27 n
    induction n with
    | zero => intro y3 y4 y5 y6 y7 zN H locs ls h; exact False.elim h
    | succ n hk90 =>
      intro y3 y4 y5 y6 y7 zN H locs ls h hP hD hS hl
      have h : qX7_swapStates_90b post x1 x2 k27 (qX7_swapStates_90 post x1 x2 k27 n) y3 y4 y5 y6 y7 zN := h
      refine lv_iload hx hb dX7_swapStates_90 (lv_at hl 0 rfl) ?_
      refine lv_iload hx hb dX7_swapStates_92 (lv_at hl 2 rfl) ?_
      refine xcalli (wr := (wN cI aN zN)) (w2 := fun (u94 : Unit) => (wN cI aN zN)) (va_runS (As := [.int y5]) (rest := [.int y7]) ⟨hx, hb, hml, hown, hts⟩ (mX7_arity l D cI cO tA tS y5 _ h) (va_cwS 1 hts gX7_swapStates_X7_arity rfl rfl rfl (by decide +kernel) ⟨Nat.le_of_ble_eq_true rfl, Nat.le_of_ble_eq_true rfl⟩) (xpreP hP hD hS hA hK hE [] rfl rfl) rfl rfl hl.1 rfl (lv_room (Nat.le_of_ble_eq_true rfl)) dX7_swapStates_94 ⟨Nat.le_refl 0, Nat.le_refl 0⟩) hP hD hS hA [] [0, 1, 2, 3, 4, 5, 6, 7, 8, 9, 10, 11] [0, 1, 2, 3, 4, 5, 6, 7, 8, 9, 10, 11] rfl rfl rfl (by decide) rfl (fun _ => rfl) (fun r94 u94 H locs h hP hD hS => ?_)
      obtain ⟨hh1, hh2⟩ := h
      refine lv_icmp_gt (tgt := 179) hx hb dX7_swapStates_97 (by decide) (fun hc => ?_) (fun hc => ?_)
      · have h := hh1 hc
        refine lv_aload_n hx hb dX7_swapStates_179 rfl (lv_at hl 5 rfl) ?_
        refine va_get (D := D) (ci := 7) (v := .ref (aN 8)) (C := RX7) (T := TX7) (N := 14) hx hb hts jX7_swapStates_X7 hown hK hP 0 rfl rfl 9 (by decide) (hts (.fieldLink RX7 35 "BrotherAutomataModel" "now" "[I") (List.mem_of_getElem? (i := 1) rfl)) (fun _ h9 => h9) rfl dX7_swapStates_180 ?_
        refine lv_iconst (v := 5) hx hb dX7_swapStates_183 (by decide) ?_
        refine lv_iload hx hb dX7_swapStates_184 (lv_at hl 3 rfl) ?_
        refine lv_imul hx hb dX7_swapStates_186 ?_
        refine lv_iconst (v := 4) hx hb dX7_swapStates_187 (by decide) ?_
        refine lv_iadd hx hb dX7_swapStates_188 ?_
        refine lv_aload_n hx hb dX7_swapStates_189 rfl (lv_at hl 5 rfl) ?_
        refine va_get (D := D) (ci := 7) (v := .ref (aN 8)) (C := RX7) (T := TX7) (N := 14) hx hb hts jX7_swapStates_X7 hown hK hP 0 rfl rfl 9 (by decide) (hts (.fieldLink RX7 35 "BrotherAutomataModel" "now" "[I") (List.mem_of_getElem? (i := 1) rfl)) (fun _ h9 => h9) rfl dX7_swapStates_190 ?_
        refine lv_iconst (v := 5) hx hb dX7_swapStates_193 (by decide) ?_
        refine lv_iload hx hb dX7_swapStates_194 (lv_at hl 3 rfl) ?_
        refine lv_imul hx hb dX7_swapStates_196 ?_
        refine lv_iconst (v := 4) hx hb dX7_swapStates_197 (by decide) ?_
        refine lv_iadd hx hb dX7_swapStates_198 ?_
        obtain ⟨hi, h⟩ := h
        refine va_iald hx hb hK hP 8 0 rfl rfl hi dX7_swapStates_199 ?_
        refine lv_iload_n hx hb dX7_swapStates_200 rfl (lv_at hl 6 rfl) ?_
        refine lv_iload_n hx hb dX7_swapStates_201 rfl (lv_at hl 7 rfl) ?_
        refine xcalli (wr := (wN cI aN zN)) (w2 := fun (u202 : Unit) => (wN cI aN zN)) (va_runS (As := [.int ((zN 7) (((5 : Int32) * y4) + (4 : Int32)).toNatClampNeg), .int x1, .int x2]) (rest := [.int (((5 : Int32) * y4) + (4 : Int32)), .ref (aN 8)]) ⟨hx, hb, hml, hown, hts⟩ (mX7_swapped l D cI cO tA tS ((zN 7) (((5 : Int32) * y4) + (4 : Int32)).toNatClampNeg) x1 x2 _ h) (va_cwS 3 hts gX7_swapStates_X7_swapped rfl rfl rfl (by decide +kernel) ⟨Nat.le_of_ble_eq_true rfl, Nat.le_of_ble_eq_true rfl⟩) (xpreP hP hD hS hA hK hE [] rfl rfl) rfl rfl hl.1 rfl (lv_room (Nat.le_of_ble_eq_true rfl)) dX7_swapStates_202 ⟨Nat.le_refl 0, Nat.le_refl 0⟩) hP hD hS hA [] [0, 1, 2, 3, 4, 5, 6, 7, 8, 9, 10, 11] [0, 1, 2, 3, 4, 5, 6, 7, 8, 9, 10, 11] rfl rfl rfl (by decide) rfl (fun _ => rfl) (fun r202 u202 H locs h hP hD hS => ?_)
        obtain ⟨hi, h⟩ := h
        refine va_iast hx hb hK hP hD hS 8 0 rfl rfl hi dX7_swapStates_205 (fun H locs hP hD hS => ?_)
        have hP : va_P D vwCl (wN cI aN (st zN 7 (((5 : Int32) * y4) + (4 : Int32)).toNatClampNeg r202)) H := hP
        have hD : va_D A (wN cI aN (st zN 7 (((5 : Int32) * y4) + (4 : Int32)).toNatClampNeg r202)) := hD
        refine lv_iload_n hx hb dX7_swapStates_206 rfl (lv_at hl 4 rfl) ?_
        refine lv_iload hx hb dX7_swapStates_207 (lv_at hl 1 rfl) ?_
        obtain ⟨hh1, hh2⟩ := h
        refine lv_if_eq (tgt := 216) hx hb dX7_swapStates_209 (by decide) (fun hc => ?_) (fun hc => ?_)
        · have h := hh1 hc
          refine lv_iconst (v := 0) hx hb dX7_swapStates_216 (by decide) ?_
          exact g217 k27 hk27 y3 y4 y5 y6 y7 y3 (0 : Int32) (st zN 7 (((5 : Int32) * y4) + (4 : Int32)).toNatClampNeg r202) _ _ _ h hP hD hS hl
        · have h := hh2 hc
          refine lv_iconst (v := 1) hx hb dX7_swapStates_212 (by decide) ?_
          refine lv_goto (tgt := 217) hx hb dX7_swapStates_213 (by decide) ?_
          exact g217 k27 hk27 y3 y4 y5 y6 y7 y3 (1 : Int32) (st zN 7 (((5 : Int32) * y4) + (4 : Int32)).toNatClampNeg r202) _ _ _ h hP hD hS hl
      · have h := hh2 hc
        refine lv_iload hx hb dX7_swapStates_100 (lv_at hl 1 rfl) ?_
        obtain ⟨hh1, hh2⟩ := h
        refine lv_if_ne (tgt := 137) hx hb dX7_swapStates_102 (by decide) (fun hc => ?_) (fun hc => ?_)
        · have h := hh2 hc
          exact g137 k27 hk27 (qX7_swapStates_90 post x1 x2 k27 n) hk90 y3 y4 y5 y6 y7 zN _ _ _ h hP hD hS hl
        · have h := hh1 hc
          refine lv_aload_n hx hb dX7_swapStates_105 rfl (lv_at hl 5 rfl) ?_
          refine va_get (D := D) (ci := 7) (v := .ref (aN 8)) (C := RX7) (T := TX7) (N := 14) hx hb hts jX7_swapStates_X7 hown hK hP 0 rfl rfl 9 (by decide) (hts (.fieldLink RX7 35 "BrotherAutomataModel" "now" "[I") (List.mem_of_getElem? (i := 1) rfl)) (fun _ h9 => h9) rfl dX7_swapStates_106 ?_
          refine lv_iconst (v := 5) hx hb dX7_swapStates_109 (by decide) ?_
          refine lv_iload hx hb dX7_swapStates_110 (lv_at hl 3 rfl) ?_
          refine lv_imul hx hb dX7_swapStates_112 ?_
          refine lv_iload hx hb dX7_swapStates_113 (lv_at hl 0 rfl) ?_
          refine lv_iadd hx hb dX7_swapStates_115 ?_
          obtain ⟨hi, h⟩ := h
          refine va_iald hx hb hK hP 8 0 rfl rfl hi dX7_swapStates_116 ?_
          refine lv_iload_n hx hb dX7_swapStates_117 rfl (lv_at hl 6 rfl) ?_
          obtain ⟨hh1, hh2⟩ := h
          refine lv_icmp_eq (tgt := 137) hx hb dX7_swapStates_118 (by decide) (fun hc => ?_) (fun hc => ?_)
          · have h := hh1 hc
            exact g137 k27 hk27 (qX7_swapStates_90 post x1 x2 k27 n) hk90 y3 y4 y5 y6 y7 zN _ _ _ h hP hD hS hl
          · have h := hh2 hc
            refine lv_aload_n hx hb dX7_swapStates_121 rfl (lv_at hl 5 rfl) ?_
            refine va_get (D := D) (ci := 7) (v := .ref (aN 8)) (C := RX7) (T := TX7) (N := 14) hx hb hts jX7_swapStates_X7 hown hK hP 0 rfl rfl 9 (by decide) (hts (.fieldLink RX7 35 "BrotherAutomataModel" "now" "[I") (List.mem_of_getElem? (i := 1) rfl)) (fun _ h9 => h9) rfl dX7_swapStates_122 ?_
            refine lv_iconst (v := 5) hx hb dX7_swapStates_125 (by decide) ?_
            refine lv_iload hx hb dX7_swapStates_126 (lv_at hl 3 rfl) ?_
            refine lv_imul hx hb dX7_swapStates_128 ?_
            refine lv_iload hx hb dX7_swapStates_129 (lv_at hl 0 rfl) ?_
            refine lv_iadd hx hb dX7_swapStates_131 ?_
            obtain ⟨hi, h⟩ := h
            refine va_iald hx hb hK hP 8 0 rfl rfl hi dX7_swapStates_132 ?_
            refine lv_iload_n hx hb dX7_swapStates_133 rfl (lv_at hl 7 rfl) ?_
            obtain ⟨hh1, hh2⟩ := h
            refine lv_icmp_ne (tgt := 141) hx hb dX7_swapStates_134 (by decide) (fun hc => ?_) (fun hc => ?_)
            · have h := hh2 hc
              refine lv_iconst (v := 0) hx hb dX7_swapStates_141 (by decide) ?_
              exact g142 k27 hk27 (qX7_swapStates_90 post x1 x2 k27 n) hk90 y3 y4 y5 y6 y7 (0 : Int32) zN _ _ _ h hP hD hS hl
            · have h := hh1 hc
              exact g137 k27 hk27 (qX7_swapStates_90 post x1 x2 k27 n) hk90 y3 y4 y5 y6 y7 zN _ _ _ h hP hD hS hl
  have g85 : ∀ (k27 : (Int32) → (Int32) → (CS) → Prop), (∀ (y3 : Int32) (y4 : Int32) (zN : CS) (H : Heap) (locs : List Loc) (ls : Array Slot), k27 y3 y4 zN → va_P D vwCl (wN cI aN zN) H → va_D A (wN cI aN zN) → va_S A s.heap H locs → lv_has ls 8 [(4, .int y4), (3, .int y3), (0, .ref (aN 0)), (1, .int x1), (2, .int x2)] → W p l e ({ frames := 2, cells := 0, slots := 0, locals := 43 } : Room) s m ([.ref (aN 0), .int x1, .int x2] : List Value).toArray below meth c H locs 0 0 (MQ below (va_Qi post (xB D cI cO A (w_X7_swapStates cI cO aN)) A) ([.ref (aN 0), .int x1, .int x2] : List Value).toArray s 0 0 A) (F0 m 27 ls [])) → ∀ (y3 : Int32) (y4 : Int32) (y5 : Int32) (w0 : Int32) (zN : CS) (H : Heap) (locs : List Loc) (ls : Array Slot), qX7_swapStates_85 post x1 x2 k27 y3 y4 y5 w0 zN → va_P D vwCl (wN cI aN zN) H → va_D A (wN cI aN zN) → va_S A s.heap H locs → lv_has ls 8 [(5, .int y5), (4, .int y4), (3, .int y3), (0, .ref (aN 0)), (1, .int x1), (2, .int x2)] → W p l e ({ frames := 2, cells := 0, slots := 0, locals := 43 } : Room) s m ([.ref (aN 0), .int x1, .int x2] : List Value).toArray below meth c H locs 0 0 (MQ below (va_Qi post (xB D cI cO A (w_X7_swapStates cI cO aN)) A) ([.ref (aN 0), .int x1, .int x2] : List Value).toArray s 0 0 A) (F0 m 85 ls [.int w0]) := by
    intro k27 hk27 y3 y4 y5 w0 zN H locs ls h hP hD hS hl
    refine lv_istore (lv' := [(6, .int w0), (5, .int y5), (4, .int y4), (3, .int y3), (0, .ref (aN 0)), (1, .int x1), (2, .int x2)]) hx hb dX7_swapStates_85 hl (by decide) rfl (fun ls hl => ?_)
    refine lv_iconst (v := 1) hx hb dX7_swapStates_87 (by decide) ?_
    refine lv_istore (lv' := [(7, .int (1 : Int32)), (6, .int w0), (5, .int y5), (4, .int y4), (3, .int y3), (0, .ref (aN 0)), (1, .int x1), (2, .int x2)]) hx hb dX7_swapStates_88 hl (by decide) rfl (fun ls hl => ?_)
    obtain ⟨n0, h⟩ := h
    exact g90 k27 hk27 n0 y3 y4 y5 w0 (1 : Int32) zN _ _ _ h hP hD hS hl
  have g80 : ∀ (k27 : (Int32) → (Int32) → (CS) → Prop), (∀ (y3 : Int32) (y4 : Int32) (zN : CS) (H : Heap) (locs : List Loc) (ls : Array Slot), k27 y3 y4 zN → va_P D vwCl (wN cI aN zN) H → va_D A (wN cI aN zN) → va_S A s.heap H locs → lv_has ls 8 [(4, .int y4), (3, .int y3), (0, .ref (aN 0)), (1, .int x1), (2, .int x2)] → W p l e ({ frames := 2, cells := 0, slots := 0, locals := 43 } : Room) s m ([.ref (aN 0), .int x1, .int x2] : List Value).toArray below meth c H locs 0 0 (MQ below (va_Qi post (xB D cI cO A (w_X7_swapStates cI cO aN)) A) ([.ref (aN 0), .int x1, .int x2] : List Value).toArray s 0 0 A) (F0 m 27 ls [])) → ∀ (y3 : Int32) (y4 : Int32) (y5 : Int32) (zN : CS) (H : Heap) (locs : List Loc) (ls : Array Slot), qX7_swapStates_80 post x1 x2 k27 y3 y4 y5 zN → va_P D vwCl (wN cI aN zN) H → va_D A (wN cI aN zN) → va_S A s.heap H locs → lv_has ls 8 [(5, .int y5), (4, .int y4), (3, .int y3), (0, .ref (aN 0)), (1, .int x1), (2, .int x2)] → W p l e ({ frames := 2, cells := 0, slots := 0, locals := 43 } : Room) s m ([.ref (aN 0), .int x1, .int x2] : List Value).toArray below meth c H locs 0 0 (MQ below (va_Qi post (xB D cI cO A (w_X7_swapStates cI cO aN)) A) ([.ref (aN 0), .int x1, .int x2] : List Value).toArray s 0 0 A) (F0 m 80 ls []) := by
    intro k27 hk27 y3 y4 y5 zN H locs ls h hP hD hS hl
    refine lv_iconst (v := 1) hx hb dX7_swapStates_80 (by decide) ?_
    refine lv_goto (tgt := 85) hx hb dX7_swapStates_81 (by decide) ?_
    exact g85 k27 hk27 y3 y4 y5 (1 : Int32) zN _ _ _ h hP hD hS hl
  have g27 : ∀ (n : Nat) (y3 : Int32) (y4 : Int32) (zN : CS) (H : Heap) (locs : List Loc) (ls : Array Slot), qX7_swapStates_27 post x1 x2 n y3 y4 zN → va_P D vwCl (wN cI aN zN) H → va_D A (wN cI aN zN) → va_S A s.heap H locs → lv_has ls 8 [(4, .int y4), (3, .int y3), (0, .ref (aN 0)), (1, .int x1), (2, .int x2)] → W p l e ({ frames := 2, cells := 0, slots := 0, locals := 43 } : Room) s m ([.ref (aN 0), .int x1, .int x2] : List Value).toArray below meth c H locs 0 0 (MQ below (va_Qi post (xB D cI cO A (w_X7_swapStates cI cO aN)) A) ([.ref (aN 0), .int x1, .int x2] : List Value).toArray s 0 0 A) (F0 m 27 ls []) := by
    intro n
    induction n with
    | zero => intro y3 y4 zN H locs ls h; exact False.elim h
    | succ n hk27 =>
      intro y3 y4 zN H locs ls h hP hD hS hl
      have h : qX7_swapStates_27b post x1 x2 (qX7_swapStates_27 post x1 x2 n) y3 y4 zN := h
      refine lv_iload hx hb dX7_swapStates_27 (lv_at hl 0 rfl) ?_
      refine lv_aload_n hx hb dX7_swapStates_29 rfl (lv_at hl 2 rfl) ?_
      refine va_get (D := D) (ci := 7) (v := .ref (aN 8)) (C := RX7) (T := TX7) (N := 14) hx hb hts jX7_swapStates_X7 hown hK hP 0 rfl rfl 9 (by decide) (hts (.fieldLink RX7 35 "BrotherAutomataModel" "now" "[I") (List.mem_of_getElem? (i := 1) rfl)) (fun _ h9 => h9) rfl dX7_swapStates_30 ?_
      refine lv_bipush (v := 80) hx hb dX7_swapStates_33 (by decide) ?_
      obtain ⟨hi, h⟩ := h
      refine va_iald hx hb hK hP 8 0 rfl rfl hi dX7_swapStates_35 ?_
      obtain ⟨hh1, hh2⟩ := h
      refine lv_icmp_ge (tgt := 225) hx hb dX7_swapStates_36 (by decide) (fun hc => ?_) (fun hc => ?_)
      · have h := hh1 hc
        refine lv_iconst (v := 0) hx hb dX7_swapStates_225 (by decide) ?_
        refine lv_istore (lv' := [(4, .int (0 : Int32)), (3, .int y3), (0, .ref (aN 0)), (1, .int x1), (2, .int x2)]) hx hb dX7_swapStates_226 hl (by decide) rfl (fun ls hl => ?_)
        refine lv_iconst (v := 0) hx hb dX7_swapStates_228 (by decide) ?_
        refine lv_istore (lv' := [(5, .int (0 : Int32)), (4, .int (0 : Int32)), (3, .int y3), (0, .ref (aN 0)), (1, .int x1), (2, .int x2)]) hx hb dX7_swapStates_229 hl (by decide) rfl (fun ls hl => ?_)
        obtain ⟨n0, h⟩ := h
        exact g231 n0 y3 (0 : Int32) (0 : Int32) zN _ _ _ h hP hD hS hl
      · have h := hh2 hc
        refine lv_aload_n hx hb dX7_swapStates_39 rfl (lv_at hl 2 rfl) ?_
        refine va_get (D := D) (ci := 7) (v := .ref (aN 8)) (C := RX7) (T := TX7) (N := 14) hx hb hts jX7_swapStates_X7 hown hK hP 0 rfl rfl 9 (by decide) (hts (.fieldLink RX7 35 "BrotherAutomataModel" "now" "[I") (List.mem_of_getElem? (i := 1) rfl)) (fun _ h9 => h9) rfl dX7_swapStates_40 ?_
        refine lv_iconst (v := 5) hx hb dX7_swapStates_43 (by decide) ?_
        refine lv_iload hx hb dX7_swapStates_44 (lv_at hl 0 rfl) ?_
        refine lv_imul hx hb dX7_swapStates_46 ?_
        obtain ⟨hi, h⟩ := h
        refine va_iald hx hb hK hP 8 0 rfl rfl hi dX7_swapStates_47 ?_
        refine lv_istore (lv' := [(5, .int ((zN 7) ((5 : Int32) * y4).toNatClampNeg)), (4, .int y4), (3, .int y3), (0, .ref (aN 0)), (1, .int x1), (2, .int x2)]) hx hb dX7_swapStates_48 hl (by decide) rfl (fun ls hl => ?_)
        refine lv_aload_n hx hb dX7_swapStates_50 rfl (lv_at hl 3 rfl) ?_
        refine va_get (D := D) (ci := 7) (v := .ref (aN 8)) (C := RX7) (T := TX7) (N := 14) hx hb hts jX7_swapStates_X7 hown hK hP 0 rfl rfl 9 (by decide) (hts (.fieldLink RX7 35 "BrotherAutomataModel" "now" "[I") (List.mem_of_getElem? (i := 1) rfl)) (fun _ h9 => h9) rfl dX7_swapStates_51 ?_
        refine lv_iconst (v := 5) hx hb dX7_swapStates_54 (by decide) ?_
        refine lv_iload hx hb dX7_swapStates_55 (lv_at hl 1 rfl) ?_
        refine lv_imul hx hb dX7_swapStates_57 ?_
        refine lv_iconst (v := 4) hx hb dX7_swapStates_58 (by decide) ?_
        refine lv_iadd hx hb dX7_swapStates_59 ?_
        obtain ⟨hi, h⟩ := h
        refine va_iald hx hb hK hP 8 0 rfl rfl hi dX7_swapStates_60 ?_
        refine lv_iload_n hx hb dX7_swapStates_61 rfl (lv_at hl 4 rfl) ?_
        obtain ⟨hh1, hh2⟩ := h
        refine lv_icmp_eq (tgt := 80) hx hb dX7_swapStates_62 (by decide) (fun hc => ?_) (fun hc => ?_)
        · have h := hh1 hc
          exact g80 (qX7_swapStates_27 post x1 x2 n) hk27 y3 y4 ((zN 7) ((5 : Int32) * y4).toNatClampNeg) zN _ _ _ h hP hD hS hl
        · have h := hh2 hc
          refine lv_aload_n hx hb dX7_swapStates_65 rfl (lv_at hl 3 rfl) ?_
          refine va_get (D := D) (ci := 7) (v := .ref (aN 8)) (C := RX7) (T := TX7) (N := 14) hx hb hts jX7_swapStates_X7 hown hK hP 0 rfl rfl 9 (by decide) (hts (.fieldLink RX7 35 "BrotherAutomataModel" "now" "[I") (List.mem_of_getElem? (i := 1) rfl)) (fun _ h9 => h9) rfl dX7_swapStates_66 ?_
          refine lv_iconst (v := 5) hx hb dX7_swapStates_69 (by decide) ?_
          refine lv_iload hx hb dX7_swapStates_70 (lv_at hl 1 rfl) ?_
          refine lv_imul hx hb dX7_swapStates_72 ?_
          refine lv_iconst (v := 4) hx hb dX7_swapStates_73 (by decide) ?_
          refine lv_iadd hx hb dX7_swapStates_74 ?_
          obtain ⟨hi, h⟩ := h
          refine va_iald hx hb hK hP 8 0 rfl rfl hi dX7_swapStates_75 ?_
          refine lv_iload_n hx hb dX7_swapStates_76 rfl (lv_at hl 5 rfl) ?_
          obtain ⟨hh1, hh2⟩ := h
          refine lv_icmp_ne (tgt := 84) hx hb dX7_swapStates_77 (by decide) (fun hc => ?_) (fun hc => ?_)
          · have h := hh2 hc
            refine lv_iconst (v := 0) hx hb dX7_swapStates_84 (by decide) ?_
            exact g85 (qX7_swapStates_27 post x1 x2 n) hk27 y3 y4 ((zN 7) ((5 : Int32) * y4).toNatClampNeg) (0 : Int32) zN _ _ _ h hP hD hS hl
          · have h := hh1 hc
            exact g80 (qX7_swapStates_27 post x1 x2 n) hk27 y3 y4 ((zN 7) ((5 : Int32) * y4).toNatClampNeg) zN _ _ _ h hP hD hS hl
  have g16 : ∀ (zN : CS) (H : Heap) (locs : List Loc) (ls : Array Slot), qX7_swapStates_16 post x1 x2 zN → va_P D vwCl (wN cI aN zN) H → va_D A (wN cI aN zN) → va_S A s.heap H locs → lv_has ls 8 [(0, .ref (aN 0)), (1, .int x1), (2, .int x2)] → W p l e ({ frames := 2, cells := 0, slots := 0, locals := 43 } : Room) s m ([.ref (aN 0), .int x1, .int x2] : List Value).toArray below meth c H locs 0 0 (MQ below (va_Qi post (xB D cI cO A (w_X7_swapStates cI cO aN)) A) ([.ref (aN 0), .int x1, .int x2] : List Value).toArray s 0 0 A) (F0 m 16 ls []) := by
    intro zN H locs ls h hP hD hS hl
    refine lv_iconst (v := -1) hx hb dX7_swapStates_16 (by decide) ?_
    exact xiret (w := (w_X7_swapStates cI cO aN)) (zN) hx hb hr hlocks h hP hK hD hS dX7_swapStates_17
  refine lv_aload_n hx hb dX7_swapStates_0 rfl (lv_at hl 0 rfl) ?_
  refine lv_iload_n hx hb dX7_swapStates_1 rfl (lv_at hl 1 rfl) ?_
  refine xcalli (wr := ([] : va_W)) (w2 := fun (u2 : Unit) => (wN cI aN zN)) (va_runV (As := [.int x1]) (rest := []) ⟨hx, hb, hml, hown, hts⟩ (mX7_isState l D cI cO tA tS aN zN x1 _ h) (cwV 1 hts gX7_swapStates_X7_isState rfl rfl rfl (by decide +kernel) ⟨Nat.le_of_ble_eq_true rfl, Nat.le_of_ble_eq_true rfl⟩) (xpreV hP hD hS hA hK hE [0, 1, 2, 3, 4, 5, 6, 7, 8, 9, 10, 11] rfl rfl 7 0 rfl rfl) rfl rfl hl.1 rfl (lv_room (Nat.le_of_ble_eq_true rfl)) dX7_swapStates_2 ⟨Nat.le_refl 0, Nat.le_refl 0⟩) hP hD hS hA [0, 1, 2, 3, 4, 5, 6, 7, 8, 9, 10, 11] [] [0, 1, 2, 3, 4, 5, 6, 7, 8, 9, 10, 11] rfl rfl rfl (by decide) rfl (fun _ => rfl) (fun r2 u2 H locs h hP hD hS => ?_)
  obtain ⟨hh1, hh2⟩ := h
  refine lv_if_eq (tgt := 16) hx hb dX7_swapStates_5 (by decide) (fun hc => ?_) (fun hc => ?_)
  · have h := hh1 hc
    exact g16 zN _ _ _ h hP hD hS hl
  · have h := hh2 hc
    refine lv_aload_n hx hb dX7_swapStates_8 rfl (lv_at hl 0 rfl) ?_
    refine lv_iload_n hx hb dX7_swapStates_9 rfl (lv_at hl 2 rfl) ?_
    refine xcalli (wr := ([] : va_W)) (w2 := fun (u10 : Unit) => (wN cI aN zN)) (va_runV (As := [.int x2]) (rest := []) ⟨hx, hb, hml, hown, hts⟩ (mX7_isState l D cI cO tA tS aN zN x2 _ h) (cwV 1 hts gX7_swapStates_X7_isState rfl rfl rfl (by decide +kernel) ⟨Nat.le_of_ble_eq_true rfl, Nat.le_of_ble_eq_true rfl⟩) (xpreV hP hD hS hA hK hE [0, 1, 2, 3, 4, 5, 6, 7, 8, 9, 10, 11] rfl rfl 7 0 rfl rfl) rfl rfl hl.1 rfl (lv_room (Nat.le_of_ble_eq_true rfl)) dX7_swapStates_10 ⟨Nat.le_refl 0, Nat.le_refl 0⟩) hP hD hS hA [0, 1, 2, 3, 4, 5, 6, 7, 8, 9, 10, 11] [] [0, 1, 2, 3, 4, 5, 6, 7, 8, 9, 10, 11] rfl rfl rfl (by decide) rfl (fun _ => rfl) (fun r10 u10 H locs h hP hD hS => ?_)
    obtain ⟨hh1, hh2⟩ := h
    refine lv_if_ne (tgt := 18) hx hb dX7_swapStates_13 (by decide) (fun hc => ?_) (fun hc => ?_)
    · have h := hh2 hc
      refine lv_aload_n hx hb dX7_swapStates_18 rfl (lv_at hl 0 rfl) ?_
      refine xcallv (wr := ([] : va_W)) (w2 := fun (u19 : (CS)) => (wN cI aN u19)) (va_runV (As := []) (rest := []) ⟨hx, hb, hml, hown, hts⟩ (mX7_edit l D cI cO tA tS aN zN _ h) (cwV 0 hts gX7_swapStates_X7_edit rfl rfl rfl (by decide +kernel) ⟨Nat.le_of_ble_eq_true rfl, Nat.le_of_ble_eq_true rfl⟩) (xpreV hP hD hS hA hK hE [0, 1, 2, 3, 4, 5, 6, 7, 8, 9, 10, 11] rfl rfl 7 0 rfl rfl) rfl rfl hl.1 rfl (lv_room (Nat.le_of_ble_eq_true rfl)) dX7_swapStates_19 ⟨Nat.le_refl 0, Nat.le_refl 0⟩) hP hD hS hA [0, 1, 2, 3, 4, 5, 6, 7, 8, 9, 10, 11] [] [0, 1, 2, 3, 4, 5, 6, 7, 8, 9, 10, 11] rfl rfl rfl (by decide) rfl (fun _ => rfl) (fun u19 H locs h hP hD hS => ?_)
      refine lv_iconst (v := 0) hx hb dX7_swapStates_22 (by decide) ?_
      refine lv_istore_n (lv' := [(3, .int (0 : Int32)), (0, .ref (aN 0)), (1, .int x1), (2, .int x2)]) hx hb dX7_swapStates_23 rfl hl (by decide) rfl (fun ls hl => ?_)
      refine lv_iconst (v := 0) hx hb dX7_swapStates_24 (by decide) ?_
      refine lv_istore (lv' := [(4, .int (0 : Int32)), (3, .int (0 : Int32)), (0, .ref (aN 0)), (1, .int x1), (2, .int x2)]) hx hb dX7_swapStates_25 hl (by decide) rfl (fun ls hl => ?_)
      obtain ⟨n0, h⟩ := h
      exact g27 n0 (0 : Int32) (0 : Int32) u19 _ _ _ h hP hD hS hl
    · have h := hh1 hc
      exact g16 zN _ _ _ h hP hD hS hl
