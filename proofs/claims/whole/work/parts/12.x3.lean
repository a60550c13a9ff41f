theorem dX3_step_0 : decode cX3_step 0 = .ok (.aload_n 0, 1) := by decide +kernel
theorem dX3_step_1 : decode cX3_step 1 = .ok (.getfield 9, 3) := by decide +kernel
theorem dX3_step_4 : decode cX3_step 4 = .ok (.iload_n 1, 1) := by decide +kernel
theorem dX3_step_5 : decode cX3_step 5 = .ok (.iaload, 1) := by decide +kernel
theorem dX3_step_6 : decode cX3_step 6 = .ok (.aload_n 0, 1) := by decide +kernel
theorem dX3_step_7 : decode cX3_step 7 = .ok (.getfield 15, 3) := by decide +kernel
theorem dX3_step_10 : decode cX3_step 10 = .ok (.iload_n 2, 1) := by decide +kernel
theorem dX3_step_11 : decode cX3_step 11 = .ok (.iaload, 1) := by decide +kernel
theorem dX3_step_12 : decode cX3_step 12 = .ok (.iand, 1) := by decide +kernel
theorem dX3_step_13 : decode cX3_step 13 = .ok (.aload_n 0, 1) := by decide +kernel
theorem dX3_step_14 : decode cX3_step 14 = .ok (.getfield 18, 3) := by decide +kernel
theorem dX3_step_17 : decode cX3_step 17 = .ok (.iload_n 3, 1) := by decide +kernel
theorem dX3_step_18 : decode cX3_step 18 = .ok (.iaload, 1) := by decide +kernel
theorem dX3_step_19 : decode cX3_step 19 = .ok (.iand, 1) := by decide +kernel
theorem dX3_step_20 : decode cX3_step 20 = .ok (.iload 4, 2) := by decide +kernel
theorem dX3_step_22 : decode cX3_step 22 = .ok (.ifCond .eq 10, 3) := by decide +kernel
theorem dX3_step_25 : decode cX3_step 25 = .ok (.aload_n 0, 1) := by decide +kernel
theorem dX3_step_26 : decode cX3_step 26 = .ok (.getfield 24, 3) := by decide +kernel
theorem dX3_step_29 : decode cX3_step 29 = .ok (.goto 7, 3) := by decide +kernel
theorem dX3_step_32 : decode cX3_step 32 = .ok (.aload_n 0, 1) := by decide +kernel
theorem dX3_step_33 : decode cX3_step 33 = .ok (.getfield 28, 3) := by decide +kernel
theorem dX3_step_36 : decode cX3_step 36 = .ok (.iand, 1) := by decide +kernel
theorem dX3_step_37 : decode cX3_step 37 = .ok (.istore 5, 2) := by decide +kernel
theorem dX3_step_39 : decode cX3_step 39 = .ok (.iconst 0, 1) := by decide +kernel
theorem dX3_step_40 : decode cX3_step 40 = .ok (.istore 6, 2) := by decide +kernel
theorem dX3_step_42 : decode cX3_step 42 = .ok (.iconst 0, 1) := by decide +kernel
theorem dX3_step_43 : decode cX3_step 43 = .ok (.istore 7, 2) := by decide +kernel
theorem dX3_step_45 : decode cX3_step 45 = .ok (.iload 7, 2) := by decide +kernel
theorem dX3_step_47 : decode cX3_step 47 = .ok (.bipush 16, 2) := by decide +kernel
theorem dX3_step_49 : decode cX3_step 49 = .ok (.if_icmp .ge 39, 3) := by decide +kernel
theorem dX3_step_52 : decode cX3_step 52 = .ok (.iload 5, 2) := by decide +kernel
theorem dX3_step_54 : decode cX3_step 54 = .ok (.iload 7, 2) := by decide +kernel
theorem dX3_step_56 : decode cX3_step 56 = .ok (.ishr, 1) := by decide +kernel
theorem dX3_step_57 : decode cX3_step 57 = .ok (.ifCond .eq 31, 3) := by decide +kernel
theorem dX3_step_60 : decode cX3_step 60 = .ok (.iload 5, 2) := by decide +kernel
theorem dX3_step_62 : decode cX3_step 62 = .ok (.iload 7, 2) := by decide +kernel
theorem dX3_step_64 : decode cX3_step 64 = .ok (.ishr, 1) := by decide +kernel
theorem dX3_step_65 : decode cX3_step 65 = .ok (.iconst 1, 1) := by decide +kernel
theorem dX3_step_66 : decode cX3_step 66 = .ok (.iand, 1) := by decide +kernel
theorem dX3_step_67 : decode cX3_step 67 = .ok (.ifCond .eq 15, 3) := by decide +kernel
theorem dX3_step_70 : decode cX3_step 70 = .ok (.iload 6, 2) := by decide +kernel
theorem dX3_step_72 : decode cX3_step 72 = .ok (.aload_n 0, 1) := by decide +kernel
theorem dX3_step_73 : decode cX3_step 73 = .ok (.getfield 21, 3) := by decide +kernel
theorem dX3_step_76 : decode cX3_step 76 = .ok (.iload 7, 2) := by decide +kernel
theorem dX3_step_78 : decode cX3_step 78 = .ok (.iaload, 1) := by decide +kernel
theorem dX3_step_79 : decode cX3_step 79 = .ok (.ior, 1) := by decide +kernel
theorem dX3_step_80 : decode cX3_step 80 = .ok (.istore 6, 2) := by decide +kernel
theorem dX3_step_82 : decode cX3_step 82 = .ok (.iinc 7 1, 3) := by decide +kernel
theorem dX3_step_85 : decode cX3_step 85 = .ok (.goto (-40), 3) := by decide +kernel
theorem dX3_step_88 : decode cX3_step 88 = .ok (.iload 6, 2) := by decide +kernel
theorem dX3_step_90 : decode cX3_step 90 = .ok (.ireturn, 1) := by decide +kernel
theorem jX3_step_X3 : ∀ w ∈ wsX30, w ∈ wsX3_step := by decide +kernel
abbrev w_X3_step (cI cO : ClassId) (aM : Nat → Nat) (zM : CS) : (Unit) → va_W := fun u => (wM cI aM zM)
set_option maxRecDepth 100000 in
set_option maxHeartbeats 8000000 in
theorem mX3_step (l : Launch) (D : va_G) (cI cO : ClassId) (tA tS : Nat) (aM : Nat → Nat) (zM : CS) (x1 : Int32) (x2 : Int32) (x3 : Int32) (x4 : Int32) (sz : Nat) {post : Int32 → (Unit) → Prop} (h : qX3_step post x1 x2 x3 x4 zM) : Met l yX3_step wsX3_step ({ frames := 0, cells := 0, slots := 0, locals := 0 } : Room) (xPre D cI cO tA tS [.ref (aM 0), .int x1, .int x2, .int x3, .int x4] (wM cI aM zM) sz) (va_Qi post (xB D cI cO (va_A (wM cI aM zM) sz) (w_X3_step cI cO aM zM)) (va_A (wM cI aM zM) sz)) 0 0 (va_A (wM cI aM zM) sz) := by
  refine xMet D cI cO tA tS (fun A => va_Qi post (xB D cI cO A (w_X3_step cI cO aM zM)) A) (cc := cX3_step) (maxL := 8) (ret := (some .int)) (by decide) rfl (Nat.le_of_ble_eq_true rfl) ?_
  intro p e s m below meth c A ls hx hb hr hts hown hlocks hin hml hA hS hP hK hD hE hl
  have hown : s.vm.findClass RX3 = some m.cls := hown
  have hl : lv_has ls 8 [(0, .ref (aM 0)), (1, .int x1), (2, .int x2), (3, .int x3), (4, .int x4)] := hl
  have g88 : ∀ (y5 : Int32) (y6 : Int32) (y7 : Int32) (H : Heap) (locs : List Loc) (ls : Array Slot), qX3_step_88 post x1 x2 x3 x4 zM y5 y6 y7 → va_P D vwCl (wM cI aM zM) H → va_D A (wM cI aM zM) → va_S A s.heap H locs → lv_has ls 8 [(7, .int y7), (6, .int y6), (5, .int y5), (0, .ref (aM 0)), (1, .int x1), (2, .int x2), (3, .int x3), (4, .int x4)] → W p l e ({ frames := 0, cells := 0, slots := 0, locals := 0 } : Room) s m ([.ref (aM 0), .int x1, .int x2, .int x3, .int x4] : List Value).toArray below meth c H locs 0 0 (MQ below (va_Qi post (xB D cI cO A (w_X3_step cI cO aM zM)) A) ([.ref (aM 0), .int x1, .int x2, .int x3, .int x4] : List Value).toArray s 0 0 A) (F0 m 88 ls []) := by
    intro y5 y6 y7 H locs ls h hP hD hS hl
    refine lv_iload hx hb dX3_step_88 (lv_at hl 1 rfl) ?_
    exact xiret (w := (w_X3_step cI cO aM zM)) () hx hb hr hlocks h hP hK hD hS dX3_step_90
  have g82 : ∀ (k45 : (Int32) → (Int32) → (Int32) → Prop), (∀ (y5 : Int32) (y6 : Int32) (y7 : Int32) (H : Heap) (locs : List Loc) (ls : Array Slot), k45 y5 y6 y7 → va_P D vwCl (wM cI aM zM) H → va_D A (wM cI aM zM) → va_S A s.heap H locs → lv_has ls 8 [(7, .int y7), (6, .int y6), (5, .int y5), (0, .ref (aM 0)), (1, .int x1), (2, .int x2), (3, .int x3), (4, .int x4)] → W p l e ({ frames := 0, cells := 0, slots := 0, locals := 0 } : Room) s m ([.ref (aM 0), .int x1, .int x2, .int x3, .int x4] : List Value).toArray below meth c H locs 0 0 (MQ below (va_Qi post (xB D cI cO A (w_X3_step cI cO aM zM)) A) ([.ref (aM 0), .int x1, .int x2, .int x3, .int x4] : List Value).toArray s 0 0 A) (F0 m 45 ls [])) → ∀ (y5 : Int32) (y6 : Int32) (y7 : Int32) (H : Heap) (locs : List Loc) (ls : Array Slot), qX3_step_82 post x1 x2 x3 x4 zM k45 y5 y6 y7 → va_P D vwCl (wM cI aM zM) H → va_D A (wM cI aM zM) → va_S A s.heap H locs → lv_has ls 8 [(6, .int y6), (7, .int y7), (5, .int y5), (0, .ref (aM 0)), (1, .int x1), (2, .int x2), (3, .int x3), (4, .int x4)] → W p l e ({ frames := 0, cells := 0, slots := 0, locals := 0 } : Room) s m ([.ref (aM 0), .int x1, .int x2, .int x3, .int x4] : List Value).toArray below meth c H locs 0 0 (MQ below (va_Qi post (xB D cI cO A (w_X3_step cI cO aM zM)) A) ([.ref (aM 0), .int x1, .int x2, .int x3, .int x4] : List Value).toArray s 0 0 A) (F0 m 82 ls []) := by
    intro k45 hk45 y5 y6 y7 H locs ls h hP hD hS hl
    refine lv_iinc (v := (y7 + (1 : Int32))) (lv' := [(7, .int (y7 + (1 : Int32))), (6, .int y6), (5, .int y5), (0, .ref (aM 0)), (1, .int x1), (2, .int x2), (3, .int x3), (4, .int x4)]) hx hb dX3_step_82 hl (k := 1) rfl rfl (by decide) rfl (fun ls hl => ?_)
    refine lv_goto (tgt := 45) hx hb dX3_step_85 (by decide) ?_
    exact hk45 y5 y6 (y7 + (1 : Int32)) _ _ _ h hP hD hS hl
  have g45 : ∀ (n : Nat) (y5 : Int32) (y6 : Int32) (y7 : Int32) (H : Heap) (locs : List Loc) (ls : Array Slot), qX3_step_45 post x1 x2 x3 x4 zM n y5 y6 y7 → va_P D vwCl (wM cI aM zM) H → va_D A (wM cI aM zM) → va_S A s.heap H locs → lv_has ls 8 [(7, .int y7), (6, .int y6), (5, .int y5), (0, .ref (aM 0)), (1, .int x1), (2, .int x2), (3, .int x3), (4, .int x4)] → W p l e ({ frames := 0, cells := 0, slots := 0, locals := 0 } : Room) s m ([.ref (aM 0), .int x1, .int x2, .int x3, .int x4] : List Value).toArray below meth c H locs 0 0 (MQ below (va_Qi post (xB D cI cO A (w_X3_step cI cO aM zM)) A) ([.ref (aM 0), .int x1, .int x2, .int x3, .int x4] : List Value).toArray s 0 0 A) (F0 m 45 ls []) := by
    intro n
    induction n with
    | zero => intro y5 y6 y7 H locs ls h; exact False.elim h
    | succ n hk45 =>
      intro y5 y6 y7 H locs ls h hP hD hS hl
      have h : qX3_step_45b post x1 x2 x3 x4 zM (qX3_step_45 post x1 x2 x3 x4 zM n) y5 y6 y7 := h
      refine lv_iload hx hb dX3_step_45 (lv_at hl 0 rfl) ?_
      refine lv_bipush (v := 16) hx hb dX3_step_47 (by decide) ?_
      obtain ⟨hh1, hh2⟩ := h
      refine lv_icmp_ge (tgt := 88) hx hb dX3_step_49 (by decide) (fun hc => ?_) (fun hc => ?_)
      · have h := hh1 hc
        exact g88 y5 y6 y7 _ _ _ h hP hD hS hl
      · have h := hh2 hc
        refine lv_iload hx hb dX3_step_52 (lv_at hl 2 rfl) ?_
        refine lv_iload hx hb dX3_step_54 (lv_at hl 0 rfl) ?_
        refine lv_ishr hx hb dX3_step_56 ?_
        obtain ⟨hh1, hh2⟩ := h
        refine lv_if_eq (tgt := 88) hx hb dX3_step_57 (by decide) (fun hc => ?_) (fun hc => ?_)
        · have h := hh1 hc
          exact g88 y5 y6 y7 _ _ _ h hP hD hS hl
        · have h := hh2 hc
          refine lv_iload hx hb dX3_step_60 (lv_at hl 2 rfl) ?_
          refine lv_iload hx hb dX3_step_62 (lv_at hl 0 rfl) ?_
          refine lv_ishr hx hb dX3_step_64 ?_
          refine lv_iconst (v := 1) hx hb dX3_step_65 (by decide) ?_
          refine lv_iand hx hb dX3_step_66 ?_
          obtain ⟨hh1, hh2⟩ := h
          refine lv_if_eq (tgt := 82) hx hb dX3_step_67 (by decide) (fun hc => ?_) (fun hc => ?_)
          · have h := hh1 hc
            exact g82 (qX3_step_45 post x1 x2 x3 x4 zM n) hk45 y5 y6 y7 _ _ _ h hP hD hS (lv_sub hl [1, 0, 2, 3, 4, 5, 6, 7] rfl)
          · have h := hh2 hc
            refine lv_iload hx hb dX3_step_70 (lv_at hl 1 rfl) ?_
            refine lv_aload_n hx hb dX3_step_72 rfl (lv_at hl 3 rfl) ?_
            refine va_get (D := D) (ci := 3) (v := .ref (aM 4)) (C := RX3) (T := TX3) (N := 6) hx hb hts jX3_step_X3 hown hK hP 0 rfl rfl 3 (by decide) (hts (.fieldLink RX3 21 "BrotherAutomata$RuleMasks" "targetSets" "[I") (List.mem_of_getElem? (i := 6) rfl)) (fun _ h9 => h9) rfl dX3_step_73 ?_
            refine lv_iload hx hb dX3_step_76 (lv_at hl 0 rfl) ?_
            obtain ⟨hi, h⟩ := h
            refine va_iald hx hb hK hP 4 0 rfl rfl hi dX3_step_78 ?_
            refine lv_ior hx hb dX3_step_79 ?_
            refine lv_istore (lv' := [(6, .int (y6 ||| ((zM 3) y7.toNatClampNeg))), (7, .int y7), (5, .int y5), (0, .ref (aM 0)), (1, .int x1), (2, .int x2), (3, .int x3), (4, .int x4)]) hx hb dX3_step_80 hl (by decide) rfl (fun ls hl => ?_)
            exact g82 (qX3_step_45 post x1 x2 x3 x4 zM n) hk45 y5 (y6 ||| ((zM 3) y7.toNatClampNeg)) y7 _ _ _ h hP hD hS hl
  have g36 : ∀ (w0 : Int32) (w1 : Int32) (H : Heap) (locs : List Loc) (ls : Array Slot), qX3_step_36 post x1 x2 x3 x4 zM w0 w1 → va_P D vwCl (wM cI aM zM) H → va_D A (wM cI aM zM) → va_S A s.heap H locs → lv_has ls 8 [(0, .ref (aM 0)), (1, .int x1), (2, .int x2), (3, .int x3), (4, .int x4)] → W p l e ({ frames := 0, cells := 0, slots := 0, locals := 0 } : Room) s m ([.ref (aM 0), .int x1, .int x2, .int x3, .int x4] : List Value).toArray below meth c H locs 0 0 (MQ below (va_Qi post (xB D cI cO A (w_X3_step cI cO aM zM)) A) ([.ref (aM 0), .int x1, .int x2, .int x3, .int x4] : List Value).toArray s 0 0 A) (F0 m 36 ls [.int w1, .int w0]) := by
    intro w0 w1 H locs ls h hP hD hS hl
    refine lv_iand hx hb dX3_step_36 ?_
    refine lv_istore (lv' := [(5, .int (w0 &&& w1)), (0, .ref (aM 0)), (1, .int x1), (2, .int x2), (3, .int x3), (4, .int x4)]) hx hb dX3_step_37 hl (by decide) rfl (fun ls hl => ?_)
    refine lv_iconst (v := 0) hx hb dX3_step_39 (by decide) ?_
    refine lv_istore (lv' := [(6, .int (0 : Int32)), (5, .int (w0 &&& w1)), (0, .ref (aM 0)), (1, .int x1), (2, .int x2), (3, .int x3), (4, .int x4)]) hx hb dX3_step_40 hl (by decide) rfl (fun ls hl => ?_)
    refine lv_iconst (v := 0) hx hb dX3_step_42 (by decide) ?_
    refine lv_istore (lv' := [(7, .int (0 : Int32)), (6, .int (0 : Int32)), (5, .int (w0 &&& w1)), (0, .ref (aM 0)), (1, .int x1), (2, .int x2), (3, .int x3), (4, .int x4)]) hx hb dX3_step_43 hl (by decide) rfl (fun ls hl => ?_)
    obtain ⟨n0, h⟩ := h
    exact g45 n0 (w0 &&& w1) (0 : Int32) (0 : Int32) _ _ _ h hP hD hS hl
  refine lv_aload_n hx hb dX3_step_0 rfl (lv_at hl 0 rfl) ?_
  refine va_get (D := D) (ci := 3) (v := .ref (aM 1)) (C := RX3) (T := TX3) (N := 6) hx hb hts jX3_step_X3 hown hK hP 0 rfl rfl 0 (by decide) (hts (.fieldLink RX3 9 "BrotherAutomata$RuleMasks" "bySymbol" "[I") (List.mem_of_getElem? (i := 1) rfl)) (fun _ h9 => h9) rfl dX3_step_1 ?_
  refine lv_iload_n hx hb dX3_step_4 rfl (lv_at hl 1 rfl) ?_
  obtain ⟨hi, h⟩ := h
  refine va_iald hx hb hK hP 1 0 rfl rfl hi dX3_step_5 ?_
  refine lv_aload_n hx hb dX3_step_6 rfl (lv_at hl 0 rfl) ?_
  refine va_get (D := D) (ci := 3) (v := .ref (aM 2)) (C := RX3) (T := TX3) (N := 6) hx hb hts jX3_step_X3 hown hK hP 0 rfl rfl 1 (by decide) (hts (.fieldLink RX3 15 "BrotherAutomata$RuleMasks" "byFirst" "[I") (List.mem_of_getElem? (i := 2) rfl)) (fun _ h9 => h9) rfl dX3_step_7 ?_
  refine lv_iload_n hx hb dX3_step_10 rfl (lv_at hl 2 rfl) ?_
  obtain ⟨hi, h⟩ := h
  refine va_iald hx hb hK hP 2 0 rfl rfl hi dX3_step_11 ?_
  refine lv_iand hx hb dX3_step_12 ?_
  refine lv_aload_n hx hb dX3_step_13 rfl (lv_at hl 0 rfl) ?_
  refine va_get (D := D) (ci := 3) (v := .ref (aM 3)) (C := RX3) (T := TX3) (N := 6) hx hb hts jX3_step_X3 hown hK hP 0 rfl rfl 2 (by decide) (hts (.fieldLink RX3 18 "BrotherAutomata$RuleMasks" "bySecond" "[I") (List.mem_of_getElem? (i := 3) rfl)) (fun _ h9 => h9) rfl dX3_step_14 ?_
  refine lv_iload_n hx hb dX3_step_17 rfl (lv_at hl 3 rfl) ?_
  obtain ⟨hi, h⟩ := h
  refine va_iald hx hb hK hP 3 0 rfl rfl hi dX3_step_18 ?_
  refine lv_iand hx hb dX3_step_19 ?_
  refine lv_iload hx hb dX3_step_20 (lv_at hl 4 rfl) ?_
  obtain ⟨hh1, hh2⟩ := h
  refine lv_if_eq (tgt := 32) hx hb dX3_step_22 (by decide) (fun hc => ?_) (fun hc => ?_)
  · have h := hh1 hc
    refine lv_aload_n hx hb dX3_step_32 rfl (lv_at hl 0 rfl) ?_
    refine va_get (D := D) (ci := 3) (v := .int (zM 4 1)) (C := RX3) (T := TX3) (N := 6) hx hb hts jX3_step_X3 hown hK hP 0 rfl rfl 5 (by decide) (hts (.fieldLink RX3 28 "BrotherAutomata$RuleMasks" "whenDifferent" "I") (List.mem_of_getElem? (i := 5) rfl)) (fun _ h9 => h9) rfl dX3_step_33 ?_
    exact g36 ((((zM 0) x1.toNatClampNeg) &&& ((zM 1) x2.toNatClampNeg)) &&& ((zM 2) x3.toNatClampNeg)) (zM 4 1) _ _ _ h hP hD hS hl
  · have h := hh2 hc
    refine lv_aload_n hx hb dX3_step_25 rfl (lv_at hl 0 rfl) ?_
    refine va_get (D := D) (ci := 3) (v := .int (zM 4 0)) (C := RX3) (T := TX3) (N := 6) hx hb hts jX3_step_X3 hown hK hP 0 rfl rfl 4 (by decide) (hts (.fieldLink RX3 24 "BrotherAutomata$RuleMasks" "whenEqual" "I") (List.mem_of_getElem? (i := 4) rfl)) (fun _ h9 => h9) rfl dX3_step_26 ?_
    refine lv_goto (tgt := 36) hx hb dX3_step_29 (by decide) ?_
    exact g36 ((((zM 0) x1.toNatClampNeg) &&& ((zM 1) x2.toNatClampNeg)) &&& ((zM 2) x3.toNatClampNeg)) (zM 4 0) _ _ _ h hP hD hS hl
theorem dX3_enter_0 : decode cX3_enter 0 = .ok (.iconst 1, 1) := by decide +kernel
theorem dX3_enter_1 : decode cX3_enter 1 = .ok (.iload_n 2, 1) := by decide +kernel
theorem dX3_enter_2 : decode cX3_enter 2 = .ok (.ishl, 1) := by decide +kernel
theorem dX3_enter_3 : decode cX3_enter 3 = .ok (.istore_n 3, 1) := by decide +kernel
theorem dX3_enter_4 : decode cX3_enter 4 = .ok (.aload_n 1, 1) := by decide +kernel
theorem dX3_enter_5 : decode cX3_enter 5 = .ok (.getfield 50, 3) := by decide +kernel
theorem dX3_enter_8 : decode cX3_enter 8 = .ok (.iload_n 2, 1) := by decide +kernel
theorem dX3_enter_9 : decode cX3_enter 9 = .ok (.iaload, 1) := by decide +kernel
theorem dX3_enter_10 : decode cX3_enter 10 = .ok (.istore 4, 2) := by decide +kernel
theorem dX3_enter_12 : decode cX3_enter 12 = .ok (.getstatic 53, 3) := by decide +kernel
theorem dX3_enter_15 : decode cX3_enter 15 = .ok (.iload 4, 2) := by decide +kernel
theorem dX3_enter_17 : decode cX3_enter 17 = .ok (.iaload, 1) := by decide +kernel
theorem dX3_enter_18 : decode cX3_enter 18 = .ok (.istore 5, 2) := by decide +kernel
theorem dX3_enter_20 : decode cX3_enter 20 = .ok (.aload_n 0, 1) := by decide +kernel
theorem dX3_enter_21 : decode cX3_enter 21 = .ok (.getfield 9, 3) := by decide +kernel
theorem dX3_enter_24 : decode cX3_enter 24 = .ok (.iload 4, 2) := by decide +kernel
theorem dX3_enter_26 : decode cX3_enter 26 = .ok (.dup2, 1) := by decide +kernel
theorem dX3_enter_27 : decode cX3_enter 27 = .ok (.iaload, 1) := by decide +kernel
theorem dX3_enter_28 : decode cX3_enter 28 = .ok (.iload_n 3, 1) := by decide +kernel
theorem dX3_enter_29 : decode cX3_enter 29 = .ok (.ior, 1) := by decide +kernel
theorem dX3_enter_30 : decode cX3_enter 30 = .ok (.iastore, 1) := by decide +kernel
theorem dX3_enter_31 : decode cX3_enter 31 = .ok (.aload_n 0, 1) := by decide +kernel
theorem dX3_enter_32 : decode cX3_enter 32 = .ok (.getfield 15, 3) := by decide +kernel
theorem dX3_enter_35 : decode cX3_enter 35 = .ok (.iload 5, 2) := by decide +kernel
theorem dX3_enter_37 : decode cX3_enter 37 = .ok (.ifCond .le 14, 3) := by decide +kernel
theorem dX3_enter_40 : decode cX3_enter 40 = .ok (.iconst 1, 1) := by decide +kernel
theorem dX3_enter_41 : decode cX3_enter 41 = .ok (.aload_n 1, 1) := by decide +kernel
theorem dX3_enter_42 : decode cX3_enter 42 = .ok (.getfield 56, 3) := by decide +kernel
theorem dX3_enter_45 : decode cX3_enter 45 = .ok (.iload_n 2, 1) := by decide +kernel
theorem dX3_enter_46 : decode cX3_enter 46 = .ok (.iaload, 1) := by decide +kernel
theorem dX3_enter_47 : decode cX3_enter 47 = .ok (.ishl, 1) := by decide +kernel
theorem dX3_enter_48 : decode cX3_enter 48 = .ok (.goto 4, 3) := by decide +kernel
theorem dX3_enter_51 : decode cX3_enter 51 = .ok (.iconst 0, 1) := by decide +kernel
theorem dX3_enter_52 : decode cX3_enter 52 = .ok (.dup2, 1) := by decide +kernel
theorem dX3_enter_53 : decode cX3_enter 53 = .ok (.iaload, 1) := by decide +kernel
theorem dX3_enter_54 : decode cX3_enter 54 = .ok (.iload_n 3, 1) := by decide +kernel
theorem dX3_enter_55 : decode cX3_enter 55 = .ok (.ior, 1) := by decide +kernel
theorem dX3_enter_56 : decode cX3_enter 56 = .ok (.iastore, 1) := by decide +kernel
theorem dX3_enter_57 : decode cX3_enter 57 = .ok (.aload_n 0, 1) := by decide +kernel
theorem dX3_enter_58 : decode cX3_enter 58 = .ok (.getfield 18, 3) := by decide +kernel
theorem dX3_enter_61 : decode cX3_enter 61 = .ok (.iload 5, 2) := by decide +kernel
theorem dX3_enter_63 : decode cX3_enter 63 = .ok (.iconst 1, 1) := by decide +kernel
theorem dX3_enter_64 : decode cX3_enter 64 = .ok (.if_icmp .le 14, 3) := by decide +kernel
theorem dX3_enter_67 : decode cX3_enter 67 = .ok (.iconst 1, 1) := by decide +kernel
theorem dX3_enter_68 : decode cX3_enter 68 = .ok (.aload_n 1, 1) := by decide +kernel
theorem dX3_enter_69 : decode cX3_enter 69 = .ok (.getfield 59, 3) := by decide +kernel
theorem dX3_enter_72 : decode cX3_enter 72 = .ok (.iload_n 2, 1) := by decide +kernel
theorem dX3_enter_73 : decode cX3_enter 73 = .ok (.iaload, 1) := by decide +kernel
theorem dX3_enter_74 : decode cX3_enter 74 = .ok (.ishl, 1) := by decide +kernel
theorem dX3_enter_75 : decode cX3_enter 75 = .ok (.goto 4, 3) := by decide +kernel
theorem dX3_enter_78 : decode cX3_enter 78 = .ok (.iconst 0, 1) := by decide +kernel
theorem dX3_enter_79 : decode cX3_enter 79 = .ok (.dup2, 1) := by decide +kernel
theorem dX3_enter_80 : decode cX3_enter 80 = .ok (.iaload, 1) := by decide +kernel
theorem dX3_enter_81 : decode cX3_enter 81 = .ok (.iload_n 3, 1) := by decide +kernel
theorem dX3_enter_82 : decode cX3_enter 82 = .ok (.ior, 1) := by decide +kernel
theorem dX3_enter_83 : decode cX3_enter 83 = .ok (.iastore, 1) := by decide +kernel
theorem dX3_enter_84 : decode cX3_enter 84 = .ok (.aload_n 0, 1) := by decide +kernel
theorem dX3_enter_85 : decode cX3_enter 85 = .ok (.getfield 21, 3) := by decide +kernel
theorem dX3_enter_88 : decode cX3_enter 88 = .ok (.iload_n 2, 1) := by decide +kernel
theorem dX3_enter_89 : decode cX3_enter 89 = .ok (.iconst 1, 1) := by decide +kernel
theorem dX3_enter_90 : decode cX3_enter 90 = .ok (.aload_n 1, 1) := by decide +kernel
theorem dX3_enter_91 : decode cX3_enter 91 = .ok (.getfield 62, 3) := by decide +kernel
theorem dX3_enter_94 : decode cX3_enter 94 = .ok (.iload_n 2, 1) := by decide +kernel
theorem dX3_enter_95 : decode cX3_enter 95 = .ok (.iaload, 1) := by decide +kernel
theorem dX3_enter_96 : decode cX3_enter 96 = .ok (.ishl, 1) := by decide +kernel
theorem dX3_enter_97 : decode cX3_enter 97 = .ok (.iastore, 1) := by decide +kernel
theorem dX3_enter_98 : decode cX3_enter 98 = .ok (.aload_n 1, 1) := by decide +kernel
theorem dX3_enter_99 : decode cX3_enter 99 = .ok (.getfield 65, 3) := by decide +kernel
theorem dX3_enter_102 : decode cX3_enter 102 = .ok (.iload_n 2, 1) := by decide +kernel
theorem dX3_enter_103 : decode cX3_enter 103 = .ok (.iaload, 1) := by decide +kernel
theorem dX3_enter_104 : decode cX3_enter 104 = .ok (.iconst 2, 1) := by decide +kernel
theorem dX3_enter_105 : decode cX3_enter 105 = .ok (.if_icmp .eq 13, 3) := by decide +kernel
theorem dX3_enter_108 : decode cX3_enter 108 = .ok (.aload_n 0, 1) := by decide +kernel
theorem dX3_enter_109 : decode cX3_enter 109 = .ok (.dup, 1) := by decide +kernel
theorem dX3_enter_110 : decode cX3_enter 110 = .ok (.getfield 24, 3) := by decide +kernel
theorem dX3_enter_113 : decode cX3_enter 113 = .ok (.iload_n 3, 1) := by decide +kernel
theorem dX3_enter_114 : decode cX3_enter 114 = .ok (.ior, 1) := by decide +kernel
theorem dX3_enter_115 : decode cX3_enter 115 = .ok (.putfield 24, 3) := by decide +kernel
theorem dX3_enter_118 : decode cX3_enter 118 = .ok (.aload_n 1, 1) := by decide +kernel
theorem dX3_enter_119 : decode cX3_enter 119 = .ok (.getfield 65, 3) := by decide +kernel
theorem dX3_enter_122 : decode cX3_enter 122 = .ok (.iload_n 2, 1) := by decide +kernel
theorem dX3_enter_123 : decode cX3_enter 123 = .ok (.iaload, 1) := by decide +kernel
theorem dX3_enter_124 : decode cX3_enter 124 = .ok (.iconst 1, 1) := by decide +kernel
theorem dX3_enter_125 : decode cX3_enter 125 = .ok (.if_icmp .eq 13, 3) := by decide +kernel
theorem dX3_enter_128 : decode cX3_enter 128 = .ok (.aload_n 0, 1) := by decide +kernel
theorem dX3_enter_129 : decode cX3_enter 129 = .ok (.dup, 1) := by decide +kernel
theorem dX3_enter_130 : decode cX3_enter 130 = .ok (.getfield 28, 3) := by decide +kernel
theorem dX3_enter_133 : decode cX3_enter 133 = .ok (.iload_n 3, 1) := by decide +kernel
theorem dX3_enter_134 : decode cX3_enter 134 = .ok (.ior, 1) := by decide +kernel
theorem dX3_enter_135 : decode cX3_enter 135 = .ok (.putfield 28, 3) := by decide +kernel
theorem dX3_enter_138 : decode cX3_enter 138 = .ok (.return_, 1) := by decide +kernel
theorem jX3_enter_X2 : ∀ w ∈ wsX20, w ∈ wsX3_enter := by decide +kernel
theorem jX3_enter_X3 : ∀ w ∈ wsX30, w ∈ wsX3_enter := by decide +kernel
abbrev w_X3_enter (cI cO : ClassId) (aB : Nat → Nat) (aM : Nat → Nat) (zB : CS) : ((CS)) → va_W := fun u => (wB cI aB zB ++ (wM cI aM u))
set_option maxRecDepth 100000 in
set_option maxHeartbeats 8000000 in
theorem mX3_enter (l : Launch) (D : va_G) (cI cO : ClassId) (tA tS : Nat) (aB : Nat → Nat) (aM : Nat → Nat) (zB : CS) (zM : CS) (x2 : Int32) (sz : Nat) {post : ((CS)) → Prop} (h : qX3_enter post x2 zB zM) : Met l yX3_enter wsX3_enter ({ frames := 0, cells := 0, slots := 0, locals := 0 } : Room) (xPre D cI cO tA tS [.ref (aM 0), .ref (aB 0), .int x2] (wB cI aB zB ++ (wM cI aM zM)) sz) (va_Qv post (xB D cI cO (va_A (wB cI aB zB ++ (wM cI aM zM)) sz) (w_X3_enter cI cO aB aM zB)) (va_A (wB cI aB zB ++ (wM cI aM zM)) sz)) 0 0 (va_A (wB cI aB zB ++ (wM cI aM zM)) sz) := by
  refine xMet D cI cO tA tS (fun A => va_Qv post (xB D cI cO A (w_X3_enter cI cO aB aM zB)) A) (cc := cX3_enter) (maxL := 6) (ret := none) (by decide) rfl (Nat.le_of_ble_eq_true rfl) ?_
  intro p e s m below meth c A ls hx hb hr hts hown hlocks hin hml hA hS hP hK hD hE hl
  have hown : s.vm.findClass RX3 = some m.cls := hown
  have hl : lv_has ls 6 [(0, .ref (aM 0)), (1, .ref (aB 0)), (2, .int x2)] := hl
  have g118 : ∀ (y3 : Int32) (y4 : Int32) (y5 : Int32) (zM : CS) (H : Heap) (locs : List Loc) (ls : Array Slot), qX3_enter_118 post x2 zB y3 y4 y5 zM → va_P D vwCl (wB cI aB zB ++ (wM cI aM zM)) H → va_D A (wB cI aB zB ++ (wM cI aM zM)) → va_S A s.heap H locs → lv_has ls 6 [(5, .int y5), (4, .int y4), (3, .int y3), (0, .ref (aM 0)), (1, .ref (aB 0)), (2, .int x2)] → W p l e ({ frames := 0, cells := 0, slots := 0, locals := 0 } : Room) s m ([.ref (aM 0), .ref (aB 0), .int x2] : List Value).toArray below meth c H locs 0 0 (MQ below (va_Qv post (xB D cI cO A (w_X3_enter cI cO aB aM zB)) A) ([.ref (aM 0), .ref (aB 0), .int x2] : List Value).toArray s 0 0 A) (F0 m 118 ls []) := by
    intro y3 y4 y5 zM H locs ls h hP hD hS hl
    refine lv_aload_n hx hb dX3_enter_118 rfl (lv_at hl 4 rfl) ?_
    refine va_getN (D := D) (ci := 2) (v := .ref (aB 4)) (C := RX2) (T := TX2) (N := 7) hx hb hts jX3_enter_X2 hown hK hP 0 rfl rfl 3 (by decide) (va_Nw.use (w := .fieldLinkNest RX3 65 "BrotherAutomata$RuleBook" "constraints" "[I" "BrotherAutomata") rfl (hE.1 _ (List.mem_of_getElem? (i := 10) rfl))) (fun _ h9 => h9) rfl dX3_enter_119 ?_
    refine lv_iload_n hx hb dX3_enter_122 rfl (lv_at hl 5 rfl) ?_
    obtain ⟨hi, h⟩ := h
    refine va_iald hx hb hK hP 4 0 rfl rfl hi dX3_enter_123 ?_
    refine lv_iconst (v := 1) hx hb dX3_enter_124 (by decide) ?_
    obtain ⟨hh1, hh2⟩ := h
    refine lv_icmp_eq (tgt := 138) hx hb dX3_enter_125 (by decide) (fun hc => ?_) (fun hc => ?_)
    · have h := hh1 hc
      exact xvret (w := (w_X3_enter cI cO aB aM zB)) (zM) hx hb hr hlocks h hP hK hD hS dX3_enter_138
    · have h := hh2 hc
      refine lv_aload_n hx hb dX3_enter_128 rfl (lv_at hl 3 rfl) ?_
      refine lv_dup hx hb dX3_enter_129 rfl ?_
      refine va_get (D := D) (ci := 3) (v := .int (zM 4 1)) (C := RX3) (T := TX3) (N := 6) hx hb hts jX3_enter_X3 hown hK hP 6 rfl rfl 5 (by decide) (hts (.fieldLink RX3 28 "BrotherAutomata$RuleMasks" "whenDifferent" "I") (List.mem_of_getElem? (i := 6) rfl)) (fun _ h9 => h9) rfl dX3_enter_130 ?_
      refine lv_iload_n hx hb dX3_enter_133 rfl (lv_at hl 2 rfl) ?_
      refine lv_ior hx hb dX3_enter_134 ?_
      refine va_put (D := D) (ci := 3) (v := .int ((zM 4 1) ||| y3)) (ty := .int) (C := RX3) (T := TX3) (N := 6) hx hb hts jX3_enter_X3 tyX3 tyX3_ok nmX3 hown hK hP hD hS 6 rfl rfl 5 (by decide) (hts (.fieldLink RX3 28 "BrotherAutomata$RuleMasks" "whenDifferent" "I") (List.mem_of_getElem? (i := 6) rfl)) (fun _ h9 => h9) rfl (by decide +kernel) rfl rfl (Nat.le_of_ble_eq_true rfl) dX3_enter_135 (fun H locs hP hD hS => ?_)
      have hP : va_P D vwCl (wB cI aB zB ++ (wM cI aM (st zM 4 1 ((zM 4 1) ||| y3)))) H := hP
      have hD : va_D A (wB cI aB zB ++ (wM cI aM (st zM 4 1 ((zM 4 1) ||| y3)))) := hD
      exact xvret (w := (w_X3_enter cI cO aB aM zB)) (st zM 4 1 ((zM 4 1) ||| y3)) hx hb hr hlocks h hP hK hD hS dX3_enter_138
  have g79 : ∀ (y3 : Int32) (y4 : Int32) (y5 : Int32) (w1 : Int32) (zM : CS) (H : Heap) (locs : List Loc) (ls : Array Slot), qX3_enter_79 post x2 zB y3 y4 y5 w1 zM → va_P D vwCl (wB cI aB zB ++ (wM cI aM zM)) H → va_D A (wB cI aB zB ++ (wM cI aM zM)) → va_S A s.heap H locs → lv_has ls 6 [(5, .int y5), (4, .int y4), (3, .int y3), (0, .ref (aM 0)), (1, .ref (aB 0)), (2, .int x2)] → W p l e ({ frames := 0, cells := 0, slots := 0, locals := 0 } : Room) s m ([.ref (aM 0), .ref (aB 0), .int x2] : List Value).toArray below meth c H locs 0 0 (MQ below (va_Qv post (xB D cI cO A (w_X3_enter cI cO aB aM zB)) A) ([.ref (aM 0), .ref (aB 0), .int x2] : List Value).toArray s 0 0 A) (F0 m 79 ls [.int w1, .ref (aM 3)]) := by
    intro y3 y4 y5 w1 zM H locs ls h hP hD hS hl
    refine lv_dup2_11 hx hb dX3_enter_79 rfl rfl ?_
    obtain ⟨hi, h⟩ := h
    refine va_iald hx hb hK hP 9 0 rfl rfl hi dX3_enter_80 ?_
    refine lv_iload_n hx hb dX3_enter_81 rfl (lv_at hl 2 rfl) ?_
    refine lv_ior hx hb dX3_enter_82 ?_
    obtain ⟨hi, h⟩ := h
    refine va_iast hx hb hK hP hD hS 9 0 rfl rfl hi dX3_enter_83 (fun H locs hP hD hS => ?_)
    have hP : va_P D vwCl (wB cI aB zB ++ (wM cI aM (st zM 2 w1.toNatClampNeg (((zM 2) w1.toNatClampNeg) ||| y3)))) H := hP
    have hD : va_D A (wB cI aB zB ++ (wM cI aM (st zM 2 w1.toNatClampNeg (((zM 2) w1.toNatClampNeg) ||| y3)))) := hD
    refine lv_aload_n hx hb dX3_enter_84 rfl (lv_at hl 3 rfl) ?_
    refine va_get (D := D) (ci := 3) (v := .ref (aM 4)) (C := RX3) (T := TX3) (N := 6) hx hb hts jX3_enter_X3 hown hK hP 6 rfl rfl 3 (by decide) (hts (.fieldLink RX3 21 "BrotherAutomata$RuleMasks" "targetSets" "[I") (List.mem_of_getElem? (i := 4) rfl)) (fun _ h9 => h9) rfl dX3_enter_85 ?_
    refine lv_iload_n hx hb dX3_enter_88 rfl (lv_at hl 5 rfl) ?_
    refine lv_iconst (v := 1) hx hb dX3_enter_89 (by decide) ?_
    refine lv_aload_n hx hb dX3_enter_90 rfl (lv_at hl 4 rfl) ?_
    refine va_getN (D := D) (ci := 2) (v := .ref (aB 5)) (C := RX2) (T := TX2) (N := 7) hx hb hts jX3_enter_X2 hown hK hP 0 rfl rfl 4 (by decide) (va_Nw.use (w := .fieldLinkNest RX3 62 "BrotherAutomata$RuleBook" "targets" "[I" "BrotherAutomata") rfl (hE.1 _ (List.mem_of_getElem? (i := 11) rfl))) (fun _ h9 => h9) rfl dX3_enter_91 ?_
    refine lv_iload_n hx hb dX3_enter_94 rfl (lv_at hl 5 rfl) ?_
    obtain ⟨hi, h⟩ := h
    refine va_iald hx hb hK hP 5 0 rfl rfl hi dX3_enter_95 ?_
    refine lv_ishl hx hb dX3_enter_96 ?_
    obtain ⟨hi, h⟩ := h
    refine va_iast hx hb hK hP hD hS 10 0 rfl rfl hi dX3_enter_97 (fun H locs hP hD hS => ?_)
    have hP : va_P D vwCl (wB cI aB zB ++ (wM cI aM (st (st zM 2 w1.toNatClampNeg (((zM 2) w1.toNatClampNeg) ||| y3)) 3 x2.toNatClampNeg ((1 : Int32) <<< (((zB 4) x2.toNatClampNeg) &&& 31))))) H := hP
    have hD : va_D A (wB cI aB zB ++ (wM cI aM (st (st zM 2 w1.toNatClampNeg (((zM 2) w1.toNatClampNeg) ||| y3)) 3 x2.toNatClampNeg ((1 : Int32) <<< (((zB 4) x2.toNatClampNeg) &&& 31))))) := hD
    refine lv_aload_n hx hb dX3_enter_98 rfl (lv_at hl 4 rfl) ?_
    refine va_getN (D := D) (ci := 2) (v := .ref (aB 4)) (C := RX2) (T := TX2) (N := 7) hx hb hts jX3_enter_X2 hown hK hP 0 rfl rfl 3 (by decide) (va_Nw.use (w := .fieldLinkNest RX3 65 "BrotherAutomata$RuleBook" "constraints" "[I" "BrotherAutomata") rfl (hE.1 _ (List.mem_of_getElem? (i := 10) rfl))) (fun _ h9 => h9) rfl dX3_enter_99 ?_
    refine lv_iload_n hx hb dX3_enter_102 rfl (lv_at hl 5 rfl) ?_
    obtain ⟨hi, h⟩ := h
    refine va_iald hx hb hK hP 4 0 rfl rfl hi dX3_enter_103 ?_
    refine lv_iconst (v := 2) hx hb dX3_enter_104 (by decide) ?_
    obtain ⟨hh1, hh2⟩ := h
    refine lv_icmp_eq (tgt := 118) hx hb dX3_enter_105 (by decide) (fun hc => ?_) (fun hc => ?_)
    · have h := hh1 hc
      exact g118 y3 y4 y5 (st (st zM 2 w1.toNatClampNeg (((zM 2) w1.toNatClampNeg) ||| y3)) 3 x2.toNatClampNeg ((1 : Int32) <<< (((zB 4) x2.toNatClampNeg) &&& 31))) _ _ _ h hP hD hS hl
    · have h := hh2 hc
      refine lv_aload_n hx hb dX3_enter_108 rfl (lv_at hl 3 rfl) ?_
      refine lv_dup hx hb dX3_enter_109 rfl ?_
      refine va_get (D := D) (ci := 3) (v := .int ((st (st zM 2 w1.toNatClampNeg (((zM 2) w1.toNatClampNeg) ||| y3)) 3 x2.toNatClampNeg ((1 : Int32) <<< (((zB 4) x2.toNatClampNeg) &&& 31))) 4 0)) (C := RX3) (T := TX3) (N := 6) hx hb hts jX3_enter_X3 hown hK hP 6 rfl rfl 4 (by decide) (hts (.fieldLink RX3 24 "BrotherAutomata$RuleMasks" "whenEqual" "I") (List.mem_of_getElem? (i := 5) rfl)) (fun _ h9 => h9) rfl dX3_enter_110 ?_
      refine lv_iload_n hx hb dX3_enter_113 rfl (lv_at hl 2 rfl) ?_
      refine lv_ior hx hb dX3_enter_114 ?_
      refine va_put (D := D) (ci := 3) (v := .int (((st (st zM 2 w1.toNatClampNeg (((zM 2) w1.toNatClampNeg) ||| y3)) 3 x2.toNatClampNeg ((1 : Int32) <<< (((zB 4) x2.toNatClampNeg) &&& 31))) 4 0) ||| y3)) (ty := .int) (C := RX3) (T := TX3) (N := 6) hx hb hts jX3_enter_X3 tyX3 tyX3_ok nmX3 hown hK hP hD hS 6 rfl rfl 4 (by decide) (hts (.fieldLink RX3 24 "BrotherAutomata$RuleMasks" "whenEqual" "I") (List.mem_of_getElem? (i := 5) rfl)) (fun _ h9 => h9) rfl (by decide +kernel) rfl rfl (Nat.le_of_ble_eq_true rfl) dX3_enter_115 (fun H locs hP hD hS => ?_)
      have hP : va_P D vwCl (wB cI aB zB ++ (wM cI aM (st (st (st zM 2 w1.toNatClampNeg (((zM 2) w1.toNatClampNeg) ||| y3)) 3 x2.toNatClampNeg ((1 : Int32) <<< (((zB 4) x2.toNatClampNeg) &&& 31))) 4 0 (((st (st zM 2 w1.toNatClampNeg (((zM 2) w1.toNatClampNeg) ||| y3)) 3 x2.toNatClampNeg ((1 : Int32) <<< (((zB 4) x2.toNatClampNeg) &&& 31))) 4 0) ||| y3)))) H := hP
      have hD : va_D A (wB cI aB zB ++ (wM cI aM (st (st (st zM 2 w1.toNatClampNeg (((zM 2) w1.toNatClampNeg) ||| y3)) 3 x2.toNatClampNeg ((1 : Int32) <<< (((zB 4) x2.toNatClampNeg) &&& 31))) 4 0 (((st (st zM 2 w1.toNatClampNeg (((zM 2) w1.toNatClampNeg) ||| y3)) 3 x2.toNatClampNeg ((1 : Int32) <<< (((zB 4) x2.toNatClampNeg) &&& 31))) 4 0) ||| y3)))) := hD
      exact g118 y3 y4 y5 (st (st (st zM 2 w1.toNatClampNeg (((zM 2) w1.toNatClampNeg) ||| y3)) 3 x2.toNatClampNeg ((1 : Int32) <<< (((zB 4) x2.toNatClampNeg) &&& 31))) 4 0 (((st (st zM 2 w1.toNatClampNeg (((zM 2) w1.toNatClampNeg) ||| y3)) 3 x2.toNatClampNeg ((1 : Int32) <<< (((zB 4) x2.toNatClampNeg) &&& 31))) 4 0) ||| y3)) _ _ _ h hP hD hS hl
  have g52 : ∀ (y3 : Int32) (y4 : Int32) (y5 : Int32) (w1 : Int32) (zM : CS) (H : Heap) (locs : List Loc) (ls : Array Slot), qX3_enter_52 post x2 zB y3 y4 y5 w1 zM → va_P D vwCl (wB cI aB zB ++ (wM cI aM zM)) H → va_D A (wB cI aB zB ++ (wM cI aM zM)) → va_S A s.heap H locs → lv_has ls 6 [(5, .int y5), (4, .int y4), (3, .int y3), (0, .ref (aM 0)), (1, .ref (aB 0)), (2, .int x2)] → W p l e ({ frames := 0, cells := 0, slots := 0, locals := 0 } : Room) s m ([.ref (aM 0), .ref (aB 0), .int x2] : List Value).toArray below meth c H locs 0 0 (MQ below (va_Qv post (xB D cI cO A (w_X3_enter cI cO aB aM zB)) A) ([.ref (aM 0), .ref (aB 0), .int x2] : List Value).toArray s 0 0 A) (F0 m 52 ls [.int w1, .ref (aM 2)]) := by
    intro y3 y4 y5 w1 zM H locs ls h hP hD hS hl
    refine lv_dup2_11 hx hb dX3_enter_52 rfl rfl ?_
    obtain ⟨hi, h⟩ := h
    refine va_iald hx hb hK hP 8 0 rfl rfl hi dX3_enter_53 ?_
    refine lv_iload_n hx hb dX3_enter_54 rfl (lv_at hl 2 rfl) ?_
    refine lv_ior hx hb dX3_enter_55 ?_
    obtain ⟨hi, h⟩ := h
    refine va_iast hx hb hK hP hD hS 8 0 rfl rfl hi dX3_enter_56 (fun H locs hP hD hS => ?_)
    have hP : va_P D vwCl (wB cI aB zB ++ (wM cI aM (st zM 1 w1.toNatClampNeg (((zM 1) w1.toNatClampNeg) ||| y3)))) H := hP
    have hD : va_D A (wB cI aB zB ++ (wM cI aM (st zM 1 w1.toNatClampNeg (((zM 1) w1.toNatClampNeg) ||| y3)))) := hD
    refine lv_aload_n hx hb dX3_enter_57 rfl (lv_at hl 3 rfl) ?_
    refine va_get (D := D) (ci := 3) (v := .ref (aM 3)) (C := RX3) (T := TX3) (N := 6) hx hb hts jX3_enter_X3 hown hK hP 6 rfl rfl 2 (by decide) (hts (.fieldLink RX3 18 "BrotherAutomata$RuleMasks" "bySecond" "[I") (List.mem_of_getElem? (i := 3) rfl)) (fun _ h9 => h9) rfl dX3_enter_58 ?_
    refine lv_iload hx hb dX3_enter_61 (lv_at hl 0 rfl) ?_
    refine lv_iconst (v := 1) hx hb dX3_enter_63 (by decide) ?_
    obtain ⟨hh1, hh2⟩ := h
    refine lv_icmp_le (tgt := 78) hx hb dX3_enter_64 (by decide) (fun hc => ?_) (fun hc => ?_)
    · have h := hh1 hc
      refine lv_iconst (v := 0) hx hb dX3_enter_78 (by decide) ?_
      exact g79 y3 y4 y5 (0 : Int32) (st zM 1 w1.toNatClampNeg (((zM 1) w1.toNatClampNeg) ||| y3)) _ _ _ h hP hD hS hl
    · have h := hh2 hc
      refine lv_iconst (v := 1) hx hb dX3_enter_67 (by decide) ?_
      refine lv_aload_n hx hb dX3_enter_68 rfl (lv_at hl 4 rfl) ?_
      refine va_getN (D := D) (ci := 2) (v := .ref (aB 3)) (C := RX2) (T := TX2) (N := 7) hx hb hts jX3_enter_X2 hown hK hP 0 rfl rfl 2 (by decide) (va_Nw.use (w := .fieldLinkNest RX3 59 "BrotherAutomata$RuleBook" "seconds" "[I" "BrotherAutomata") rfl (hE.1 _ (List.mem_of_getElem? (i := 12) rfl))) (fun _ h9 => h9) rfl dX3_enter_69 ?_
      refine lv_iload_n hx hb dX3_enter_72 rfl (lv_at hl 5 rfl) ?_
      obtain ⟨hi, h⟩ := h
      refine va_iald hx hb hK hP 3 0 rfl rfl hi dX3_enter_73 ?_
      refine lv_ishl hx hb dX3_enter_74 ?_
      refine lv_goto (tgt := 79) hx hb dX3_enter_75 (by decide) ?_
      exact g79 y3 y4 y5 ((1 : Int32) <<< (((zB 2) x2.toNatClampNeg) &&& 31)) (st zM 1 w1.toNatClampNeg (((zM 1) w1.toNatClampNeg) ||| y3)) _ _ _ h hP hD hS hl
  refine lv_iconst (v := 1) hx hb dX3_enter_0 (by decide) ?_
  refine lv_iload_n hx hb dX3_enter_1 rfl (lv_at hl 2 rfl) ?_
  refine lv_ishl hx hb dX3_enter_2 ?_
  refine lv_istore_n (lv' := [(3, .int ((1 : Int32) <<< (x2 &&& 31))), (0, .ref (aM 0)), (1, .ref (aB 0)), (2, .int x2)]) hx hb dX3_enter_3 rfl hl (by decide) rfl (fun ls hl => ?_)
  refine lv_aload_n hx hb dX3_enter_4 rfl (lv_at hl 2 rfl) ?_
  refine va_getN (D := D) (ci := 2) (v := .ref (aB 1)) (C := RX2) (T := TX2) (N := 7) hx hb hts jX3_enter_X2 hown hK hP 0 rfl rfl 0 (by decide) (va_Nw.use (w := .fieldLinkNest RX3 50 "BrotherAutomata$RuleBook" "symbols" "[I" "BrotherAutomata") rfl (hE.1 _ (List.mem_of_getElem? (i := 15) rfl))) (fun _ h9 => h9) rfl dX3_enter_5 ?_
  refine lv_iload_n hx hb dX3_enter_8 rfl (lv_at hl 3 rfl) ?_
  obtain ⟨hi, h⟩ := h
  refine va_iald hx hb hK hP 1 0 rfl rfl hi dX3_enter_9 ?_
  refine lv_istore (lv' := [(4, .int ((zB 0) x2.toNatClampNeg)), (3, .int ((1 : Int32) <<< (x2 &&& 31))), (0, .ref (aM 0)), (1, .ref (aB 0)), (2, .int x2)]) hx hb dX3_enter_10 hl (by decide) rfl (fun ls hl => ?_)
  refine va_getsN hx hb hE.2.1 hS hown (va_Nw.use (w := .fieldLinkNest RX3 53 "BrotherAutomata" "ARITY" "[I" "BrotherAutomata") rfl (hE.1 _ (List.mem_of_getElem? (i := 14) rfl))) (fun _ h9 => h9) dX3_enter_12 ?_
  refine lv_iload hx hb dX3_enter_15 (lv_at hl 0 rfl) ?_
  obtain ⟨hi, h⟩ := h
  refine va_ti (v := .int (xar ((zB 0) x2.toNatClampNeg).toNatClampNeg)) hx hb hE.2.2.1 hS hi rfl dX3_enter_17 ?_
  refine lv_istore (lv' := [(5, .int (xar ((zB 0) x2.toNatClampNeg).toNatClampNeg)), (4, .int ((zB 0) x2.toNatClampNeg)), (3, .int ((1 : Int32) <<< (x2 &&& 31))), (0, .ref (aM 0)), (1, .ref (aB 0)), (2, .int x2)]) hx hb dX3_enter_18 hl (by decide) rfl (fun ls hl => ?_)
  refine lv_aload_n hx hb dX3_enter_20 rfl (lv_at hl 3 rfl) ?_
  refine va_get (D := D) (ci := 3) (v := .ref (aM 1)) (C := RX3) (T := TX3) (N := 6) hx hb hts jX3_enter_X3 hown hK hP 6 rfl rfl 0 (by decide) (hts (.fieldLink RX3 9 "BrotherAutomata$RuleMasks" "bySymbol" "[I") (List.mem_of_getElem? (i := 1) rfl)) (fun _ h9 => h9) rfl dX3_enter_21 ?_
  refine lv_iload hx hb dX3_enter_24 (lv_at hl 1 rfl) ?_
  refine lv_dup2_11 hx hb dX3_enter_26 rfl rfl ?_
  obtain ⟨hi, h⟩ := h
  refine va_iald hx hb hK hP 7 0 rfl rfl hi dX3_enter_27 ?_
  refine lv_iload_n hx hb dX3_enter_28 rfl (lv_at hl 2 rfl) ?_
  refine lv_ior hx hb dX3_enter_29 ?_
  obtain ⟨hi, h⟩ := h
  refine va_iast hx hb hK hP hD hS 7 0 rfl rfl hi dX3_enter_30 (fun H locs hP hD hS => ?_)
  have hP : va_P D vwCl (wB cI aB zB ++ (wM cI aM (st zM 0 ((zB 0) x2.toNatClampNeg).toNatClampNeg (((zM 0) ((zB 0) x2.toNatClampNeg).toNatClampNeg) ||| ((1 : Int32) <<< (x2 &&& 31)))))) H := hP
  have hD : va_D A (wB cI aB zB ++ (wM cI aM (st zM 0 ((zB 0) x2.toNatClampNeg).toNatClampNeg (((zM 0) ((zB 0) x2.toNatClampNeg).toNatClampNeg) ||| ((1 : Int32) <<< (x2 &&& 31)))))) := hD
  refine lv_aload_n hx hb dX3_enter_31 rfl (lv_at hl 3 rfl) ?_
  refine va_get (D := D) (ci := 3) (v := .ref (aM 2)) (C := RX3) (T := TX3) (N := 6) hx hb hts jX3_enter_X3 hown hK hP 6 rfl rfl 1 (by decide) (hts (.fieldLink RX3 15 "BrotherAutomata$RuleMasks" "byFirst" "[I") (List.mem_of_getElem? (i := 2) rfl)) (fun _ h9 => h9) rfl dX3_enter_32 ?_
  refine lv_iload hx hb dX3_enter_35 (lv_at hl 0 rfl) ?_
  obtain ⟨hh1, hh2⟩ := h
  refine lv_if_le (tgt := 51) hx hb dX3_enter_37 (by decide) (fun hc => ?_) (fun hc => ?_)
  · have h := hh1 hc
    refine lv_iconst (v := 0) hx hb dX3_enter_51 (by decide) ?_
    exact g52 ((1 : Int32) <<< (x2 &&& 31)) ((zB 0) x2.toNatClampNeg) (xar ((zB 0) x2.toNatClampNeg).toNatClampNeg) (0 : Int32) (st zM 0 ((zB 0) x2.toNatClampNeg).toNatClampNeg (((zM 0) ((zB 0) x2.toNatClampNeg).toNatClampNeg) ||| ((1 : Int32) <<< (x2 &&& 31)))) _ _ _ h hP hD hS hl
  · have h := hh2 hc
    refine lv_iconst (v := 1) hx hb dX3_enter_40 (by decide) ?_
    refine lv_aload_n hx hb dX3_enter_41 rfl (lv_at hl 4 rfl) ?_
    refine va_getN (D := D) (ci := 2) (v := .ref (aB 2)) (C := RX2) (T := TX2) (N := 7) hx hb hts jX3_enter_X2 hown hK hP 0 rfl rfl 1 (by decide) (va_Nw.use (w := .fieldLinkNest RX3 56 "BrotherAutomata$RuleBook" "firsts" "[I" "BrotherAutomata") rfl (hE.1 _ (List.mem_of_getElem? (i := 13) rfl))) (fun _ h9 => h9) rfl dX3_enter_42 ?_
    refine lv_iload_n hx hb dX3_enter_45 rfl (lv_at hl 5 rfl) ?_
    obtain ⟨hi, h⟩ := h
    refine va_iald hx hb hK hP 2 0 rfl rfl hi dX3_enter_46 ?_
    refine lv_ishl hx hb dX3_enter_47 ?_
    refine lv_goto (tgt := 52) hx hb dX3_enter_48 (by decide) ?_
    exact g52 ((1 : Int32) <<< (x2 &&& 31)) ((zB 0) x2.toNatClampNeg) (xar ((zB 0) x2.toNatClampNeg).toNatClampNeg) ((1 : Int32) <<< (((zB 1) x2.toNatClampNeg) &&& 31)) (st zM 0 ((zB 0) x2.toNatClampNeg).toNatClampNeg (((zM 0) ((zB 0) x2.toNatClampNeg).toNatClampNeg) ||| ((1 : Int32) <<< (x2 &&& 31)))) _ _ _ h hP hD hS hl
theorem dX3_spread_0 : decode cX3_spread 0 = .ok (.iconst 1, 1) := by decide +kernel
theorem dX3_spread_1 : decode cX3_spread 1 = .ok (.istore_n 1, 1) := by decide +kernel
theorem dX3_spread_2 : decode cX3_spread 2 = .ok (.iload_n 1, 1) := by decide +kernel
theorem dX3_spread_3 : decode cX3_spread 3 = .ok (.bipush 64, 2) := by decide +kernel
theorem dX3_spread_5 : decode cX3_spread 5 = .ok (.if_icmp .ge 26, 3) := by decide +kernel
theorem dX3_spread_8 : decode cX3_spread 8 = .ok (.iload_n 1, 1) := by decide +kernel
theorem dX3_spread_9 : decode cX3_spread 9 = .ok (.iload_n 1, 1) := by decide +kernel
theorem dX3_spread_10 : decode cX3_spread 10 = .ok (.ineg, 1) := by decide +kernel
theorem dX3_spread_11 : decode cX3_spread 11 = .ok (.iand, 1) := by decide +kernel
theorem dX3_spread_12 : decode cX3_spread 12 = .ok (.istore_n 2, 1) := by decide +kernel
theorem dX3_spread_13 : decode cX3_spread 13 = .ok (.aload_n 0, 1) := by decide +kernel
theorem dX3_spread_14 : decode cX3_spread 14 = .ok (.iload_n 1, 1) := by decide +kernel
theorem dX3_spread_15 : decode cX3_spread 15 = .ok (.aload_n 0, 1) := by decide +kernel
theorem dX3_spread_16 : decode cX3_spread 16 = .ok (.iload_n 1, 1) := by decide +kernel
theorem dX3_spread_17 : decode cX3_spread 17 = .ok (.iload_n 2, 1) := by decide +kernel
theorem dX3_spread_18 : decode cX3_spread 18 = .ok (.isub, 1) := by decide +kernel
theorem dX3_spread_19 : decode cX3_spread 19 = .ok (.iaload, 1) := by decide +kernel
theorem dX3_spread_20 : decode cX3_spread 20 = .ok (.aload_n 0, 1) := by decide +kernel
theorem dX3_spread_21 : decode cX3_spread 21 = .ok (.iload_n 2, 1) := by decide +kernel
theorem dX3_spread_22 : decode cX3_spread 22 = .ok (.iaload, 1) := by decide +kernel
theorem dX3_spread_23 : decode cX3_spread 23 = .ok (.ior, 1) := by decide +kernel
theorem dX3_spread_24 : decode cX3_spread 24 = .ok (.iastore, 1) := by decide +kernel
theorem dX3_spread_25 : decode cX3_spread 25 = .ok (.iinc 1 1, 3) := by decide +kernel
theorem dX3_spread_28 : decode cX3_spread 28 = .ok (.goto (-26), 3) := by decide +kernel
theorem dX3_spread_31 : decode cX3_spread 31 = .ok (.return_, 1) := by decide +kernel
abbrev w_X3_spread (cI cO : ClassId) (ra : Nat)  : ((Nat → Int32)) → va_W := fun u => ([(ra, .inl (cI, 64, .inl u))])
set_option maxRecDepth 100000 in
set_option maxHeartbeats 8000000 in
theorem mX3_spread (l : Launch) (D : va_G) (cI cO : ClassId) (tA tS : Nat) (ra : Nat) (zF : Nat → Int32)  (sz : Nat) {post : ((Nat → Int32)) → Prop} (h : qX3_spread post zF) : Met l yX3_spread wsX3_spread ({ frames := 0, cells := 0, slots := 0, locals := 0 } : Room) (xPre D cI cO tA tS [.ref ra] ([(ra, .inl (cI, 64, .inl zF))]) sz) (va_Qv post (xB D cI cO (va_A ([(ra, .inl (cI, 64, .inl zF))]) sz) (w_X3_spread cI cO ra)) (va_A ([(ra, .inl (cI, 64, .inl zF))]) sz)) 0 0 (va_A ([(ra, .inl (cI, 64, .inl zF))]) sz) := by
  refine xMet D cI cO tA tS (fun A => va_Qv post (xB D cI cO A (w_X3_spread cI cO ra)) A) (cc := cX3_spread) (maxL := 3) (ret := none) (by decide) rfl (Nat.le_of_ble_eq_true rfl) ?_
  intro p e s m below meth c A ls hx hb hr hts hown hlocks hin hml hA hS hP hK hD hE hl
  have hown : s.vm.findClass RX3 = some m.cls := hown
  have hl : lv_has ls 3 [(0, .ref ra)] := hl
  have g2 : ∀ (n : Nat) (y1 : Int32) (zF : Nat → Int32) (H : Heap) (locs : List Loc) (ls : Array Slot), qX3_spread_2 post n y1 zF → va_P D vwCl ([(ra, .inl (cI, 64, .inl zF))]) H → va_D A ([(ra, .inl (cI, 64, .inl zF))]) → va_S A s.heap H locs → lv_has ls 3 [(1, .int y1), (0, .ref ra)] → W p l e ({ frames := 0, cells := 0, slots := 0, locals := 0 } : Room) s m ([.ref ra] : List Value).toArray below meth c H locs 0 0 (MQ below (va_Qv post (xB D cI cO A (w_X3_spread cI cO ra)) A) ([.ref ra] : List Value).toArray s 0 0 A) (F0 m 2 ls []) := by
    intro n
    induction n with
    | zero => intro y1 zF H locs ls h; exact False.elim h
    | succ n hk2 =>
      intro y1 zF H locs ls h hP hD hS hl
      have h : qX3_spread_2b post (qX3_spread_2 post n) y1 zF := h
      refine lv_iload_n hx hb dX3_spread_2 rfl (lv_at hl 0 rfl) ?_
      refine lv_bipush (v := 64) hx hb dX3_spread_3 (by decide) ?_
      obtain ⟨hh1, hh2⟩ := h
      refine lv_icmp_ge (tgt := 31) hx hb dX3_spread_5 (by decide) (fun hc => ?_) (fun hc => ?_)
      · have h := hh1 hc
        exact xvret (w := (w_X3_spread cI cO ra)) (zF) hx hb hr hlocks h hP hK hD hS dX3_spread_31
      · have h := hh2 hc
        refine lv_iload_n hx hb dX3_spread_8 rfl (lv_at hl 0 rfl) ?_
        refine lv_iload_n hx hb dX3_spread_9 rfl (lv_at hl 0 rfl) ?_
        refine lv_ineg hx hb dX3_spread_10 ?_
        refine lv_iand hx hb dX3_spread_11 ?_
        refine lv_istore_n (lv' := [(2, .int (y1 &&& (-y1))), (1, .int y1), (0, .ref ra)]) hx hb dX3_spread_12 rfl hl (by decide) rfl (fun ls hl => ?_)
        refine lv_aload_n hx hb dX3_spread_13 rfl (lv_at hl 2 rfl) ?_
        refine lv_iload_n hx hb dX3_spread_14 rfl (lv_at hl 1 rfl) ?_
        refine lv_aload_n hx hb dX3_spread_15 rfl (lv_at hl 2 rfl) ?_
        refine lv_iload_n hx hb dX3_spread_16 rfl (lv_at hl 1 rfl) ?_
        refine lv_iload_n hx hb dX3_spread_17 rfl (lv_at hl 0 rfl) ?_
        refine lv_isub hx hb dX3_spread_18 ?_
        obtain ⟨hi, h⟩ := h
        refine va_iald hx hb hK hP 0 0 rfl rfl hi dX3_spread_19 ?_
        refine lv_aload_n hx hb dX3_spread_20 rfl (lv_at hl 2 rfl) ?_
        refine lv_iload_n hx hb dX3_spread_21 rfl (lv_at hl 0 rfl) ?_
        obtain ⟨hi, h⟩ := h
        refine va_iald hx hb hK hP 0 0 rfl rfl hi dX3_spread_22 ?_
        refine lv_ior hx hb dX3_spread_23 ?_
        obtain ⟨hi, h⟩ := h
        refine va_iast hx hb hK hP hD hS 0 0 rfl rfl hi dX3_spread_24 (fun H locs hP hD hS => ?_)
        have hP : va_P D vwCl ([(ra, .inl (cI, 64, .inl (upd zF y1.toNatClampNeg ((zF (y1 - (y1 &&& (-y1))).toNatClampNeg) ||| (zF (y1 &&& (-y1)).toNatClampNeg)))))]) H := hP
        have hD : va_D A ([(ra, .inl (cI, 64, .inl (upd zF y1.toNatClampNeg ((zF (y1 - (y1 &&& (-y1))).toNatClampNeg) ||| (zF (y1 &&& (-y1)).toNatClampNeg)))))]) := hD
        refine lv_iinc (v := (y1 + (1 : Int32))) (lv' := [(1, .int (y1 + (1 : Int32))), (2, .int (y1 &&& (-y1))), (0, .ref ra)]) hx hb dX3_spread_25 hl (k := 1) rfl rfl (by decide) rfl (fun ls hl => ?_)
        refine lv_goto (tgt := 2) hx hb dX3_spread_28 (by decide) ?_
        exact hk2 (y1 + (1 : Int32)) (upd zF y1.toNatClampNeg ((zF (y1 - (y1 &&& (-y1))).toNatClampNeg) ||| (zF (y1 &&& (-y1)).toNatClampNeg))) _ _ _ h hP hD hS (lv_sub hl [0, 2] rfl)
  refine lv_iconst (v := 1) hx hb dX3_spread_0 (by decide) ?_
  refine lv_istore_n (lv' := [(1, .int (1 : Int32)), (0, .ref ra)]) hx hb dX3_spread_1 rfl hl (by decide) rfl (fun ls hl => ?_)
  obtain ⟨n0, h⟩ := h
  exact g2 n0 (1 : Int32) zF _ _ _ h hP hD hS hl
set_option maxRecDepth 20000 in
theorem ggX3_build_J7_fill_53178 : GoodIn wsX3_build wsJ7_fill_53178 := goodIn_r _ [9] (by decide +kernel) (by decide +kernel)
set_option maxRecDepth 20000 in
theorem gX3_build_J7_fill_53178 : GoodIn wsX3_build (va_wsS RX3 31 yJ7_fill_53178 wsJ7_fill_53178) := goodIn_app (goodIn_of _ (by decide +kernel)) ggX3_build_J7_fill_53178
set_option maxRecDepth 20000 in
theorem ggX3_build_X3_enter : GoodIn wsX3_build wsX3_enter := goodIn_r _ [14, 1, 2, 3, 15, 4, 5, 25, 26, 27, 28, 29, 30, 31, 19, 20, 21, 22, 23, 24] (by decide +kernel) (by decide +kernel)
set_option maxRecDepth 20000 in
theorem gX3_build_X3_enter : GoodIn wsX3_build (wsV RX3 42 RX3 yX3_enter wsX3_enter) := goodIn_app (goodIn_of _ (by decide +kernel)) ggX3_build_X3_enter
set_option maxRecDepth 20000 in
theorem ggX3_build_X3_spread : GoodIn wsX3_build wsX3_spread := goodIn_r _ [18] (by decide +kernel) (by decide +kernel)
set_option maxRecDepth 20000 in
theorem gX3_build_X3_spread : GoodIn wsX3_build (va_wsS RX3 46 yX3_spread wsX3_spread) := goodIn_app (goodIn_of _ (by decide +kernel)) ggX3_build_X3_spread
theorem dX3_build_0 : decode cX3_build 0 = .ok (.aload_n 0, 1) := by decide +kernel
theorem dX3_build_1 : decode cX3_build 1 = .ok (.getfield 9, 3) := by decide +kernel
theorem dX3_build_4 : decode cX3_build 4 = .ok (.iconst 0, 1) := by decide +kernel
theorem dX3_build_5 : decode cX3_build 5 = .ok (.invokestatic 31, 3) := by decide +kernel
theorem dX3_build_8 : decode cX3_build 8 = .ok (.aload_n 0, 1) := by decide +kernel
theorem dX3_build_9 : decode cX3_build 9 = .ok (.getfield 15, 3) := by decide +kernel
theorem dX3_build_12 : decode cX3_build 12 = .ok (.iconst 0, 1) := by decide +kernel
theorem dX3_build_13 : decode cX3_build 13 = .ok (.invokestatic 31, 3) := by decide +kernel
theorem dX3_build_16 : decode cX3_build 16 = .ok (.aload_n 0, 1) := by decide +kernel
theorem dX3_build_17 : decode cX3_build 17 = .ok (.getfield 18, 3) := by decide +kernel
theorem dX3_build_20 : decode cX3_build 20 = .ok (.iconst 0, 1) := by decide +kernel
theorem dX3_build_21 : decode cX3_build 21 = .ok (.invokestatic 31, 3) := by decide +kernel
theorem dX3_build_24 : decode cX3_build 24 = .ok (.aload_n 0, 1) := by decide +kernel
theorem dX3_build_25 : decode cX3_build 25 = .ok (.iconst 0, 1) := by decide +kernel
theorem dX3_build_26 : decode cX3_build 26 = .ok (.putfield 24, 3) := by decide +kernel
theorem dX3_build_29 : decode cX3_build 29 = .ok (.aload_n 0, 1) := by decide +kernel
theorem dX3_build_30 : decode cX3_build 30 = .ok (.iconst 0, 1) := by decide +kernel
theorem dX3_build_31 : decode cX3_build 31 = .ok (.putfield 28, 3) := by decide +kernel
theorem dX3_build_34 : decode cX3_build 34 = .ok (.iconst 0, 1) := by decide +kernel
theorem dX3_build_35 : decode cX3_build 35 = .ok (.istore_n 2, 1) := by decide +kernel
theorem dX3_build_36 : decode cX3_build 36 = .ok (.iload_n 2, 1) := by decide +kernel
theorem dX3_build_37 : decode cX3_build 37 = .ok (.aload_n 1, 1) := by decide +kernel
theorem dX3_build_38 : decode cX3_build 38 = .ok (.getfield 37, 3) := by decide +kernel
theorem dX3_build_41 : decode cX3_build 41 = .ok (.if_icmp .ge 15, 3) := by decide +kernel
theorem dX3_build_44 : decode cX3_build 44 = .ok (.aload_n 0, 1) := by decide +kernel
theorem dX3_build_45 : decode cX3_build 45 = .ok (.aload_n 1, 1) := by decide +kernel
theorem dX3_build_46 : decode cX3_build 46 = .ok (.iload_n 2, 1) := by decide +kernel
theorem dX3_build_47 : decode cX3_build 47 = .ok (.invokevirtual 42, 3) := by decide +kernel
theorem dX3_build_50 : decode cX3_build 50 = .ok (.iinc 2 1, 3) := by decide +kernel
theorem dX3_build_53 : decode cX3_build 53 = .ok (.goto (-17), 3) := by decide +kernel
theorem dX3_build_56 : decode cX3_build 56 = .ok (.aload_n 0, 1) := by decide +kernel
theorem dX3_build_57 : decode cX3_build 57 = .ok (.getfield 15, 3) := by decide +kernel
theorem dX3_build_60 : decode cX3_build 60 = .ok (.invokestatic 46, 3) := by decide +kernel
theorem dX3_build_63 : decode cX3_build 63 = .ok (.aload_n 0, 1) := by decide +kernel
theorem dX3_build_64 : decode cX3_build 64 = .ok (.getfield 18, 3) := by decide +kernel
theorem dX3_build_67 : decode cX3_build 67 = .ok (.invokestatic 46, 3) := by decide +kernel
theorem dX3_build_70 : decode cX3_build 70 = .ok (.return_, 1) := by decide +kernel
theorem jX3_build_X2 : ∀ w ∈ wsX20, w ∈ wsX3_build := by decide +kernel
theorem jX3_build_X3 : ∀ w ∈ wsX30, w ∈ wsX3_build := by decide +kernel
abbrev w_X3_build (cI cO : ClassId) (aB : Nat → Nat) (aM : Nat → Nat) (zB : CS) : ((CS)) → va_W := fun u => (wB cI aB zB ++ (wM cI aM u))
set_option maxRecDepth 100000 in
set_option maxHeartbeats 8000000 in
theorem mX3_build (l : Launch) (D : va_G) (cI cO : ClassId) (tA tS : Nat) (aB : Nat → Nat) (aM : Nat → Nat) (zB : CS) (zM : CS)  (sz : Nat) {post : ((CS)) → Prop} (h : qX3_build post zB zM) : Met l yX3_build wsX3_build ({ frames := 1, cells := 0, slots := 0, locals := 25 } : Room) (xPre D cI cO tA tS [.ref (aM 0), .ref (aB 0)] (wB cI aB zB ++ (wM cI aM zM)) sz) (va_Qv post (xB D cI cO (va_A (wB cI aB zB ++ (wM cI aM zM)) sz) (w_X3_build cI cO aB aM zB)) (va_A (wB cI aB zB ++ (wM cI aM zM)) sz)) 0 0 (va_A (wB cI aB zB ++ (wM cI aM zM)) sz) := by
  refine xMet D cI cO tA tS (fun A => va_Qv post (xB D cI cO A (w_X3_build cI cO aB aM zB)) A) (cc := cX3_build) (maxL := 3) (ret := none) (by decide) rfl (Nat.le_of_ble_eq_true rfl) ?_
  intro p e s m below meth c A ls hx hb hr hts hown hlocks hin hml hA hS hP hK hD hE hl
  have hown : s.vm.findClass RX3 = some m.cls := hown
  have hl : lv_has ls 3 [(0, .ref (aM 0)), (1, .ref (aB 0))] := hl
  have g36 : ∀ (n : Nat) (y2 : Int32) (zM : CS) (H : Heap) (locs : List Loc) (ls : Array Slot), qX3_build_36 post zB n y2 zM → va_P D vwCl (wB cI aB zB ++ (wM cI aM zM)) H → va_D A (wB cI aB zB ++ (wM cI aM zM)) → va_S A s.heap H locs → lv_has ls 3 [(2, .int y2), (0, .ref (aM 0)), (1, .ref (aB 0))] → W p l e ({ frames := 1, cells := 0, slots := 0, locals := 25 } : Room) s m ([.ref (aM 0), .ref (aB 0)] : List Value).toArray below meth c H locs 0 0 (MQ below (va_Qv post (xB D cI cO A (w_X3_build cI cO aB aM zB)) A) ([.ref (aM 0), .ref (aB 0)] : List Value).toArray s 0 0 A) (F0 m 36 ls []) := by
    intro n
    induction n with
    | zero => intro y2 zM H locs ls h; exact False.elim h
    | succ n hk36 =>
      intro y2 zM H locs ls h hP hD hS hl
      have h : qX3_build_36b post zB (qX3_build_36 post zB n) y2 zM := h
      refine lv_iload_n hx hb dX3_build_36 rfl (lv_at hl 0 rfl) ?_
      refine lv_aload_n hx hb dX3_build_37 rfl (lv_at hl 2 rfl) ?_
      refine va_getN (D := D) (ci := 2) (v := .int (zB 5 0)) (C := RX2) (T := TX2) (N := 7) hx hb hts jX3_build_X2 hown hK hP 0 rfl rfl 5 (by decide) (va_Nw.use (w := .fieldLinkNest RX3 37 "BrotherAutomata$RuleBook" "count" "I" "BrotherAutomata") rfl (hE.1 _ (List.mem_of_getElem? (i := 16) rfl))) (fun _ h9 => h9) rfl dX3_build_38 ?_
      obtain ⟨hh1, hh2⟩ := h
      refine lv_icmp_ge (tgt := 56) hx hb dX3_build_41 (by decide) (fun hc => ?_) (fun hc => ?_)
      · have h := hh1 hc
        refine lv_aload_n hx hb dX3_build_56 rfl (lv_at hl 1 rfl) ?_
        refine va_get (D := D) (ci := 3) (v := .ref (aM 2)) (C := RX3) (T := TX3) (N := 6) hx hb hts jX3_build_X3 hown hK hP 6 rfl rfl 1 (by decide) (hts (.fieldLink RX3 15 "BrotherAutomata$RuleMasks" "byFirst" "[I") (List.mem_of_getElem? (i := 2) rfl)) (fun _ h9 => h9) rfl dX3_build_57 ?_
        refine xcallv (wr := (wB cI aB zB ++ ([(aM 0, .inr (3, [.ref (aM 1), .ref (aM 2), .ref (aM 3), .ref (aM 4), .int (zM 4 0), .int (zM 4 1)])), (aM 1, .inl (cI, 5, .inl (zM 0))), (aM 3, .inl (cI, 64, .inl (zM 2))), (aM 4, .inl (cI, 16, .inl (zM 3)))]))) (w2 := fun (u60 : (Nat → Int32)) => (wB cI aB zB ++ (wM cI aM (sr zM 1 u60)))) (va_runS (As := [.ref (aM 2)]) (rest := []) ⟨hx, hb, hml, hown, hts⟩ (mX3_spread l D cI cO tA tS (aM 2) (zM 1) _ h) (va_cwS 1 hts gX3_build_X3_spread rfl rfl rfl (by decide +kernel) ⟨Nat.le_of_ble_eq_true rfl, Nat.le_of_ble_eq_true rfl⟩) (xpreP hP hD hS hA hK hE [8] rfl rfl) rfl rfl hl.1 rfl (lv_room (Nat.le_of_ble_eq_true rfl)) dX3_build_60 ⟨Nat.le_refl 0, Nat.le_refl 0⟩) hP hD hS hA [8] [0, 1, 2, 3, 4, 5, 6, 7, 9, 10] [0, 1, 2, 3, 4, 5, 6, 7, 10, 8, 9] rfl rfl rfl (by decide) rfl (fun _ => rfl) (fun u60 H locs h hP hD hS => ?_)
        refine lv_aload_n hx hb dX3_build_63 rfl (lv_at hl 1 rfl) ?_
        refine va_get (D := D) (ci := 3) (v := .ref (aM 3)) (C := RX3) (T := TX3) (N := 6) hx hb hts jX3_build_X3 hown hK hP 6 rfl rfl 2 (by decide) (hts (.fieldLink RX3 18 "BrotherAutomata$RuleMasks" "bySecond" "[I") (List.mem_of_getElem? (i := 3) rfl)) (fun _ h9 => h9) rfl dX3_build_64 ?_
        refine xcallv (wr := (wB cI aB zB ++ ([(aM 0, .inr (3, [.ref (aM 1), .ref (aM 2), .ref (aM 3), .ref (aM 4), .int ((sr zM 1 u60) 4 0), .int ((sr zM 1 u60) 4 1)])), (aM 1, .inl (cI, 5, .inl ((sr zM 1 u60) 0))), (aM 2, .inl (cI, 64, .inl ((sr zM 1 u60) 1))), (aM 4, .inl (cI, 16, .inl ((sr zM 1 u60) 3)))]))) (w2 := fun (u67 : (Nat → Int32)) => (wB cI aB zB ++ (wM cI aM (sr (sr zM 1 u60) 2 u67)))) (va_runS (As := [.ref (aM 3)]) (rest := []) ⟨hx, hb, hml, hown, hts⟩ (mX3_spread l D cI cO tA tS (aM 3) ((sr zM 1 u60) 2) _ h) (va_cwS 1 hts gX3_build_X3_spread rfl rfl rfl (by decide +kernel) ⟨Nat.le_of_ble_eq_true rfl, Nat.le_of_ble_eq_true rfl⟩) (xpreP hP hD hS hA hK hE [9] rfl rfl) rfl rfl hl.1 rfl (lv_room (Nat.le_of_ble_eq_true rfl)) dX3_build_67 ⟨Nat.le_refl 0, Nat.le_refl 0⟩) hP hD hS hA [9] [0, 1, 2, 3, 4, 5, 6, 7, 8, 10] [0, 1, 2, 3, 4, 5, 6, 7, 8, 10, 9] rfl rfl rfl (by decide) rfl (fun _ => rfl) (fun u67 H locs h hP hD hS => ?_)
        exact xvret (w := (w_X3_build cI cO aB aM zB)) (sr (sr zM 1 u60) 2 u67) hx hb hr hlocks h hP hK hD hS dX3_build_70
      · have h := hh2 hc
        refine lv_aload_n hx hb dX3_build_44 rfl (lv_at hl 1 rfl) ?_
        refine lv_aload_n hx hb dX3_build_45 rfl (lv_at hl 2 rfl) ?_
        refine lv_iload_n hx hb dX3_build_46 rfl (lv_at hl 0 rfl) ?_
        refine xcallv (wr := ([] : va_W)) (w2 := fun (u47 : (CS)) => (wB cI aB zB ++ (wM cI aM u47))) (va_runV (As := [.ref (aB 0), .int y2]) (rest := []) ⟨hx, hb, hml, hown, hts⟩ (mX3_enter l D cI cO tA tS aB aM zB zM y2 _ h) (cwV 2 hts gX3_build_X3_enter rfl rfl rfl (by decide +kernel) ⟨Nat.le_of_ble_eq_true rfl, Nat.le_of_ble_eq_true rfl⟩) (xpreV hP hD hS hA hK hE [0, 1, 2, 3, 4, 5, 6, 7, 8, 9, 10] rfl rfl 3 6 rfl rfl) rfl rfl hl.1 rfl (lv_room (Nat.le_of_ble_eq_true rfl)) dX3_build_47 ⟨Nat.le_refl 0, Nat.le_refl 0⟩) hP hD hS hA [0, 1, 2, 3, 4, 5, 6, 7, 8, 9, 10] [] [0, 1, 2, 3, 4, 5, 6, 7, 8, 9, 10] rfl rfl rfl (by decide) rfl (fun _ => rfl) (fun u47 H locs h hP hD hS => ?_)
        refine lv_iinc (v := (y2 + (1 : Int32))) (lv' := [(2, .int (y2 + (1 : Int32))), (0, .ref (aM 0)), (1, .ref (aB 0))]) hx hb dX3_build_50 hl (k := 0) rfl rfl (by decide) rfl (fun ls hl => ?_)
        refine lv_goto (tgt := 36) hx hb dX3_build_53 (by decide) ?_
        exact hk36 (y2 + (1 : Int32)) u47 _ _ _ h hP hD hS hl
  refine lv_aload_n hx hb dX3_build_0 rfl (lv_at hl 0 rfl) ?_
  refine va_get (D := D) (ci := 3) (v := .ref (aM 1)) (C := RX3) (T := TX3) (N := 6) hx hb hts jX3_build_X3 hown hK hP 6 rfl rfl 0 (by decide) (hts (.fieldLink RX3 9 "BrotherAutomata$RuleMasks" "bySymbol" "[I") (List.mem_of_getElem? (i := 1) rfl)) (fun _ h9 => h9) rfl dX3_build_1 ?_
  refine lv_iconst (v := 0) hx hb dX3_build_4 (by decide) ?_
  refine xcallv (wr := (wB cI aB zB ++ ([(aM 0, .inr (3, [.ref (aM 1), .ref (aM 2), .ref (aM 3), .ref (aM 4), .int (zM 4 0), .int (zM 4 1)])), (aM 2, .inl (cI, 64, .inl (zM 1))), (aM 3, .inl (cI, 64, .inl (zM 2))), (aM 4, .inl (cI, 16, .inl (zM 3)))]))) (w2 := fun (u5 : (Nat → Int32)) => (wB cI aB zB ++ (wM cI aM (sr zM 0 u5)))) (va_runS (As := [.ref (aM 1), .int (0 : Int32)]) (rest := []) ⟨hx, hb, hml, hown, hts⟩ (mJ7_fill_53178 l D cI cO tA tS (aM 1) 5 (zM 0) (0 : Int32) _ h) (va_cwS 2 hts gX3_build_J7_fill_53178 rfl rfl rfl (by decide +kernel) ⟨Nat.le_of_ble_eq_true rfl, Nat.le_of_ble_eq_true rfl⟩) (xpreP hP hD hS hA hK hE [7] rfl rfl) rfl rfl hl.1 rfl (lv_room (Nat.le_of_ble_eq_true rfl)) dX3_build_5 ⟨Nat.le_refl 0, Nat.le_refl 0⟩) hP hD hS hA [7] [0, 1, 2, 3, 4, 5, 6, 8, 9, 10] [0, 1, 2, 3, 4, 5, 6, 10, 7, 8, 9] rfl rfl rfl (by decide) rfl (fun _ => rfl) (fun u5 H locs h hP hD hS => ?_)
  refine lv_aload_n hx hb dX3_build_8 rfl (lv_at hl 0 rfl) ?_
  refine va_get (D := D) (ci := 3) (v := .ref (aM 2)) (C := RX3) (T := TX3) (N := 6) hx hb hts jX3_build_X3 hown hK hP 6 rfl rfl 1 (by decide) (hts (.fieldLink RX3 15 "BrotherAutomata$RuleMasks" "byFirst" "[I") (List.mem_of_getElem? (i := 2) rfl)) (fun _ h9 => h9) rfl dX3_build_9 ?_
  refine lv_iconst (v := 0) hx hb dX3_build_12 (by decide) ?_
  refine xcallv (wr := (wB cI aB zB ++ ([(aM 0, .inr (3, [.ref (aM 1), .ref (aM 2), .ref (aM 3), .ref (aM 4), .int ((sr zM 0 u5) 4 0), .int ((sr zM 0 u5) 4 1)])), (aM 1, .inl (cI, 5, .inl ((sr zM 0 u5) 0))), (aM 3, .inl (cI, 64, .inl ((sr zM 0 u5) 2))), (aM 4, .inl (cI, 16, .inl ((sr zM 0 u5) 3)))]))) (w2 := fun (u13 : (Nat → Int32)) => (wB cI aB zB ++ (wM cI aM (sr (sr zM 0 u5) 1 u13)))) (va_runS (As := [.ref (aM 2), .int (0 : Int32)]) (rest := []) ⟨hx, hb, hml, hown, hts⟩ (mJ7_fill_53178 l D cI cO tA tS (aM 2) 64 ((sr zM 0 u5) 1) (0 : Int32) _ h) (va_cwS 2 hts gX3_build_J7_fill_53178 rfl rfl rfl (by decide +kernel) ⟨Nat.le_of_ble_eq_true rfl, Nat.le_of_ble_eq_true rfl⟩) (xpreP hP hD hS hA hK hE [8] rfl rfl) rfl rfl hl.1 rfl (lv_room (Nat.le_of_ble_eq_true rfl)) dX3_build_13 ⟨Nat.le_refl 0, Nat.le_refl 0⟩) hP hD hS hA [8] [0, 1, 2, 3, 4, 5, 6, 7, 9, 10] [0, 1, 2, 3, 4, 5, 6, 7, 10, 8, 9] rfl rfl rfl (by decide) rfl (fun _ => rfl) (fun u13 H locs h hP hD hS => ?_)
  refine lv_aload_n hx hb dX3_build_16 rfl (lv_at hl 0 rfl) ?_
  refine va_get (D := D) (ci := 3) (v := .ref (aM 3)) (C := RX3) (T := TX3) (N := 6) hx hb hts jX3_build_X3 hown hK hP 6 rfl rfl 2 (by decide) (hts (.fieldLink RX3 18 "BrotherAutomata$RuleMasks" "bySecond" "[I") (List.mem_of_getElem? (i := 3) rfl)) (fun _ h9 => h9) rfl dX3_build_17 ?_
  refine lv_iconst (v := 0) hx hb dX3_build_20 (by decide) ?_
  refine xcallv (wr := (wB cI aB zB ++ ([(aM 0, .inr (3, [.ref (aM 1), .ref (aM 2), .ref (aM 3), .ref (aM 4), .int ((sr (sr zM 0 u5) 1 u13) 4 0), .int ((sr (sr zM 0 u5) 1 u13) 4 1)])), (aM 1, .inl (cI, 5, .inl ((sr (sr zM 0 u5) 1 u13) 0))), (aM 2, .inl (cI, 64, .inl ((sr (sr zM 0 u5) 1 u13) 1))), (aM 4, .inl (cI, 16, .inl ((sr (sr zM 0 u5) 1 u13) 3)))]))) (w2 := fun (u21 : (Nat → Int32)) => (wB cI aB zB ++ (wM cI aM (sr (sr (sr zM 0 u5) 1 u13) 2 u21)))) (va_runS (As := [.ref (aM 3), .int (0 : Int32)]) (rest := []) ⟨hx, hb, hml, hown, hts⟩ (mJ7_fill_53178 l D cI cO tA tS (aM 3) 64 ((sr (sr zM 0 u5) 1 u13) 2) (0 : Int32) _ h) (va_cwS 2 hts gX3_build_J7_fill_53178 rfl rfl rfl (by decide +kernel) ⟨Nat.le_of_ble_eq_true rfl, Nat.le_of_ble_eq_true rfl⟩) (xpreP hP hD hS hA hK hE [9] rfl rfl) rfl rfl hl.1 rfl (lv_room (Nat.le_of_ble_eq_true rfl)) dX3_build_21 ⟨Nat.le_refl 0, Nat.le_refl 0⟩) hP hD hS hA [9] [0, 1, 2, 3, 4, 5, 6, 7, 8, 10] [0, 1, 2, 3, 4, 5, 6, 7, 8, 10, 9] rfl rfl rfl (by decide) rfl (fun _ => rfl) (fun u21 H locs h hP hD hS => ?_)
  refine lv_aload_n hx hb dX3_build_24 rfl (lv_at hl 0 rfl) ?_
  refine lv_iconst (v := 0) hx hb dX3_build_25 (by decide) ?_
  refine va_put (D := D) (ci := 3) (v := .int (0 : Int32)) (ty := .int) (C := RX3) (T := TX3) (N := 6) hx hb hts jX3_build_X3 tyX3 tyX3_ok nmX3 hown hK hP hD hS 6 rfl rfl 4 (by decide) (hts (.fieldLink RX3 24 "BrotherAutomata$RuleMasks" "whenEqual" "I") (List.mem_of_getElem? (i := 4) rfl)) (fun _ h9 => h9) rfl (by decide +kernel) rfl rfl (Nat.le_of_ble_eq_true rfl) dX3_build_26 (fun H locs hP hD hS => ?_)
  have hP : va_P D vwCl (wB cI aB zB ++ (wM cI aM (st (sr (sr (sr zM 0 u5) 1 u13) 2 u21) 4 0 (0 : Int32)))) H := hP
  have hD : va_D A (wB cI aB zB ++ (wM cI aM (st (sr (sr (sr zM 0 u5) 1 u13) 2 u21) 4 0 (0 : Int32)))) := hD
  refine lv_aload_n hx hb dX3_build_29 rfl (lv_at hl 0 rfl) ?_
  refine lv_iconst (v := 0) hx hb dX3_build_30 (by decide) ?_
  refine va_put (D := D) (ci := 3) (v := .int (0 : Int32)) (ty := .int) (C := RX3) (T := TX3) (N := 6) hx hb hts jX3_build_X3 tyX3 tyX3_ok nmX3 hown hK hP hD hS 6 rfl rfl 5 (by decide) (hts (.fieldLink RX3 28 "BrotherAutomata$RuleMasks" "whenDifferent" "I") (List.mem_of_getElem? (i := 5) rfl)) (fun _ h9 => h9) rfl (by decide +kernel) rfl rfl (Nat.le_of_ble_eq_true rfl) dX3_build_31 (fun H locs hP hD hS => ?_)
  have hP : va_P D vwCl (wB cI aB zB ++ (wM cI aM (st (st (sr (sr (sr zM 0 u5) 1 u13) 2 u21) 4 0 (0 : Int32)) 4 1 (0 : Int32)))) H := hP
  have hD : va_D A (wB cI aB zB ++ (wM cI aM (st (st (sr (sr (sr zM 0 u5) 1 u13) 2 u21) 4 0 (0 : Int32)) 4 1 (0 : Int32)))) := hD
  refine lv_iconst (v := 0) hx hb dX3_build_34 (by decide) ?_
  refine lv_istore_n (lv' := [(2, .int (0 : Int32)), (0, .ref (aM 0)), (1, .ref (aB 0))]) hx hb dX3_build_35 rfl hl (by decide) rfl (fun ls hl => ?_)
  obtain ⟨n0, h⟩ := h
  exact g36 n0 (0 : Int32) (st (st (sr (sr (sr zM 0 u5) 1 u13) 2 u21) 4 0 (0 : Int32)) 4 1 (0 : Int32)) _ _ _ h hP hD hS hl
