theorem dX0_isReached_0 : decode cX0_isReached 0 = .ok (.aload_n 0, 1) := by decide +kernel
theorem dX0_isReached_1 : decode cX0_isReached 1 = .ok (.getfield 9, 3) := by decide +kernel
theorem dX0_isReached_4 : decode cX0_isReached 4 = .ok (.iload_n 1, 1) := by decide +kernel
theorem dX0_isReached_5 : decode cX0_isReached 5 = .ok (.iaload, 1) := by decide +kernel
theorem dX0_isReached_6 : decode cX0_isReached 6 = .ok (.ifCond .le 7, 3) := by decide +kernel
theorem dX0_isReached_9 : decode cX0_isReached 9 = .ok (.iconst 1, 1) := by decide +kernel
theorem dX0_isReached_10 : decode cX0_isReached 10 = .ok (.goto 4, 3) := by decide +kernel
theorem dX0_isReached_13 : decode cX0_isReached 13 = .ok (.iconst 0, 1) := by decide +kernel
theorem dX0_isReached_14 : decode cX0_isReached 14 = .ok (.ireturn, 1) := by decide +kernel
theorem jX0_isReached_X0 : ∀ w ∈ wsX00, w ∈ wsX0_isReached := by decide +kernel
abbrev w_X0_isReached (cI cO : ClassId) (aZ : Nat → Nat) (zZ : CS) : (Unit) → va_W := fun u => (wZ cI aZ zZ)
set_option maxRecDepth 100000 in
set_option maxHeartbeats 8000000 in
theorem mX0_isReached (l : Launch) (D : va_G) (cI cO : ClassId) (tA tS : Nat) (aZ : Nat → Nat) (zZ : CS) (x1 : Int32) (sz : Nat) {post : Int32 → (Unit) → Prop} (h : qX0_isReached post x1 zZ) : Met l yX0_isReached wsX0_isReached ({ frames := 0, cells := 0, slots := 0, locals := 0 } : Room) (xPre D cI cO tA tS [.ref (aZ 0), .int x1] (wZ cI aZ zZ) sz) (va_Qi post (xB D cI cO (va_A (wZ cI aZ zZ) sz) (w_X0_isReached cI cO aZ zZ)) (va_A (wZ cI aZ zZ) sz)) 0 0 (va_A (wZ cI aZ zZ) sz) := by
  refine xMet D cI cO tA tS (fun A => va_Qi post (xB D cI cO A (w_X0_isReached cI cO aZ zZ)) A) (cc := cX0_isReached) (maxL := 2) (ret := (some .boolean)) (by decide) rfl (Nat.le_of_ble_eq_true rfl) ?_
  intro p e s m below meth c A ls hx hb hr hts hown hlocks hin hml hA hS hP hK hD hE hl
  have hown : s.vm.findClass RX0 = some m.cls := hown
  have hl : lv_has ls 2 [(0, .ref (aZ 0)), (1, .int x1)] := hl
  refine lv_aload_n hx hb dX0_isReached_0 rfl (lv_at hl 0 rfl) ?_
  refine va_get (D := D) (ci := 0) (v := .ref (aZ 1)) (C := RX0) (T := TX0) (N := 3) hx hb hts jX0_isReached_X0 hown hK hP 0 rfl rfl 0 (by decide) (hts (.fieldLink RX0 9 "BrotherAutomata$Census" "numbers" "[I") (List.mem_of_getElem? (i := 1) rfl)) (fun _ h9 => h9) rfl dX0_isReached_1 ?_
  refine lv_iload_n hx hb dX0_isReached_4 rfl (lv_at hl 1 rfl) ?_
  obtain ⟨hi, h⟩ := h
  refine va_iald hx hb hK hP 1 0 rfl rfl hi dX0_isReached_5 ?_
  obtain ⟨hh1, hh2⟩ := h
  refine lv_if_le (tgt := 13) hx hb dX0_isReached_6 (by decide) (fun hc => ?_) (fun hc => ?_)
  · have h := hh1 hc
    refine lv_iconst (v := 0) hx hb dX0_isReached_13 (by decide) ?_
    exact xzret (w := (w_X0_isReached cI cO aZ zZ)) () hx hb hr hlocks rfl h hP hK hD hS dX0_isReached_14
  · have h := hh2 hc
    refine lv_iconst (v := 1) hx hb dX0_isReached_9 (by decide) ?_
    refine lv_goto (tgt := 14) hx hb dX0_isReached_10 (by decide) ?_
    exact xzret (w := (w_X0_isReached cI cO aZ zZ)) () hx hb hr hlocks rfl h hP hK hD hS dX0_isReached_14
theorem dX0_raise_0 : decode cX0_raise 0 = .ok (.aload_n 0, 1) := by decide +kernel
theorem dX0_raise_1 : decode cX0_raise 1 = .ok (.getfield 9, 3) := by decide +kernel
theorem dX0_raise_4 : decode cX0_raise 4 = .ok (.iload_n 1, 1) := by decide +kernel
theorem dX0_raise_5 : decode cX0_raise 5 = .ok (.aload_n 0, 1) := by decide +kernel
theorem dX0_raise_6 : decode cX0_raise 6 = .ok (.getfield 9, 3) := by decide +kernel
theorem dX0_raise_9 : decode cX0_raise 9 = .ok (.iload_n 1, 1) := by decide +kernel
theorem dX0_raise_10 : decode cX0_raise 10 = .ok (.iaload, 1) := by decide +kernel
theorem dX0_raise_11 : decode cX0_raise 11 = .ok (.iload_n 2, 1) := by decide +kernel
theorem dX0_raise_12 : decode cX0_raise 12 = .ok (.iadd, 1) := by decide +kernel
theorem dX0_raise_13 : decode cX0_raise 13 = .ok (.iconst 2, 1) := by decide +kernel
theorem dX0_raise_14 : decode cX0_raise 14 = .ok (.invokestatic 62, 3) := by decide +kernel
theorem dX0_raise_17 : decode cX0_raise 17 = .ok (.iastore, 1) := by decide +kernel
theorem dX0_raise_18 : decode cX0_raise 18 = .ok (.return_, 1) := by decide +kernel
theorem jX0_raise_X0 : ∀ w ∈ wsX00, w ∈ wsX0_raise := by decide +kernel
abbrev w_X0_raise (cI cO : ClassId) (aZ : Nat → Nat)  : ((CS)) → va_W := fun u => (wZ cI aZ u)
set_option maxRecDepth 100000 in
set_option maxHeartbeats 8000000 in
theorem mX0_raise (l : Launch) (D : va_G) (cI cO : ClassId) (tA tS : Nat) (aZ : Nat → Nat) (zZ : CS) (x1 : Int32) (x2 : Int32) (sz : Nat) {post : ((CS)) → Prop} (h : qX0_raise post x1 x2 zZ) : Met l yX0_raise wsX0_raise ({ frames := 1, cells := 0, slots := 0, locals := 21 } : Room) (xPre D cI cO tA tS [.ref (aZ 0), .int x1, .int x2] (wZ cI aZ zZ) sz) (va_Qv post (xB D cI cO (va_A (wZ cI aZ zZ) sz) (w_X0_raise cI cO aZ)) (va_A (wZ cI aZ zZ) sz)) 0 0 (va_A (wZ cI aZ zZ) sz) := by
  refine xMet D cI cO tA tS (fun A => va_Qv post (xB D cI cO A (w_X0_raise cI cO aZ)) A) (cc := cX0_raise) (maxL := 3) (ret := none) (by decide) rfl (Nat.le_of_ble_eq_true rfl) ?_
  intro p e s m below meth c A ls hx hb hr hts hown hlocks hin hml hA hS hP hK hD hE hl
  have hown : s.vm.findClass RX0 = some m.cls := hown
  have hl : lv_has ls 3 [(0, .ref (aZ 0)), (1, .int x1), (2, .int x2)] := hl
  refine lv_aload_n hx hb dX0_raise_0 rfl (lv_at hl 0 rfl) ?_
  refine va_get (D := D) (ci := 0) (v := .ref (aZ 1)) (C := RX0) (T := TX0) (N := 3) hx hb hts jX0_raise_X0 hown hK hP 0 rfl rfl 0 (by decide) (hts (.fieldLink RX0 9 "BrotherAutomata$Census" "numbers" "[I") (List.mem_of_getElem? (i := 1) rfl)) (fun _ h9 => h9) rfl dX0_raise_1 ?_
  refine lv_iload_n hx hb dX0_raise_4 rfl (lv_at hl 1 rfl) ?_
  refine lv_aload_n hx hb dX0_raise_5 rfl (lv_at hl 0 rfl) ?_
  refine va_get (D := D) (ci := 0) (v := .ref (aZ 1)) (C := RX0) (T := TX0) (N := 3) hx hb hts jX0_raise_X0 hown hK hP 0 rfl rfl 0 (by decide) (hts (.fieldLink RX0 9 "BrotherAutomata$Census" "numbers" "[I") (List.mem_of_getElem? (i := 1) rfl)) (fun _ h9 => h9) rfl dX0_raise_6 ?_
  refine lv_iload_n hx hb dX0_raise_9 rfl (lv_at hl 1 rfl) ?_
  obtain ⟨hi, h⟩ := h
  refine va_iald hx hb hK hP 1 0 rfl rfl hi dX0_raise_10 ?_
  refine lv_iload_n hx hb dX0_raise_11 rfl (lv_at hl 2 rfl) ?_
  refine lv_iadd hx hb dX0_raise_12 ?_
  refine lv_iconst (v := 2) hx hb dX0_raise_13 (by decide) ?_
  refine va_mmin hx hb (hml.trans hl.1.symm) hown (hts (.methodLink RX0 62 Lib.Math.min.name) (List.mem_of_getElem? (i := 2) rfl)) (hts (.static Lib.Math.min.name) (List.mem_of_getElem? (i := 3) rfl)) (hts (.initialized "java/lang/Math") (List.mem_of_getElem? (i := 4) rfl)) (hts (.code Lib.Math.min.name Lib.Math.min.code 2 (some .int)) (List.mem_of_getElem? (i := 5) rfl)) (Nat.le_of_ble_eq_true rfl) (Nat.le_of_ble_eq_true rfl) (Nat.zero_le _) (Nat.zero_le _) dX0_raise_14 ?_
  obtain ⟨hi, h⟩ := h
  refine va_iast hx hb hK hP hD hS 1 0 rfl rfl hi dX0_raise_17 (fun H locs hP hD hS => ?_)
  have hP : va_P D vwCl (wZ cI aZ (st zZ 0 x1.toNatClampNeg (if (2 : Int32) < (((zZ 0) x1.toNatClampNeg) + x2) then (2 : Int32) else (((zZ 0) x1.toNatClampNeg) + x2)))) H := hP
  have hD : va_D A (wZ cI aZ (st zZ 0 x1.toNatClampNeg (if (2 : Int32) < (((zZ 0) x1.toNatClampNeg) + x2) then (2 : Int32) else (((zZ 0) x1.toNatClampNeg) + x2)))) := hD
  exact xvret (w := (w_X0_raise cI cO aZ)) (st zZ 0 x1.toNatClampNeg (if (2 : Int32) < (((zZ 0) x1.toNatClampNeg) + x2) then (2 : Int32) else (((zZ 0) x1.toNatClampNeg) + x2))) hx hb hr hlocks h hP hK hD hS dX0_raise_18
set_option maxRecDepth 20000 in
theorem ggX0_countConstants_X3_step : GoodIn wsX0_countConstants wsX3_step := goodIn_r _ [5, 6, 7, 8, 9, 10, 11, 22, 23, 24, 25, 26, 27] (by decide +kernel) (by decide +kernel)
set_option maxRecDepth 20000 in
theorem gX0_countConstants_X3_step : GoodIn wsX0_countConstants (wsV RX0 48 RX3 yX3_step wsX3_step) := goodIn_app (goodIn_of _ (by decide +kernel)) ggX0_countConstants_X3_step
set_option maxRecDepth 20000 in
theorem ggX0_countConstants_X0_raise : GoodIn wsX0_countConstants wsX0_raise := goodIn_r _ [16, 17, 18, 19, 20, 21, 28, 29, 30] (by decide +kernel) (by decide +kernel)
set_option maxRecDepth 20000 in
theorem gX0_countConstants_X0_raise : GoodIn wsX0_countConstants (wsV RX0 54 RX0 yX0_raise wsX0_raise) := goodIn_app (goodIn_of _ (by decide +kernel)) ggX0_countConstants_X0_raise
theorem dX0_countConstants_0 : decode cX0_countConstants 0 = .ok (.iconst 0, 1) := by decide +kernel
theorem dX0_countConstants_1 : decode cX0_countConstants 1 = .ok (.istore_n 2, 1) := by decide +kernel
theorem dX0_countConstants_2 : decode cX0_countConstants 2 = .ok (.iload_n 2, 1) := by decide +kernel
theorem dX0_countConstants_3 : decode cX0_countConstants 3 = .ok (.iconst 2, 1) := by decide +kernel
theorem dX0_countConstants_4 : decode cX0_countConstants 4 = .ok (.if_icmp .ge 22, 3) := by decide +kernel
theorem dX0_countConstants_7 : decode cX0_countConstants 7 = .ok (.aload_n 0, 1) := by decide +kernel
theorem dX0_countConstants_8 : decode cX0_countConstants 8 = .ok (.aload_n 1, 1) := by decide +kernel
theorem dX0_countConstants_9 : decode cX0_countConstants 9 = .ok (.iload_n 2, 1) := by decide +kernel
theorem dX0_countConstants_10 : decode cX0_countConstants 10 = .ok (.iconst 0, 1) := by decide +kernel
theorem dX0_countConstants_11 : decode cX0_countConstants 11 = .ok (.iconst 0, 1) := by decide +kernel
theorem dX0_countConstants_12 : decode cX0_countConstants 12 = .ok (.iconst 1, 1) := by decide +kernel
theorem dX0_countConstants_13 : decode cX0_countConstants 13 = .ok (.invokevirtual 48, 3) := by decide +kernel
theorem dX0_countConstants_16 : decode cX0_countConstants 16 = .ok (.iconst 1, 1) := by decide +kernel
theorem dX0_countConstants_17 : decode cX0_countConstants 17 = .ok (.invokevirtual 54, 3) := by decide +kernel
theorem dX0_countConstants_20 : decode cX0_countConstants 20 = .ok (.iinc 2 1, 3) := by decide +kernel
theorem dX0_countConstants_23 : decode cX0_countConstants 23 = .ok (.goto (-21), 3) := by decide +kernel
theorem dX0_countConstants_26 : decode cX0_countConstants 26 = .ok (.return_, 1) := by decide +kernel
abbrev w_X0_countConstants (cI cO : ClassId) (aM : Nat → Nat) (aZ : Nat → Nat) (zM : CS) : ((CS)) → va_W := fun u => (wM cI aM zM ++ (wZ cI aZ u))
set_option maxRecDepth 100000 in
set_option maxHeartbeats 8000000 in
theorem mX0_countConstants (l : Launch) (D : va_G) (cI cO : ClassId) (tA tS : Nat) (aM : Nat → Nat) (aZ : Nat → Nat) (zM : CS) (zZ : CS)  (sz : Nat) {post : ((CS)) → Prop} (h : qX0_countConstants post zM zZ) : Met l yX0_countConstants wsX0_countConstants ({ frames := 2, cells := 0, slots := 0, locals := 43 } : Room) (xPre D cI cO tA tS [.ref (aZ 0), .ref (aM 0)] (wM cI aM zM ++ (wZ cI aZ zZ)) sz) (va_Qv post (xB D cI cO (va_A (wM cI aM zM ++ (wZ cI aZ zZ)) sz) (w_X0_countConstants cI cO aM aZ zM)) (va_A (wM cI aM zM ++ (wZ cI aZ zZ)) sz)) 0 0 (va_A (wM cI aM zM ++ (wZ cI aZ zZ)) sz) := by
  refine xMet D cI cO tA tS (fun A => va_Qv post (xB D cI cO A (w_X0_countConstants cI cO aM aZ zM)) A) (cc := cX0_countConstants) (maxL := 3) (ret := none) (by decide) rfl (Nat.le_of_ble_eq_true rfl) ?_
  intro p e s m below meth c A ls hx hb hr hts hown hlocks hin hml hA hS hP hK hD hE hl
  have hown : s.vm.findClass RX0 = some m.cls := hown
  have hl : lv_has ls 3 [(0, .ref (aZ 0)), (1, .ref (aM 0))] := hl
  have g2 : ∀ (n : Nat) (y2 : Int32) (zZ : CS) (H : Heap) (locs : List Loc) (ls : Array Slot), qX0_countConstants_2 post zM n y2 zZ → va_P D vwCl (wM cI aM zM ++ (wZ cI aZ zZ)) H → va_D A (wM cI aM zM ++ (wZ cI aZ zZ)) → va_S A s.heap H locs → lv_has ls 3 [(2, .int y2), (0, .ref (aZ 0)), (1, .ref (aM 0))] → W p l e ({ frames := 2, cells := 0, slots := 0, locals := 43 } : Room) s m ([.ref (aZ 0), .ref (aM 0)] : List Value).toArray below meth c H locs 0 0 (MQ below (va_Qv post (xB D cI cO A (w_X0_countConstants cI cO aM aZ zM)) A) ([.ref (aZ 0), .ref (aM 0)] : List Value).toArray s 0 0 A) (F0 m 2 ls []) := by
    intro n
    induction n with
    | zero => intro y2 zZ H locs ls h; exact False.elim h
    | succ n hk2 =>
      intro y2 zZ H locs ls h hP hD hS hl
      have h : qX0_countConstants_2b post zM (qX0_countConstants_2 post zM n) y2 zZ := h
      refine lv_iload_n hx hb dX0_countConstants_2 rfl (lv_at hl 0 rfl) ?_
      refine lv_iconst (v := 2) hx hb dX0_countConstants_3 (by decide) ?_
      obtain ⟨hh1, hh2⟩ := h
      refine lv_icmp_ge (tgt := 26) hx hb dX0_countConstants_4 (by decide) (fun hc => ?_) (fun hc => ?_)
      · have h := hh1 hc
        exact xvret (w := (w_X0_countConstants cI cO aM aZ zM)) (zZ) hx hb hr hlocks h hP hK hD hS dX0_countConstants_26
      · have h := hh2 hc
        refine lv_aload_n hx hb dX0_countConstants_7 rfl (lv_at hl 1 rfl) ?_
        refine lv_aload_n hx hb dX0_countConstants_8 rfl (lv_at hl 2 rfl) ?_
        refine lv_iload_n hx hb dX0_countConstants_9 rfl (lv_at hl 0 rfl) ?_
        refine lv_iconst (v := 0) hx hb dX0_countConstants_10 (by decide) ?_
        refine lv_iconst (v := 0) hx hb dX0_countConstants_11 (by decide) ?_
        refine lv_iconst (v := 1) hx hb dX0_countConstants_12 (by decide) ?_
        refine xcalli (wr := (wZ cI aZ zZ)) (w2 := fun (u13 : Unit) => (wM cI aM zM ++ (wZ cI aZ zZ))) (va_runV (As := [.int y2, .int (0 : Int32), .int (0 : Int32), .int (1 : Int32)]) (rest := [.ref (aZ 0)]) ⟨hx, hb, hml, hown, hts⟩ (mX3_step l D cI cO tA tS aM zM y2 (0 : Int32) (0 : Int32) (1 : Int32) _ h) (cwV 4 hts gX0_countConstants_X3_step rfl rfl rfl (by decide +kernel) ⟨Nat.le_of_ble_eq_true rfl, Nat.le_of_ble_eq_true rfl⟩) (xpreV hP hD hS hA hK hE [0, 1, 2, 3, 4] rfl rfl 3 0 rfl rfl) rfl rfl hl.1 rfl (lv_room (Nat.le_of_ble_eq_true rfl)) dX0_countConstants_13 ⟨Nat.le_refl 0, Nat.le_refl 0⟩) hP hD hS hA [0, 1, 2, 3, 4] [5, 6, 7, 8] [4, 5, 6, 7, 8, 0, 1, 2, 3] rfl rfl rfl (by decide) rfl (fun _ => rfl) (fun r13 u13 H locs h hP hD hS => ?_)
        refine lv_iconst (v := 1) hx hb dX0_countConstants_16 (by decide) ?_
        refine xcallv (wr := (wM cI aM zM)) (w2 := fun (u17 : (CS)) => (wM cI aM zM ++ (wZ cI aZ u17))) (va_runV (As := [.int r13, .int (1 : Int32)]) (rest := []) ⟨hx, hb, hml, hown, hts⟩ (mX0_raise l D cI cO tA tS aZ zZ r13 (1 : Int32) _ h) (cwV 2 hts gX0_countConstants_X0_raise rfl rfl rfl (by decide +kernel) ⟨Nat.le_of_ble_eq_true rfl, Nat.le_of_ble_eq_true rfl⟩) (xpreV hP hD hS hA hK hE [5, 6, 7, 8] rfl rfl 0 5 rfl rfl) rfl rfl hl.1 rfl (lv_room (Nat.le_of_ble_eq_true rfl)) dX0_countConstants_17 ⟨Nat.le_refl 0, Nat.le_refl 0⟩) hP hD hS hA [5, 6, 7, 8] [0, 1, 2, 3, 4] [0, 1, 2, 3, 4, 5, 6, 7, 8] rfl rfl rfl (by decide) rfl (fun _ => rfl) (fun u17 H locs h hP hD hS => ?_)
        refine lv_iinc (v := (y2 + (1 : Int32))) (lv' := [(2, .int (y2 + (1 : Int32))), (0, .ref (aZ 0)), (1, .ref (aM 0))]) hx hb dX0_countConstants_20 hl (k := 0) rfl rfl (by decide) rfl (fun ls hl => ?_)
        refine lv_goto (tgt := 2) hx hb dX0_countConstants_23 (by decide) ?_
        exact hk2 (y2 + (1 : Int32)) u17 _ _ _ h hP hD hS hl
  refine lv_iconst (v := 0) hx hb dX0_countConstants_0 (by decide) ?_
  refine lv_istore_n (lv' := [(2, .int (0 : Int32)), (0, .ref (aZ 0)), (1, .ref (aM 0))]) hx hb dX0_countConstants_1 rfl hl (by decide) rfl (fun ls hl => ?_)
  obtain ⟨n0, h⟩ := h
  exact g2 n0 (0 : Int32) zZ _ _ _ h hP hD hS hl
set_option maxRecDepth 20000 in
theorem ggX0_countUnary_X3_step : GoodIn wsX0_countUnary wsX3_step := goodIn_r _ [6, 7, 8, 9, 10, 11, 12, 26, 27, 28, 29, 30, 31] (by decide +kernel) (by decide +kernel)
set_option maxRecDepth 20000 in
theorem gX0_countUnary_X3_step : GoodIn wsX0_countUnary (wsV RX0 48 RX3 yX3_step wsX3_step) := goodIn_app (goodIn_of _ (by decide +kernel)) ggX0_countUnary_X3_step
set_option maxRecDepth 20000 in
theorem ggX0_countUnary_X0_raise : GoodIn wsX0_countUnary wsX0_raise := goodIn_r _ [17, 18, 19, 20, 21, 22, 23, 24, 25] (by decide +kernel) (by decide +kernel)
set_option maxRecDepth 20000 in
theorem gX0_countUnary_X0_raise : GoodIn wsX0_countUnary (wsV RX0 54 RX0 yX0_raise wsX0_raise) := goodIn_app (goodIn_of _ (by decide +kernel)) ggX0_countUnary_X0_raise
theorem dX0_countUnary_0 : decode cX0_countUnary 0 = .ok (.iconst 0, 1) := by decide +kernel
theorem dX0_countUnary_1 : decode cX0_countUnary 1 = .ok (.istore_n 3, 1) := by decide +kernel
theorem dX0_countUnary_2 : decode cX0_countUnary 2 = .ok (.iload_n 3, 1) := by decide +kernel
theorem dX0_countUnary_3 : decode cX0_countUnary 3 = .ok (.iload_n 2, 1) := by decide +kernel
theorem dX0_countUnary_4 : decode cX0_countUnary 4 = .ok (.if_icmp .ge 36, 3) := by decide +kernel
theorem dX0_countUnary_7 : decode cX0_countUnary 7 = .ok (.aload_n 0, 1) := by decide +kernel
theorem dX0_countUnary_8 : decode cX0_countUnary 8 = .ok (.getfield 15, 3) := by decide +kernel
theorem dX0_countUnary_11 : decode cX0_countUnary 11 = .ok (.iload_n 3, 1) := by decide +kernel
theorem dX0_countUnary_12 : decode cX0_countUnary 12 = .ok (.iaload, 1) := by decide +kernel
theorem dX0_countUnary_13 : decode cX0_countUnary 13 = .ok (.ifCond .le 21, 3) := by decide +kernel
theorem dX0_countUnary_16 : decode cX0_countUnary 16 = .ok (.aload_n 0, 1) := by decide +kernel
theorem dX0_countUnary_17 : decode cX0_countUnary 17 = .ok (.aload_n 1, 1) := by decide +kernel
theorem dX0_countUnary_18 : decode cX0_countUnary 18 = .ok (.iconst 2, 1) := by decide +kernel
theorem dX0_countUnary_19 : decode cX0_countUnary 19 = .ok (.iload_n 3, 1) := by decide +kernel
theorem dX0_countUnary_20 : decode cX0_countUnary 20 = .ok (.iconst 0, 1) := by decide +kernel
theorem dX0_countUnary_21 : decode cX0_countUnary 21 = .ok (.iconst 1, 1) := by decide +kernel
theorem dX0_countUnary_22 : decode cX0_countUnary 22 = .ok (.invokevirtual 48, 3) := by decide +kernel
theorem dX0_countUnary_25 : decode cX0_countUnary 25 = .ok (.aload_n 0, 1) := by decide +kernel
theorem dX0_countUnary_26 : decode cX0_countUnary 26 = .ok (.getfield 15, 3) := by decide +kernel
theorem dX0_countUnary_29 : decode cX0_countUnary 29 = .ok (.iload_n 3, 1) := by decide +kernel
theorem dX0_countUnary_30 : decode cX0_countUnary 30 = .ok (.iaload, 1) := by decide +kernel
theorem dX0_countUnary_31 : decode cX0_countUnary 31 = .ok (.invokevirtual 54, 3) := by decide +kernel
theorem dX0_countUnary_34 : decode cX0_countUnary 34 = .ok (.iinc 3 1, 3) := by decide +kernel
theorem dX0_countUnary_37 : decode cX0_countUnary 37 = .ok (.goto (-35), 3) := by decide +kernel
theorem dX0_countUnary_40 : decode cX0_countUnary 40 = .ok (.return_, 1) := by decide +kernel
theorem jX0_countUnary_X0 : ∀ w ∈ wsX00, w ∈ wsX0_countUnary := by decide +kernel
abbrev w_X0_countUnary (cI cO : ClassId) (aM : Nat → Nat) (aZ : Nat → Nat) (zM : CS) : ((CS)) → va_W := fun u => (wM cI aM zM ++ (wZ cI aZ u))
set_option maxRecDepth 100000 in
set_option maxHeartbeats 8000000 in
theorem mX0_countUnary (l : Launch) (D : va_G) (cI cO : ClassId) (tA tS : Nat) (aM : Nat → Nat) (aZ : Nat → Nat) (zM : CS) (zZ : CS) (x2 : Int32) (sz : Nat) {post : ((CS)) → Prop} (h : qX0_countUnary post x2 zM zZ) : Met l yX0_countUnary wsX0_countUnary ({ frames := 2, cells := 0, slots := 0, locals := 43 } : Room) (xPre D cI cO tA tS [.ref (aZ 0), .ref (aM 0), .int x2] (wM cI aM zM ++ (wZ cI aZ zZ)) sz) (va_Qv post (xB D cI cO (va_A (wM cI aM zM ++ (wZ cI aZ zZ)) sz) (w_X0_countUnary cI cO aM aZ zM)) (va_A (wM cI aM zM ++ (wZ cI aZ zZ)) sz)) 0 0 (va_A (wM cI aM zM ++ (wZ cI aZ zZ)) sz) := by
  refine xMet D cI cO tA tS (fun A => va_Qv post (xB D cI cO A (w_X0_countUnary cI cO aM aZ zM)) A) (cc := cX0_countUnary) (maxL := 4) (ret := none) (by decide) rfl (Nat.le_of_ble_eq_true rfl) ?_
  intro p e s m below meth c A ls hx hb hr hts hown hlocks hin hml hA hS hP hK hD hE hl
  have hown : s.vm.findClass RX0 = some m.cls := hown
  have hl : lv_has ls 4 [(0, .ref (aZ 0)), (1, .ref (aM 0)), (2, .int x2)] := hl
  have g34 : ∀ (k2 : (Int32) → (CS) → Prop), (∀ (y3 : Int32) (zZ : CS) (H : Heap) (locs : List Loc) (ls : Array Slot), k2 y3 zZ → va_P D vwCl (wM cI aM zM ++ (wZ cI aZ zZ)) H → va_D A (wM cI aM zM ++ (wZ cI aZ zZ)) → va_S A s.heap H locs → lv_has ls 4 [(3, .int y3), (0, .ref (aZ 0)), (1, .ref (aM 0)), (2, .int x2)] → W p l e ({ frames := 2, cells := 0, slots := 0, locals := 43 } : Room) s m ([.ref (aZ 0), .ref (aM 0), .int x2] : List Value).toArray below meth c H locs 0 0 (MQ below (va_Qv post (xB D cI cO A (w_X0_countUnary cI cO aM aZ zM)) A) ([.ref (aZ 0), .ref (aM 0), .int x2] : List Value).toArray s 0 0 A) (F0 m 2 ls [])) → ∀ (y3 : Int32) (zZ : CS) (H : Heap) (locs : List Loc) (ls : Array Slot), qX0_countUnary_34 post x2 zM k2 y3 zZ → va_P D vwCl (wM cI aM zM ++ (wZ cI aZ zZ)) H → va_D A (wM cI aM zM ++ (wZ cI aZ zZ)) → va_S A s.heap H locs → lv_has ls 4 [(3, .int y3), (0, .ref (aZ 0)), (1, .ref (aM 0)), (2, .int x2)] → W p l e ({ frames := 2, cells := 0, slots := 0, locals := 43 } : Room) s m ([.ref (aZ 0), .ref (aM 0), .int x2] : List Value).toArray below meth c H locs 0 0 (MQ below (va_Qv post (xB D cI cO A (w_X0_countUnary cI cO aM aZ zM)) A) ([.ref (aZ 0), .ref (aM 0), .int x2] : List Value).toArray s 0 0 A) (F0 m 34 ls []) := by
    intro k2 hk2 y3 zZ H locs ls h hP hD hS hl
    refine lv_iinc (v := (y3 + (1 : Int32))) (lv' := [(3, .int (y3 + (1 : Int32))), (0, .ref (aZ 0)), (1, .ref (aM 0)), (2, .int x2)]) hx hb dX0_countUnary_34 hl (k := 0) rfl rfl (by decide) rfl (fun ls hl => ?_)
    refine lv_goto (tgt := 2) hx hb dX0_countUnary_37 (by decide) ?_
    exact hk2 (y3 + (1 : Int32)) zZ _ _ _ h hP hD hS hl
  have g2 : ∀ (n : Nat) (y3 : Int32) (zZ : CS) (H : Heap) (locs : List Loc) (ls : Array Slot), qX0_countUnary_2 post x2 zM n y3 zZ → va_P D vwCl (wM cI aM zM ++ (wZ cI aZ zZ)) H → va_D A (wM cI aM zM ++ (wZ cI aZ zZ)) → va_S A s.heap H locs → lv_has ls 4 [(3, .int y3), (0, .ref (aZ 0)), (1, .ref (aM 0)), (2, .int x2)] → W p l e ({ frames := 2, cells := 0, slots := 0, locals := 43 } : Room) s m ([.ref (aZ 0), .ref (aM 0), .int x2] : List Value).toArray below meth c H locs 0 0 (MQ below (va_Qv post (xB D cI cO A (w_X0_countUnary cI cO aM aZ zM)) A) ([.ref (aZ 0), .ref (aM 0), .int x2] : List Value).toArray s 0 0 A) (F0 m 2 ls []) := by
    intro n
    induction n with
    | zero => intro y3 zZ H locs ls h; exact False.elim h
    | succ n hk2 =>
      intro y3 zZ H locs ls h hP hD hS hl
      have h : qX0_countUnary_2b post x2 zM (qX0_countUnary_2 post x2 zM n) y3 zZ := h
      refine lv_iload_n hx hb dX0_countUnary_2 rfl (lv_at hl 0 rfl) ?_
      refine lv_iload_n hx hb dX0_countUnary_3 rfl (lv_at hl 3 rfl) ?_
      obtain ⟨hh1, hh2⟩ := h
      refine lv_icmp_ge (tgt := 40) hx hb dX0_countUnary_4 (by decide) (fun hc => ?_) (fun hc => ?_)
      · have h := hh1 hc
        exact xvret (w := (w_X0_countUnary cI cO aM aZ zM)) (zZ) hx hb hr hlocks h hP hK hD hS dX0_countUnary_40
      · have h := hh2 hc
        refine lv_aload_n hx hb dX0_countUnary_7 rfl (lv_at hl 1 rfl) ?_
        refine va_get (D := D) (ci := 0) (v := .ref (aZ 2)) (C := RX0) (T := TX0) (N := 3) hx hb hts jX0_countUnary_X0 hown hK hP 5 rfl rfl 1 (by decide) (hts (.fieldLink RX0 15 "BrotherAutomata$Census" "before" "[I") (List.mem_of_getElem? (i := 1) rfl)) (fun _ h9 => h9) rfl dX0_countUnary_8 ?_
        refine lv_iload_n hx hb dX0_countUnary_11 rfl (lv_at hl 0 rfl) ?_
        obtain ⟨hi, h⟩ := h
        refine va_iald hx hb hK hP 7 0 rfl rfl hi dX0_countUnary_12 ?_
        obtain ⟨hh1, hh2⟩ := h
        refine lv_if_le (tgt := 34) hx hb dX0_countUnary_13 (by decide) (fun hc => ?_) (fun hc => ?_)
        · have h := hh1 hc
          exact g34 (qX0_countUnary_2 post x2 zM n) hk2 y3 zZ _ _ _ h hP hD hS hl
        · have h := hh2 hc
          refine lv_aload_n hx hb dX0_countUnary_16 rfl (lv_at hl 1 rfl) ?_
          refine lv_aload_n hx hb dX0_countUnary_17 rfl (lv_at hl 2 rfl) ?_
          refine lv_iconst (v := 2) hx hb dX0_countUnary_18 (by decide) ?_
          refine lv_iload_n hx hb dX0_countUnary_19 rfl (lv_at hl 0 rfl) ?_
          refine lv_iconst (v := 0) hx hb dX0_countUnary_20 (by decide) ?_
          refine lv_iconst (v := 1) hx hb dX0_countUnary_21 (by decide) ?_
          refine xcalli (wr := (wZ cI aZ zZ)) (w2 := fun (u22 : Unit) => (wM cI aM zM ++ (wZ cI aZ zZ))) (va_runV (As := [.int (2 : Int32), .int y3, .int (0 : Int32), .int (1 : Int32)]) (rest := [.ref (aZ 0)]) ⟨hx, hb, hml, hown, hts⟩ (mX3_step l D cI cO tA tS aM zM (2 : Int32) y3 (0 : Int32) (1 : Int32) _ h) (cwV 4 hts gX0_countUnary_X3_step rfl rfl rfl (by decide +kernel) ⟨Nat.le_of_ble_eq_true rfl, Nat.le_of_ble_eq_true rfl⟩) (xpreV hP hD hS hA hK hE [0, 1, 2, 3, 4] rfl rfl 3 0 rfl rfl) rfl rfl hl.1 rfl (lv_room (Nat.le_of_ble_eq_true rfl)) dX0_countUnary_22 ⟨Nat.le_refl 0, Nat.le_refl 0⟩) hP hD hS hA [0, 1, 2, 3, 4] [5, 6, 7, 8] [4, 5, 6, 7, 8, 0, 1, 2, 3] rfl rfl rfl (by decide) rfl (fun _ => rfl) (fun r22 u22 H locs h hP hD hS => ?_)
          refine lv_aload_n hx hb dX0_countUnary_25 rfl (lv_at hl 1 rfl) ?_
          refine va_get (D := D) (ci := 0) (v := .ref (aZ 2)) (C := RX0) (T := TX0) (N := 3) hx hb hts jX0_countUnary_X0 hown hK hP 5 rfl rfl 1 (by decide) (hts (.fieldLink RX0 15 "BrotherAutomata$Census" "before" "[I") (List.mem_of_getElem? (i := 1) rfl)) (fun _ h9 => h9) rfl dX0_countUnary_26 ?_
          refine lv_iload_n hx hb dX0_countUnary_29 rfl (lv_at hl 0 rfl) ?_
          obtain ⟨hi, h⟩ := h
          refine va_iald hx hb hK hP 7 0 rfl rfl hi dX0_countUnary_30 ?_
          refine xcallv (wr := (wM cI aM zM)) (w2 := fun (u31 : (CS)) => (wM cI aM zM ++ (wZ cI aZ u31))) (va_runV (As := [.int r22, .int ((zZ 1) y3.toNatClampNeg)]) (rest := []) ⟨hx, hb, hml, hown, hts⟩ (mX0_raise l D cI cO tA tS aZ zZ r22 ((zZ 1) y3.toNatClampNeg) _ h) (cwV 2 hts gX0_countUnary_X0_raise rfl rfl rfl (by decide +kernel) ⟨Nat.le_of_ble_eq_true rfl, Nat.le_of_ble_eq_true rfl⟩) (xpreV hP hD hS hA hK hE [5, 6, 7, 8] rfl rfl 0 5 rfl rfl) rfl rfl hl.1 rfl (lv_room (Nat.le_of_ble_eq_true rfl)) dX0_countUnary_31 ⟨Nat.le_refl 0, Nat.le_refl 0⟩) hP hD hS hA [5, 6, 7, 8] [0, 1, 2, 3, 4] [0, 1, 2, 3, 4, 5, 6, 7, 8] rfl rfl rfl (by decide) rfl (fun _ => rfl) (fun u31 H locs h hP hD hS => ?_)
          exact g34 (qX0_countUnary_2 post x2 zM n) hk2 y3 u31 _ _ _ h hP hD hS hl
  refine lv_iconst (v := 0) hx hb dX0_countUnary_0 (by decide) ?_
  refine lv_istore_n (lv' := [(3, .int (0 : Int32)), (0, .ref (aZ 0)), (1, .ref (aM 0)), (2, .int x2)]) hx hb dX0_countUnary_1 rfl hl (by decide) rfl (fun ls hl => ?_)
  obtain ⟨n0, h⟩ := h
  exact g2 n0 (0 : Int32) zZ _ _ _ h hP hD hS hl
set_option maxRecDepth 20000 in
theorem ggX0_countPairs_X3_step : GoodIn wsX0_countPairs wsX3_step := goodIn_r _ [6, 7, 8, 9, 10, 11, 12, 26, 27, 28, 29, 30, 31] (by decide +kernel) (by decide +kernel)
set_option maxRecDepth 20000 in
theorem gX0_countPairs_X3_step : GoodIn wsX0_countPairs (wsV RX0 48 RX3 yX3_step wsX3_step) := goodIn_app (goodIn_of _ (by decide +kernel)) ggX0_countPairs_X3_step
set_option maxRecDepth 20000 in
theorem ggX0_countPairs_X0_raise : GoodIn wsX0_countPairs wsX0_raise := goodIn_r _ [17, 18, 19, 20, 21, 22, 23, 24, 25] (by decide +kernel) (by decide +kernel)
set_option maxRecDepth 20000 in
theorem gX0_countPairs_X0_raise : GoodIn wsX0_countPairs (wsV RX0 54 RX0 yX0_raise wsX0_raise) := goodIn_app (goodIn_of _ (by decide +kernel)) ggX0_countPairs_X0_raise
theorem dX0_countPairs_0 : decode cX0_countPairs 0 = .ok (.aload_n 0, 1) := by decide +kernel
theorem dX0_countPairs_1 : decode cX0_countPairs 1 = .ok (.getfield 15, 3) := by decide +kernel
theorem dX0_countPairs_4 : decode cX0_countPairs 4 = .ok (.iload_n 3, 1) := by decide +kernel
theorem dX0_countPairs_5 : decode cX0_countPairs 5 = .ok (.iaload, 1) := by decide +kernel
theorem dX0_countPairs_6 : decode cX0_countPairs 6 = .ok (.aload_n 0, 1) := by decide +kernel
theorem dX0_countPairs_7 : decode cX0_countPairs 7 = .ok (.getfield 15, 3) := by decide +kernel
theorem dX0_countPairs_10 : decode cX0_countPairs 10 = .ok (.iload 4, 2) := by decide +kernel
theorem dX0_countPairs_12 : decode cX0_countPairs 12 = .ok (.iaload, 1) := by decide +kernel
theorem dX0_countPairs_13 : decode cX0_countPairs 13 = .ok (.imul, 1) := by decide +kernel
theorem dX0_countPairs_14 : decode cX0_countPairs 14 = .ok (.istore 5, 2) := by decide +kernel
theorem dX0_countPairs_16 : decode cX0_countPairs 16 = .ok (.iload_n 3, 1) := by decide +kernel
theorem dX0_countPairs_17 : decode cX0_countPairs 17 = .ok (.iload 4, 2) := by decide +kernel
theorem dX0_countPairs_19 : decode cX0_countPairs 19 = .ok (.if_icmp .ne 33, 3) := by decide +kernel
theorem dX0_countPairs_22 : decode cX0_countPairs 22 = .ok (.aload_n 0, 1) := by decide +kernel
theorem dX0_countPairs_23 : decode cX0_countPairs 23 = .ok (.aload_n 1, 1) := by decide +kernel
theorem dX0_countPairs_24 : decode cX0_countPairs 24 = .ok (.iload_n 2, 1) := by decide +kernel
theorem dX0_countPairs_25 : decode cX0_countPairs 25 = .ok (.iload_n 3, 1) := by decide +kernel
theorem dX0_countPairs_26 : decode cX0_countPairs 26 = .ok (.iload 4, 2) := by decide +kernel
theorem dX0_countPairs_28 : decode cX0_countPairs 28 = .ok (.iconst 1, 1) := by decide +kernel
theorem dX0_countPairs_29 : decode cX0_countPairs 29 = .ok (.invokevirtual 48, 3) := by decide +kernel
theorem dX0_countPairs_32 : decode cX0_countPairs 32 = .ok (.aload_n 0, 1) := by decide +kernel
theorem dX0_countPairs_33 : decode cX0_countPairs 33 = .ok (.getfield 15, 3) := by decide +kernel
theorem dX0_countPairs_36 : decode cX0_countPairs 36 = .ok (.iload_n 3, 1) := by decide +kernel
theorem dX0_countPairs_37 : decode cX0_countPairs 37 = .ok (.iaload, 1) := by decide +kernel
theorem dX0_countPairs_38 : decode cX0_countPairs 38 = .ok (.invokevirtual 54, 3) := by decide +kernel
theorem dX0_countPairs_41 : decode cX0_countPairs 41 = .ok (.iload 5, 2) := by decide +kernel
theorem dX0_countPairs_43 : decode cX0_countPairs 43 = .ok (.aload_n 0, 1) := by decide +kernel
theorem dX0_countPairs_44 : decode cX0_countPairs 44 = .ok (.getfield 15, 3) := by decide +kernel
theorem dX0_countPairs_47 : decode cX0_countPairs 47 = .ok (.iload_n 3, 1) := by decide +kernel
theorem dX0_countPairs_48 : decode cX0_countPairs 48 = .ok (.iaload, 1) := by decide +kernel
theorem dX0_countPairs_49 : decode cX0_countPairs 49 = .ok (.isub, 1) := by decide +kernel
theorem dX0_countPairs_50 : decode cX0_countPairs 50 = .ok (.istore 5, 2) := by decide +kernel
theorem dX0_countPairs_52 : decode cX0_countPairs 52 = .ok (.iload 5, 2) := by decide +kernel
theorem dX0_countPairs_54 : decode cX0_countPairs 54 = .ok (.ifCond .le 18, 3) := by decide +kernel
theorem dX0_countPairs_57 : decode cX0_countPairs 57 = .ok (.aload_n 0, 1) := by decide +kernel
theorem dX0_countPairs_58 : decode cX0_countPairs 58 = .ok (.aload_n 1, 1) := by decide +kernel
theorem dX0_countPairs_59 : decode cX0_countPairs 59 = .ok (.iload_n 2, 1) := by decide +kernel
theorem dX0_countPairs_60 : decode cX0_countPairs 60 = .ok (.iload_n 3, 1) := by decide +kernel
theorem dX0_countPairs_61 : decode cX0_countPairs 61 = .ok (.iload 4, 2) := by decide +kernel
theorem dX0_countPairs_63 : decode cX0_countPairs 63 = .ok (.iconst 0, 1) := by decide +kernel
theorem dX0_countPairs_64 : decode cX0_countPairs 64 = .ok (.invokevirtual 48, 3) := by decide +kernel
theorem dX0_countPairs_67 : decode cX0_countPairs 67 = .ok (.iload 5, 2) := by decide +kernel
theorem dX0_countPairs_69 : decode cX0_countPairs 69 = .ok (.invokevirtual 54, 3) := by decide +kernel
theorem dX0_countPairs_72 : decode cX0_countPairs 72 = .ok (.return_, 1) := by decide +kernel
theorem jX0_countPairs_X0 : ∀ w ∈ wsX00, w ∈ wsX0_countPairs := by decide +kernel
abbrev w_X0_countPairs (cI cO : ClassId) (aM : Nat → Nat) (aZ : Nat → Nat) (zM : CS) : ((CS)) → va_W := fun u => (wM cI aM zM ++ (wZ cI aZ u))
set_option maxRecDepth 100000 in
set_option maxHeartbeats 8000000 in
theorem mX0_countPairs (l : Launch) (D : va_G) (cI cO : ClassId) (tA tS : Nat) (aM : Nat → Nat) (aZ : Nat → Nat) (zM : CS) (zZ : CS) (x2 : Int32) (x3 : Int32) (x4 : Int32) (sz : Nat) {post : ((CS)) → Prop} (h : qX0_countPairs post x2 x3 x4 zM zZ) : Met l yX0_countPairs wsX0_countPairs ({ frames := 2, cells := 0, slots := 0, locals := 43 } : Room) (xPre D cI cO tA tS [.ref (aZ 0), .ref (aM 0), .int x2, .int x3, .int x4] (wM cI aM zM ++ (wZ cI aZ zZ)) sz) (va_Qv post (xB D cI cO (va_A (wM cI aM zM ++ (wZ cI aZ zZ)) sz) (w_X0_countPairs cI cO aM aZ zM)) (va_A (wM cI aM zM ++ (wZ cI aZ zZ)) sz)) 0 0 (va_A (wM cI aM zM ++ (wZ cI aZ zZ)) sz) := by
  refine xMet D cI cO tA tS (fun A => va_Qv post (xB D cI cO A (w_X0_countPairs cI cO aM aZ zM)) A) (cc := cX0_countPairs) (maxL := 6) (ret := none) (by decide) rfl (Nat.le_of_ble_eq_true rfl) ?_
  intro p e s m below meth c A ls hx hb hr hts hown hlocks hin hml hA hS hP hK hD hE hl
  have hown : s.vm.findClass RX0 = some m.cls := hown
  have hl : lv_has ls 6 [(0, .ref (aZ 0)), (1, .ref (aM 0)), (2, .int x2), (3, .int x3), (4, .int x4)] := hl
  have g52 : ∀ (y5 : Int32) (zZ : CS) (H : Heap) (locs : List Loc) (ls : Array Slot), qX0_countPairs_52 post x2 x3 x4 zM y5 zZ → va_P D vwCl (wM cI aM zM ++ (wZ cI aZ zZ)) H → va_D A (wM cI aM zM ++ (wZ cI aZ zZ)) → va_S A s.heap H locs → lv_has ls 6 [(5, .int y5), (0, .ref (aZ 0)), (1, .ref (aM 0)), (2, .int x2), (3, .int x3), (4, .int x4)] → W p l e ({ frames := 2, cells := 0, slots := 0, locals := 43 } : Room) s m ([.ref (aZ 0), .ref (aM 0), .int x2, .int x3, .int x4] : List Value).toArray below meth c H locs 0 0 (MQ below (va_Qv post (xB D cI cO A (w_X0_countPairs cI cO aM aZ zM)) A) ([.ref (aZ 0), .ref (aM 0), .int x2, .int x3, .int x4] : List Value).toArray s 0 0 A) (F0 m 52 ls []) := by
    intro y5 zZ H locs ls h hP hD hS hl
    refine lv_iload hx hb dX0_countPairs_52 (lv_at hl 0 rfl) ?_
    obtain ⟨hh1, hh2⟩ := h
    refine lv_if_le (tgt := 72) hx hb dX0_countPairs_54 (by decide) (fun hc => ?_) (fun hc => ?_)
    · have h := hh1 hc
      exact xvret (w := (w_X0_countPairs cI cO aM aZ zM)) (zZ) hx hb hr hlocks h hP hK hD hS dX0_countPairs_72
    · have h := hh2 hc
      refine lv_aload_n hx hb dX0_countPairs_57 rfl (lv_at hl 1 rfl) ?_
      refine lv_aload_n hx hb dX0_countPairs_58 rfl (lv_at hl 2 rfl) ?_
      refine lv_iload_n hx hb dX0_countPairs_59 rfl (lv_at hl 3 rfl) ?_
      refine lv_iload_n hx hb dX0_countPairs_60 rfl (lv_at hl 4 rfl) ?_
      refine lv_iload hx hb dX0_countPairs_61 (lv_at hl 5 rfl) ?_
      refine lv_iconst (v := 0) hx hb dX0_countPairs_63 (by decide) ?_
      refine xcalli (wr := (wZ cI aZ zZ)) (w2 := fun (u64 : Unit) => (wM cI aM zM ++ (wZ cI aZ zZ))) (va_runV (As := [.int x2, .int x3, .int x4, .int (0 : Int32)]) (rest := [.ref (aZ 0)]) ⟨hx, hb, hml, hown, hts⟩ (mX3_step l D cI cO tA tS aM zM x2 x3 x4 (0 : Int32) _ h) (cwV 4 hts gX0_countPairs_X3_step rfl rfl rfl (by decide +kernel) ⟨Nat.le_of_ble_eq_true rfl, Nat.le_of_ble_eq_true rfl⟩) (xpreV hP hD hS hA hK hE [0, 1, 2, 3, 4] rfl rfl 3 0 rfl rfl) rfl rfl hl.1 rfl (lv_room (Nat.le_of_ble_eq_true rfl)) dX0_countPairs_64 ⟨Nat.le_refl 0, Nat.le_refl 0⟩) hP hD hS hA [0, 1, 2, 3, 4] [5, 6, 7, 8] [4, 5, 6, 7, 8, 0, 1, 2, 3] rfl rfl rfl (by decide) rfl (fun _ => rfl) (fun r64 u64 H locs h hP hD hS => ?_)
      refine lv_iload hx hb dX0_countPairs_67 (lv_at hl 0 rfl) ?_
      refine xcallv (wr := (wM cI aM zM)) (w2 := fun (u69 : (CS)) => (wM cI aM zM ++ (wZ cI aZ u69))) (va_runV (As := [.int r64, .int y5]) (rest := []) ⟨hx, hb, hml, hown, hts⟩ (mX0_raise l D cI cO tA tS aZ zZ r64 y5 _ h) (cwV 2 hts gX0_countPairs_X0_raise rfl rfl rfl (by decide +kernel) ⟨Nat.le_of_ble_eq_true rfl, Nat.le_of_ble_eq_true rfl⟩) (xpreV hP hD hS hA hK hE [5, 6, 7, 8] rfl rfl 0 5 rfl rfl) rfl rfl hl.1 rfl (lv_room (Nat.le_of_ble_eq_true rfl)) dX0_countPairs_69 ⟨Nat.le_refl 0, Nat.le_refl 0⟩) hP hD hS hA [5, 6, 7, 8] [0, 1, 2, 3, 4] [0, 1, 2, 3, 4, 5, 6, 7, 8] rfl rfl rfl (by decide) rfl (fun _ => rfl) (fun u69 H locs h hP hD hS => ?_)
      exact xvret (w := (w_X0_countPairs cI cO aM aZ zM)) (u69) hx hb hr hlocks h hP hK hD hS dX0_countPairs_72
  refine lv_aload_n hx hb dX0_countPairs_0 rfl (lv_at hl 0 rfl) ?_
  refine va_get (D := D) (ci := 0) (v := .ref (aZ 2)) (C := RX0) (T := TX0) (N := 3) hx hb hts jX0_countPairs_X0 hown hK hP 5 rfl rfl 1 (by decide) (hts (.fieldLink RX0 15 "BrotherAutomata$Census" "before" "[I") (List.mem_of_getElem? (i := 1) rfl)) (fun _ h9 => h9) rfl dX0_countPairs_1 ?_
  refine lv_iload_n hx hb dX0_countPairs_4 rfl (lv_at hl 3 rfl) ?_
  obtain ⟨hi, h⟩ := h
  refine va_iald hx hb hK hP 7 0 rfl rfl hi dX0_countPairs_5 ?_
  refine lv_aload_n hx hb dX0_countPairs_6 rfl (lv_at hl 0 rfl) ?_
  refine va_get (D := D) (ci := 0) (v := .ref (aZ 2)) (C := RX0) (T := TX0) (N := 3) hx hb hts jX0_countPairs_X0 hown hK hP 5 rfl rfl 1 (by decide) (hts (.fieldLink RX0 15 "BrotherAutomata$Census" "before" "[I") (List.mem_of_getElem? (i := 1) rfl)) (fun _ h9 => h9) rfl dX0_countPairs_7 ?_
  refine lv_iload hx hb dX0_countPairs_10 (lv_at hl 4 rfl) ?_
  obtain ⟨hi, h⟩ := h
  refine va_iald hx hb hK hP 7 0 rfl rfl hi dX0_countPairs_12 ?_
  refine lv_imul hx hb dX0_countPairs_13 ?_
  refine lv_istore (lv' := [(5, .int (((zZ 1) x3.toNatClampNeg) * ((zZ 1) x4.toNatClampNeg))), (0, .ref (aZ 0)), (1, .ref (aM 0)), (2, .int x2), (3, .int x3), (4, .int x4)]) hx hb dX0_countPairs_14 hl (by decide) rfl (fun ls hl => ?_)
  refine lv_iload_n hx hb dX0_countPairs_16 rfl (lv_at hl 4 rfl) ?_
  refine lv_iload hx hb dX0_countPairs_17 (lv_at hl 5 rfl) ?_
  obtain ⟨hh1, hh2⟩ := h
  refine lv_icmp_ne (tgt := 52) hx hb dX0_countPairs_19 (by decide) (fun hc => ?_) (fun hc => ?_)
  · have h := hh2 hc
    exact g52 (((zZ 1) x3.toNatClampNeg) * ((zZ 1) x4.toNatClampNeg)) zZ _ _ _ h hP hD hS hl
  · have h := hh1 hc
    refine lv_aload_n hx hb dX0_countPairs_22 rfl (lv_at hl 1 rfl) ?_
    refine lv_aload_n hx hb dX0_countPairs_23 rfl (lv_at hl 2 rfl) ?_
    refine lv_iload_n hx hb dX0_countPairs_24 rfl (lv_at hl 3 rfl) ?_
    refine lv_iload_n hx hb dX0_countPairs_25 rfl (lv_at hl 4 rfl) ?_
    refine lv_iload hx hb dX0_countPairs_26 (lv_at hl 5 rfl) ?_
    refine lv_iconst (v := 1) hx hb dX0_countPairs_28 (by decide) ?_
    refine xcalli (wr := (wZ cI aZ zZ)) (w2 := fun (u29 : Unit) => (wM cI aM zM ++ (wZ cI aZ zZ))) (va_runV (As := [.int x2, .int x3, .int x4, .int (1 : Int32)]) (rest := [.ref (aZ 0)]) ⟨hx, hb, hml, hown, hts⟩ (mX3_step l D cI cO tA tS aM zM x2 x3 x4 (1 : Int32) _ h) (cwV 4 hts gX0_countPairs_X3_step rfl rfl rfl (by decide +kernel) ⟨Nat.le_of_ble_eq_true rfl, Nat.le_of_ble_eq_true rfl⟩) (xpreV hP hD hS hA hK hE [0, 1, 2, 3, 4] rfl rfl 3 0 rfl rfl) rfl rfl hl.1 rfl (lv_room (Nat.le_of_ble_eq_true rfl)) dX0_countPairs_29 ⟨Nat.le_refl 0, Nat.le_refl 0⟩) hP hD hS hA [0, 1, 2, 3, 4] [5, 6, 7, 8] [4, 5, 6, 7, 8, 0, 1, 2, 3] rfl rfl rfl (by decide) rfl (fun _ => rfl) (fun r29 u29 H locs h hP hD hS => ?_)
    refine lv_aload_n hx hb dX0_countPairs_32 rfl (lv_at hl 1 rfl) ?_
    refine va_get (D := D) (ci := 0) (v := .ref (aZ 2)) (C := RX0) (T := TX0) (N := 3) hx hb hts jX0_countPairs_X0 hown hK hP 5 rfl rfl 1 (by decide) (hts (.fieldLink RX0 15 "BrotherAutomata$Census" "before" "[I") (List.mem_of_getElem? (i := 1) rfl)) (fun _ h9 => h9) rfl dX0_countPairs_33 ?_
    refine lv_iload_n hx hb dX0_countPairs_36 rfl (lv_at hl 4 rfl) ?_
    obtain ⟨hi, h⟩ := h
    refine va_iald hx hb hK hP 7 0 rfl rfl hi dX0_countPairs_37 ?_
    refine xcallv (wr := (wM cI aM zM)) (w2 := fun (u38 : (CS)) => (wM cI aM zM ++ (wZ cI aZ u38))) (va_runV (As := [.int r29, .int ((zZ 1) x3.toNatClampNeg)]) (rest := []) ⟨hx, hb, hml, hown, hts⟩ (mX0_raise l D cI cO tA tS aZ zZ r29 ((zZ 1) x3.toNatClampNeg) _ h) (cwV 2 hts gX0_countPairs_X0_raise rfl rfl rfl (by decide +kernel) ⟨Nat.le_of_ble_eq_true rfl, Nat.le_of_ble_eq_true rfl⟩) (xpreV hP hD hS hA hK hE [5, 6, 7, 8] rfl rfl 0 5 rfl rfl) rfl rfl hl.1 rfl (lv_room (Nat.le_of_ble_eq_true rfl)) dX0_countPairs_38 ⟨Nat.le_refl 0, Nat.le_refl 0⟩) hP hD hS hA [5, 6, 7, 8] [0, 1, 2, 3, 4] [0, 1, 2, 3, 4, 5, 6, 7, 8] rfl rfl rfl (by decide) rfl (fun _ => rfl) (fun u38 H locs h hP hD hS => ?_)
    refine lv_iload hx hb dX0_countPairs_41 (lv_at hl 0 rfl) ?_
    refine lv_aload_n hx hb dX0_countPairs_43 rfl (lv_at hl 1 rfl) ?_
    refine va_get (D := D) (ci := 0) (v := .ref (aZ 2)) (C := RX0) (T := TX0) (N := 3) hx hb hts jX0_countPairs_X0 hown hK hP 5 rfl rfl 1 (by decide) (hts (.fieldLink RX0 15 "BrotherAutomata$Census" "before" "[I") (List.mem_of_getElem? (i := 1) rfl)) (fun _ h9 => h9) rfl dX0_countPairs_44 ?_
    refine lv_iload_n hx hb dX0_countPairs_47 rfl (lv_at hl 4 rfl) ?_
    obtain ⟨hi, h⟩ := h
    refine va_iald hx hb hK hP 7 0 rfl rfl hi dX0_countPairs_48 ?_
    refine lv_isub hx hb dX0_countPairs_49 ?_
    refine lv_istore (lv' := [(5, .int ((((zZ 1) x3.toNatClampNeg) * ((zZ 1) x4.toNatClampNeg)) - ((u38 1) x3.toNatClampNeg))), (0, .ref (aZ 0)), (1, .ref (aM 0)), (2, .int x2), (3, .int x3), (4, .int x4)]) hx hb dX0_countPairs_50 hl (by decide) rfl (fun ls hl => ?_)
    exact g52 ((((zZ 1) x3.toNatClampNeg) * ((zZ 1) x4.toNatClampNeg)) - ((u38 1) x3.toNatClampNeg)) u38 _ _ _ h hP hD hS hl
set_option maxRecDepth 20000 in
theorem ggX0_countBinary_X0_countPairs : GoodIn wsX0_countBinary wsX0_countPairs := goodIn_r _ [6, 1, 7, 8, 9, 10, 11, 12, 13, 14, 15, 16, 17, 18, 19, 20, 5, 21, 22, 23, 24, 25, 26, 27, 28, 29, 30, 31, 32, 33, 34, 35] (by decide +kernel) (by decide +kernel)
set_option maxRecDepth 20000 in
theorem gX0_countBinary_X0_countPairs : GoodIn wsX0_countBinary (wsV RX0 58 RX0 yX0_countPairs wsX0_countPairs) := goodIn_app (goodIn_of _ (by decide +kernel)) ggX0_countBinary_X0_countPairs
theorem dX0_countBinary_0 : decode cX0_countBinary 0 = .ok (.iconst 0, 1) := by decide +kernel
theorem dX0_countBinary_1 : decode cX0_countBinary 1 = .ok (.istore_n 3, 1) := by decide +kernel
theorem dX0_countBinary_2 : decode cX0_countBinary 2 = .ok (.iload_n 3, 1) := by decide +kernel
theorem dX0_countBinary_3 : decode cX0_countBinary 3 = .ok (.iload_n 2, 1) := by decide +kernel
theorem dX0_countBinary_4 : decode cX0_countBinary 4 = .ok (.if_icmp .ge 61, 3) := by decide +kernel
theorem dX0_countBinary_7 : decode cX0_countBinary 7 = .ok (.iconst 0, 1) := by decide +kernel
theorem dX0_countBinary_8 : decode cX0_countBinary 8 = .ok (.istore 4, 2) := by decide +kernel
theorem dX0_countBinary_10 : decode cX0_countBinary 10 = .ok (.iload 4, 2) := by decide +kernel
theorem dX0_countBinary_12 : decode cX0_countBinary 12 = .ok (.iload_n 2, 1) := by decide +kernel
theorem dX0_countBinary_13 : decode cX0_countBinary 13 = .ok (.if_icmp .ge 46, 3) := by decide +kernel
theorem dX0_countBinary_16 : decode cX0_countBinary 16 = .ok (.aload_n 0, 1) := by decide +kernel
theorem dX0_countBinary_17 : decode cX0_countBinary 17 = .ok (.getfield 15, 3) := by decide +kernel
theorem dX0_countBinary_20 : decode cX0_countBinary 20 = .ok (.iload_n 3, 1) := by decide +kernel
theorem dX0_countBinary_21 : decode cX0_countBinary 21 = .ok (.iaload, 1) := by decide +kernel
theorem dX0_countBinary_22 : decode cX0_countBinary 22 = .ok (.ifCond .le 37, 3) := by decide +kernel
theorem dX0_countBinary_25 : decode cX0_countBinary 25 = .ok (.aload_n 0, 1) := by decide +kernel
theorem dX0_countBinary_26 : decode cX0_countBinary 26 = .ok (.getfield 15, 3) := by decide +kernel
theorem dX0_countBinary_29 : decode cX0_countBinary 29 = .ok (.iload 4, 2) := by decide +kernel
theorem dX0_countBinary_31 : decode cX0_countBinary 31 = .ok (.iaload, 1) := by decide +kernel
theorem dX0_countBinary_32 : decode cX0_countBinary 32 = .ok (.ifCond .le 21, 3) := by decide +kernel
theorem dX0_countBinary_35 : decode cX0_countBinary 35 = .ok (.aload_n 0, 1) := by decide +kernel
theorem dX0_countBinary_36 : decode cX0_countBinary 36 = .ok (.aload_n 1, 1) := by decide +kernel
theorem dX0_countBinary_37 : decode cX0_countBinary 37 = .ok (.iconst 3, 1) := by decide +kernel
theorem dX0_countBinary_38 : decode cX0_countBinary 38 = .ok (.iload_n 3, 1) := by decide +kernel
theorem dX0_countBinary_39 : decode cX0_countBinary 39 = .ok (.iload 4, 2) := by decide +kernel
theorem dX0_countBinary_41 : decode cX0_countBinary 41 = .ok (.invokevirtual 58, 3) := by decide +kernel
theorem dX0_countBinary_44 : decode cX0_countBinary 44 = .ok (.aload_n 0, 1) := by decide +kernel
theorem dX0_countBinary_45 : decode cX0_countBinary 45 = .ok (.aload_n 1, 1) := by decide +kernel
theorem dX0_countBinary_46 : decode cX0_countBinary 46 = .ok (.iconst 4, 1) := by decide +kernel
theorem dX0_countBinary_47 : decode cX0_countBinary 47 = .ok (.iload_n 3, 1) := by decide +kernel
theorem dX0_countBinary_48 : decode cX0_countBinary 48 = .ok (.iload 4, 2) := by decide +kernel
theorem dX0_countBinary_50 : decode cX0_countBinary 50 = .ok (.invokevirtual 58, 3) := by decide +kernel
theorem dX0_countBinary_53 : decode cX0_countBinary 53 = .ok (.iinc 4 1, 3) := by decide +kernel
theorem dX0_countBinary_56 : decode cX0_countBinary 56 = .ok (.goto (-46), 3) := by decide +kernel
theorem dX0_countBinary_59 : decode cX0_countBinary 59 = .ok (.iinc 3 1, 3) := by decide +kernel
theorem dX0_countBinary_62 : decode cX0_countBinary 62 = .ok (.goto (-60), 3) := by decide +kernel
theorem dX0_countBinary_65 : decode cX0_countBinary 65 = .ok (.return_, 1) := by decide +kernel
theorem jX0_countBinary_X0 : ∀ w ∈ wsX00, w ∈ wsX0_countBinary := by decide +kernel
abbrev w_X0_countBinary (cI cO : ClassId) (aM : Nat → Nat) (aZ : Nat → Nat) (zM : CS) : ((CS)) → va_W := fun u => (wM cI aM zM ++ (wZ cI aZ u))
set_option maxRecDepth 100000 in
set_option maxHeartbeats 8000000 in
theorem mX0_countBinary (l : Launch) (D : va_G) (cI cO : ClassId) (tA tS : Nat) (aM : Nat → Nat) (aZ : Nat → Nat) (zM : CS) (zZ : CS) (x2 : Int32) (sz : Nat) {post : ((CS)) → Prop} (h : qX0_countBinary post x2 zM zZ) : Met l yX0_countBinary wsX0_countBinary ({ frames := 3, cells := 0, slots := 0, locals := 68 } : Room) (xPre D cI cO tA tS [.ref (aZ 0), .ref (aM 0), .int x2] (wM cI aM zM ++ (wZ cI aZ zZ)) sz) (va_Qv post (xB D cI cO (va_A (wM cI aM zM ++ (wZ cI aZ zZ)) sz) (w_X0_countBinary cI cO aM aZ zM)) (va_A (wM cI aM zM ++ (wZ cI aZ zZ)) sz)) 0 0 (va_A (wM cI aM zM ++ (wZ cI aZ zZ)) sz) := by
  refine xMet D cI cO tA tS (fun A => va_Qv post (xB D cI cO A (w_X0_countBinary cI cO aM aZ zM)) A) (cc := cX0_countBinary) (maxL := 5) (ret := none) (by decide) rfl (Nat.le_of_ble_eq_true rfl) ?_
  intro p e s m below meth c A ls hx hb hr hts hown hlocks hin hml hA hS hP hK hD hE hl
  have hown : s.vm.findClass RX0 = some m.cls := hown
  have hl : lv_has ls 5 [(0, .ref (aZ 0)), (1, .ref (aM 0)), (2, .int x2)] := hl
  have g59 : ∀ (k2 : (Int32) → (CS) → Prop), (∀ (y3 : Int32) (zZ : CS) (H : Heap) (locs : List Loc) (ls : Array Slot), k2 y3 zZ → va_P D vwCl (wM cI aM zM ++ (wZ cI aZ zZ)) H → va_D A (wM cI aM zM ++ (wZ cI aZ zZ)) → va_S A s.heap H locs → lv_has ls 5 [(3, .int y3), (0, .ref (aZ 0)), (1, .ref (aM 0)), (2, .int x2)] → W p l e ({ frames := 3, cells := 0, slots := 0, locals := 68 } : Room) s m ([.ref (aZ 0), .ref (aM 0), .int x2] : List Value).toArray below meth c H locs 0 0 (MQ below (va_Qv post (xB D cI cO A (w_X0_countBinary cI cO aM aZ zM)) A) ([.ref (aZ 0), .ref (aM 0), .int x2] : List Value).toArray s 0 0 A) (F0 m 2 ls [])) → ∀ (y3 : Int32) (y4 : Int32) (zZ : CS) (H : Heap) (locs : List Loc) (ls : Array Slot), qX0_countBinary_59 post x2 zM k2 y3 y4 zZ → va_P D vwCl (wM cI aM zM ++ (wZ cI aZ zZ)) H → va_D A (wM cI aM zM ++ (wZ cI aZ zZ)) → va_S A s.heap H locs → lv_has ls 5 [(4, .int y4), (3, .int y3), (0, .ref (aZ 0)), (1, .ref (aM 0)), (2, .int x2)] → W p l e ({ frames := 3, cells := 0, slots := 0, locals := 68 } : Room) s m ([.ref (aZ 0), .ref (aM 0), .int x2] : List Value).toArray below meth c H locs 0 0 (MQ below (va_Qv post (xB D cI cO A (w_X0_countBinary cI cO aM aZ zM)) A) ([.ref (aZ 0), .ref (aM 0), .int x2] : List Value).toArray s 0 0 A) (F0 m 59 ls []) := by
    intro k2 hk2 y3 y4 zZ H locs ls h hP hD hS hl
    refine lv_iinc (v := (y3 + (1 : Int32))) (lv' := [(3, .int (y3 + (1 : Int32))), (4, .int y4), (0, .ref (aZ 0)), (1, .ref (aM 0)), (2, .int x2)]) hx hb dX0_countBinary_59 hl (k := 1) rfl rfl (by decide) rfl (fun ls hl => ?_)
    refine lv_goto (tgt := 2) hx hb dX0_countBinary_62 (by decide) ?_
    exact hk2 (y3 + (1 : Int32)) zZ _ _ _ h hP hD hS (lv_sub hl [0, 2, 3, 4] rfl)
  have g53 : ∀ (k2 : (Int32) → (CS) → Prop), (∀ (y3 : Int32) (zZ : CS) (H : Heap) (locs : List Loc) (ls : Array Slot), k2 y3 zZ → va_P D vwCl (wM cI aM zM ++ (wZ cI aZ zZ)) H → va_D A (wM cI aM zM ++ (wZ cI aZ zZ)) → va_S A s.heap H locs → lv_has ls 5 [(3, .int y3), (0, .ref (aZ 0)), (1, .ref (aM 0)), (2, .int x2)] → W p l e ({ frames := 3, cells := 0, slots := 0, locals := 68 } : Room) s m ([.ref (aZ 0), .ref (aM 0), .int x2] : List Value).toArray below meth c H locs 0 0 (MQ below (va_Qv post (xB D cI cO A (w_X0_countBinary cI cO aM aZ zM)) A) ([.ref (aZ 0), .ref (aM 0), .int x2] : List Value).toArray s 0 0 A) (F0 m 2 ls [])) → ∀ (k10 : (Int32) → (Int32) → (CS) → Prop), (∀ (y3 : Int32) (y4 : Int32) (zZ : CS) (H : Heap) (locs : List Loc) (ls : Array Slot), k10 y3 y4 zZ → va_P D vwCl (wM cI aM zM ++ (wZ cI aZ zZ)) H → va_D A (wM cI aM zM ++ (wZ cI aZ zZ)) → va_S A s.heap H locs → lv_has ls 5 [(4, .int y4), (3, .int y3), (0, .ref (aZ 0)), (1, .ref (aM 0)), (2, .int x2)] → W p l e ({ frames := 3, cells := 0, slots := 0, locals := 68 } : Room) s m ([.ref (aZ 0), .ref (aM 0), .int x2] : List Value).toArray below meth c H locs 0 0 (MQ below (va_Qv post (xB D cI cO A (w_X0_countBinary cI cO aM aZ zM)) A) ([.ref (aZ 0), .ref (aM 0), .int x2] : List Value).toArray s 0 0 A) (F0 m 10 ls [])) → ∀ (y3 : Int32) (y4 : Int32) (zZ : CS) (H : Heap) (locs : List Loc) (ls : Array Slot), qX0_countBinary_53 post x2 zM k2 k10 y3 y4 zZ → va_P D vwCl (wM cI aM zM ++ (wZ cI aZ zZ)) H → va_D A (wM cI aM zM ++ (wZ cI aZ zZ)) → va_S A s.heap H locs → lv_has ls 5 [(4, .int y4), (3, .int y3), (0, .ref (aZ 0)), (1, .ref (aM 0)), (2, .int x2)] → W p l e ({ frames := 3, cells := 0, slots := 0, locals := 68 } : Room) s m ([.ref (aZ 0), .ref (aM 0), .int x2] : List Value).toArray below meth c H locs 0 0 (MQ below (va_Qv post (xB D cI cO A (w_X0_countBinary cI cO aM aZ zM)) A) ([.ref (aZ 0), .ref (aM 0), .int x2] : List Value).toArray s 0 0 A) (F0 m 53 ls []) := by
    intro k2 hk2 k10 hk10 y3 y4 zZ H locs ls h hP hD hS hl
    refine lv_iinc (v := (y4 + (1 : Int32))) (lv' := [(4, .int (y4 + (1 : Int32))), (3, .int y3), (0, .ref (aZ 0)), (1, .ref (aM 0)), (2, .int x2)]) hx hb dX0_countBinary_53 hl (k := 0) rfl rfl (by decide) rfl (fun ls hl => ?_)
    refine lv_goto (tgt := 10) hx hb dX0_countBinary_56 (by decide) ?_
    exact hk10 y3 (y4 + (1 : Int32)) zZ _ _ _ h hP hD hS hl
  have g10 : ∀ (k2 : (Int32) → (CS) → Prop), (∀ (y3 : Int32) (zZ : CS) (H : Heap) (locs : List Loc) (ls : Array Slot), k2 y3 zZ → va_P D vwCl (wM cI aM zM ++ (wZ cI aZ zZ)) H → va_D A (wM cI aM zM ++ (wZ cI aZ zZ)) → va_S A s.heap H locs → lv_has ls 5 [(3, .int y3), (0, .ref (aZ 0)), (1, .ref (aM 0)), (2, .int x2)] → W p l e ({ frames := 3, cells := 0, slots := 0, locals := 68 } : Room) s m ([.ref (aZ 0), .ref (aM 0), .int x2] : List Value).toArray below meth c H locs 0 0 (MQ below (va_Qv post (xB D cI cO A (w_X0_countBinary cI cO aM aZ zM)) A) ([.ref (aZ 0), .ref (aM 0), .int x2] : List Value).toArray s 0 0 A) (F0 m 2 ls [])) → ∀ (n : Nat) (y3 : Int32) (y4 : Int32) (zZ : CS) (H : Heap) (locs : List Loc) (ls : Array Slot), qX0_countBinary_10 post x2 zM k2 n y3 y4 zZ → va_P D vwCl (wM cI aM zM ++ (wZ cI aZ zZ)) H → va_D A (wM cI aM zM ++ (wZ cI aZ zZ)) → va_S A s.heap H locs → lv_has ls 5 [(4, .int y4), (3, .int y3), (0, .ref (aZ 0)), (1, .ref (aM 0)), (2, .int x2)] → W p l e ({ frames := 3, cells := 0, slots := 0, locals := 68 } : Room) s m ([.ref (aZ 0), .ref (aM 0), .int x2] : List Value).toArray below meth c H locs 0 0 (MQ below (va_Qv post (xB D cI cO A (w_X0_countBinary cI cO aM aZ zM)) A) ([.ref (aZ 0), .ref (aM 0), .int x2] : List Value).toArray s 0 0 A) (F0 m 10 ls []) := by
    intro k2 hk2 n
    induction n with
    | zero => intro y3 y4 zZ H locs ls h; exact False.elim h
    | succ n hk10 =>
      intro y3 y4 zZ H locs ls h hP hD hS hl
      have h : qX0_countBinary_10b post x2 zM k2 (qX0_countBinary_10 post x2 zM k2 n) y3 y4 zZ := h
      refine lv_iload hx hb dX0_countBinary_10 (lv_at hl 0 rfl) ?_
      refine lv_iload_n hx hb dX0_countBinary_12 rfl (lv_at hl 4 rfl) ?_
      obtain ⟨hh1, hh2⟩ := h
      refine lv_icmp_ge (tgt := 59) hx hb dX0_countBinary_13 (by decide) (fun hc => ?_) (fun hc => ?_)
      · have h := hh1 hc
        exact g59 k2 hk2 y3 y4 zZ _ _ _ h hP hD hS hl
      · have h := hh2 hc
        refine lv_aload_n hx hb dX0_countBinary_16 rfl (lv_at hl 2 rfl) ?_
        refine va_get (D := D) (ci := 0) (v := .ref (aZ 2)) (C := RX0) (T := TX0) (N := 3) hx hb hts jX0_countBinary_X0 hown hK hP 5 rfl rfl 1 (by decide) (hts (.fieldLink RX0 15 "BrotherAutomata$Census" "before" "[I") (List.mem_of_getElem? (i := 1) rfl)) (fun _ h9 => h9) rfl dX0_countBinary_17 ?_
        refine lv_iload_n hx hb dX0_countBinary_20 rfl (lv_at hl 1 rfl) ?_
        obtain ⟨hi, h⟩ := h
        refine va_iald hx hb hK hP 7 0 rfl rfl hi dX0_countBinary_21 ?_
        obtain ⟨hh1, hh2⟩ := h
        refine lv_if_le (tgt := 59) hx hb dX0_countBinary_22 (by decide) (fun hc => ?_) (fun hc => ?_)
        · have h := hh1 hc
          exact g59 k2 hk2 y3 y4 zZ _ _ _ h hP hD hS hl
        · have h := hh2 hc
          refine lv_aload_n hx hb dX0_countBinary_25 rfl (lv_at hl 2 rfl) ?_
          refine va_get (D := D) (ci := 0) (v := .ref (aZ 2)) (C := RX0) (T := TX0) (N := 3) hx hb hts jX0_countBinary_X0 hown hK hP 5 rfl rfl 1 (by decide) (hts (.fieldLink RX0 15 "BrotherAutomata$Census" "before" "[I") (List.mem_of_getElem? (i := 1) rfl)) (fun _ h9 => h9) rfl dX0_countBinary_26 ?_
          refine lv_iload hx hb dX0_countBinary_29 (lv_at hl 0 rfl) ?_
          obtain ⟨hi, h⟩ := h
          refine va_iald hx hb hK hP 7 0 rfl rfl hi dX0_countBinary_31 ?_
          obtain ⟨hh1, hh2⟩ := h
          refine lv_if_le (tgt := 53) hx hb dX0_countBinary_32 (by decide) (fun hc => ?_) (fun hc => ?_)
          · have h := hh1 hc
            exact g53 k2 hk2 (qX0_countBinary_10 post x2 zM k2 n) hk10 y3 y4 zZ _ _ _ h hP hD hS hl
          · have h := hh2 hc
            refine lv_aload_n hx hb dX0_countBinary_35 rfl (lv_at hl 2 rfl) ?_
            refine lv_aload_n hx hb dX0_countBinary_36 rfl (lv_at hl 3 rfl) ?_
            refine lv_iconst (v := 3) hx hb dX0_countBinary_37 (by decide) ?_
            refine lv_iload_n hx hb dX0_countBinary_38 rfl (lv_at hl 1 rfl) ?_
            refine lv_iload hx hb dX0_countBinary_39 (lv_at hl 0 rfl) ?_
            refine xcallv (wr := ([] : va_W)) (w2 := fun (u41 : (CS)) => (wM cI aM zM ++ (wZ cI aZ u41))) (va_runV (As := [.ref (aM 0), .int (3 : Int32), .int y3, .int y4]) (rest := []) ⟨hx, hb, hml, hown, hts⟩ (mX0_countPairs l D cI cO tA tS aM aZ zM zZ (3 : Int32) y3 y4 _ h) (cwV 4 hts gX0_countBinary_X0_countPairs rfl rfl rfl (by decide +kernel) ⟨Nat.le_of_ble_eq_true rfl, Nat.le_of_ble_eq_true rfl⟩) (xpreV hP hD hS hA hK hE [0, 1, 2, 3, 4, 5, 6, 7, 8] rfl rfl 0 5 rfl rfl) rfl rfl hl.1 rfl (lv_room (Nat.le_of_ble_eq_true rfl)) dX0_countBinary_41 ⟨Nat.le_refl 0, Nat.le_refl 0⟩) hP hD hS hA [0, 1, 2, 3, 4, 5, 6, 7, 8] [] [0, 1, 2, 3, 4, 5, 6, 7, 8] rfl rfl rfl (by decide) rfl (fun _ => rfl) (fun u41 H locs h hP hD hS => ?_)
            refine lv_aload_n hx hb dX0_countBinary_44 rfl (lv_at hl 2 rfl) ?_
            refine lv_aload_n hx hb dX0_countBinary_45 rfl (lv_at hl 3 rfl) ?_
            refine lv_iconst (v := 4) hx hb dX0_countBinary_46 (by decide) ?_
            refine lv_iload_n hx hb dX0_countBinary_47 rfl (lv_at hl 1 rfl) ?_
            refine lv_iload hx hb dX0_countBinary_48 (lv_at hl 0 rfl) ?_
            refine xcallv (wr := ([] : va_W)) (w2 := fun (u50 : (CS)) => (wM cI aM zM ++ (wZ cI aZ u50))) (va_runV (As := [.ref (aM 0), .int (4 : Int32), .int y3, .int y4]) (rest := []) ⟨hx, hb, hml, hown, hts⟩ (mX0_countPairs l D cI cO tA tS aM aZ zM u41 (4 : Int32) y3 y4 _ h) (cwV 4 hts gX0_countBinary_X0_countPairs rfl rfl rfl (by decide +kernel) ⟨Nat.le_of_ble_eq_true rfl, Nat.le_of_ble_eq_true rfl⟩) (xpreV hP hD hS hA hK hE [0, 1, 2, 3, 4, 5, 6, 7, 8] rfl rfl 0 5 rfl rfl) rfl rfl hl.1 rfl (lv_room (Nat.le_of_ble_eq_true rfl)) dX0_countBinary_50 ⟨Nat.le_refl 0, Nat.le_refl 0⟩) hP hD hS hA [0, 1, 2, 3, 4, 5, 6, 7, 8] [] [0, 1, 2, 3, 4, 5, 6, 7, 8] rfl rfl rfl (by decide) rfl (fun _ => rfl) (fun u50 H locs h hP hD hS => ?_)
            exact g53 k2 hk2 (qX0_countBinary_10 post x2 zM k2 n) hk10 y3 y4 u50 _ _ _ h hP hD hS hl
  have g2 : ∀ (n : Nat) (y3 : Int32) (zZ : CS) (H : Heap) (locs : List Loc) (ls : Array Slot), qX0_countBinary_2 post x2 zM n y3 zZ → va_P D vwCl (wM cI aM zM ++ (wZ cI aZ zZ)) H → va_D A (wM cI aM zM ++ (wZ cI aZ zZ)) → va_S A s.heap H locs → lv_has ls 5 [(3, .int y3), (0, .ref (aZ 0)), (1, .ref (aM 0)), (2, .int x2)] → W p l e ({ frames := 3, cells := 0, slots := 0, locals := 68 } : Room) s m ([.ref (aZ 0), .ref (aM 0), .int x2] : List Value).toArray below meth c H locs 0 0 (MQ below (va_Qv post (xB D cI cO A (w_X0_countBinary cI cO aM aZ zM)) A) ([.ref (aZ 0), .ref (aM 0), .int x2] : List Value).toArray s 0 0 A) (F0 m 2 ls []) := by
    intro n
    induction n with
    | zero => intro y3 zZ H locs ls h; exact False.elim h
    | succ n hk2 =>
      intro y3 zZ H locs ls h hP hD hS hl
      have h : qX0_countBinary_2b post x2 zM (qX0_countBinary_2 post x2 zM n) y3 zZ := h
      refine lv_iload_n hx hb dX0_countBinary_2 rfl (lv_at hl 0 rfl) ?_
      refine lv_iload_n hx hb dX0_countBinary_3 rfl (lv_at hl 3 rfl) ?_
      obtain ⟨hh1, hh2⟩ := h
      refine lv_icmp_ge (tgt := 65) hx hb dX0_countBinary_4 (by decide) (fun hc => ?_) (fun hc => ?_)
      · have h := hh1 hc
        exact xvret (w := (w_X0_countBinary cI cO aM aZ zM)) (zZ) hx hb hr hlocks h hP hK hD hS dX0_countBinary_65
      · have h := hh2 hc
        refine lv_iconst (v := 0) hx hb dX0_countBinary_7 (by decide) ?_
        refine lv_istore (lv' := [(4, .int (0 : Int32)), (3, .int y3), (0, .ref (aZ 0)), (1, .ref (aM 0)), (2, .int x2)]) hx hb dX0_countBinary_8 hl (by decide) rfl (fun ls hl => ?_)
        obtain ⟨n0, h⟩ := h
        exact g10 (qX0_countBinary_2 post x2 zM n) hk2 n0 y3 (0 : Int32) zZ _ _ _ h hP hD hS hl
  refine lv_iconst (v := 0) hx hb dX0_countBinary_0 (by decide) ?_
  refine lv_istore_n (lv' := [(3, .int (0 : Int32)), (0, .ref (aZ 0)), (1, .ref (aM 0)), (2, .int x2)]) hx hb dX0_countBinary_1 rfl hl (by decide) rfl (fun ls hl => ?_)
  obtain ⟨n0, h⟩ := h
  exact g2 n0 (0 : Int32) zZ _ _ _ h hP hD hS hl
theorem dX0_noteGrowth_0 : decode cX0_noteGrowth 0 = .ok (.iconst 0, 1) := by decide +kernel
theorem dX0_noteGrowth_1 : decode cX0_noteGrowth 1 = .ok (.istore_n 3, 1) := by decide +kernel
theorem dX0_noteGrowth_2 : decode cX0_noteGrowth 2 = .ok (.iconst 0, 1) := by decide +kernel
theorem dX0_noteGrowth_3 : decode cX0_noteGrowth 3 = .ok (.istore 4, 2) := by decide +kernel
theorem dX0_noteGrowth_5 : decode cX0_noteGrowth 5 = .ok (.iload 4, 2) := by decide +kernel
theorem dX0_noteGrowth_7 : decode cX0_noteGrowth 7 = .ok (.iload_n 2, 1) := by decide +kernel
theorem dX0_noteGrowth_8 : decode cX0_noteGrowth 8 = .ok (.if_icmp .ge 46, 3) := by decide +kernel
theorem dX0_noteGrowth_11 : decode cX0_noteGrowth 11 = .ok (.aload_n 0, 1) := by decide +kernel
theorem dX0_noteGrowth_12 : decode cX0_noteGrowth 12 = .ok (.getfield 9, 3) := by decide +kernel
theorem dX0_noteGrowth_15 : decode cX0_noteGrowth 15 = .ok (.iload 4, 2) := by decide +kernel
theorem dX0_noteGrowth_17 : decode cX0_noteGrowth 17 = .ok (.iaload, 1) := by decide +kernel
theorem dX0_noteGrowth_18 : decode cX0_noteGrowth 18 = .ok (.aload_n 0, 1) := by decide +kernel
theorem dX0_noteGrowth_19 : decode cX0_noteGrowth 19 = .ok (.getfield 15, 3) := by decide +kernel
theorem dX0_noteGrowth_22 : decode cX0_noteGrowth 22 = .ok (.iload 4, 2) := by decide +kernel
theorem dX0_noteGrowth_24 : decode cX0_noteGrowth 24 = .ok (.iaload, 1) := by decide +kernel
theorem dX0_noteGrowth_25 : decode cX0_noteGrowth 25 = .ok (.if_icmp .eq 23, 3) := by decide +kernel
theorem dX0_noteGrowth_28 : decode cX0_noteGrowth 28 = .ok (.iconst 1, 1) := by decide +kernel
theorem dX0_noteGrowth_29 : decode cX0_noteGrowth 29 = .ok (.istore_n 3, 1) := by decide +kernel
theorem dX0_noteGrowth_30 : decode cX0_noteGrowth 30 = .ok (.aload_n 0, 1) := by decide +kernel
theorem dX0_noteGrowth_31 : decode cX0_noteGrowth 31 = .ok (.getfield 15, 3) := by decide +kernel
theorem dX0_noteGrowth_34 : decode cX0_noteGrowth 34 = .ok (.iload 4, 2) := by decide +kernel
theorem dX0_noteGrowth_36 : decode cX0_noteGrowth 36 = .ok (.iaload, 1) := by decide +kernel
theorem dX0_noteGrowth_37 : decode cX0_noteGrowth 37 = .ok (.ifCond .ne 11, 3) := by decide +kernel
theorem dX0_noteGrowth_40 : decode cX0_noteGrowth 40 = .ok (.aload_n 0, 1) := by decide +kernel
theorem dX0_noteGrowth_41 : decode cX0_noteGrowth 41 = .ok (.getfield 18, 3) := by decide +kernel
theorem dX0_noteGrowth_44 : decode cX0_noteGrowth 44 = .ok (.iload 4, 2) := by decide +kernel
theorem dX0_noteGrowth_46 : decode cX0_noteGrowth 46 = .ok (.iload_n 1, 1) := by decide +kernel
theorem dX0_noteGrowth_47 : decode cX0_noteGrowth 47 = .ok (.iastore, 1) := by decide +kernel
theorem dX0_noteGrowth_48 : decode cX0_noteGrowth 48 = .ok (.iinc 4 1, 3) := by decide +kernel
theorem dX0_noteGrowth_51 : decode cX0_noteGrowth 51 = .ok (.goto (-46), 3) := by decide +kernel
theorem dX0_noteGrowth_54 : decode cX0_noteGrowth 54 = .ok (.iload_n 3, 1) := by decide +kernel
theorem dX0_noteGrowth_55 : decode cX0_noteGrowth 55 = .ok (.ireturn, 1) := by decide +kernel
theorem jX0_noteGrowth_X0 : ∀ w ∈ wsX00, w ∈ wsX0_noteGrowth := by decide +kernel
abbrev w_X0_noteGrowth (cI cO : ClassId) (aZ : Nat → Nat)  : ((CS)) → va_W := fun u => (wZ cI aZ u)
set_option maxRecDepth 100000 in
set_option maxHeartbeats 8000000 in
theorem mX0_noteGrowth (l : Launch) (D : va_G) (cI cO : ClassId) (tA tS : Nat) (aZ : Nat → Nat) (zZ : CS) (x1 : Int32) (x2 : Int32) (sz : Nat) {post : Int32 → ((CS)) → Prop} (h : qX0_noteGrowth post x1 x2 zZ) : Met l yX0_noteGrowth wsX0_noteGrowth ({ frames := 0, cells := 0, slots := 0, locals := 0 } : Room) (xPre D cI cO tA tS [.ref (aZ 0), .int x1, .int x2] (wZ cI aZ zZ) sz) (va_Qi post (xB D cI cO (va_A (wZ cI aZ zZ) sz) (w_X0_noteGrowth cI cO aZ)) (va_A (wZ cI aZ zZ) sz)) 0 0 (va_A (wZ cI aZ zZ) sz) := by
  refine xMet D cI cO tA tS (fun A => va_Qi post (xB D cI cO A (w_X0_noteGrowth cI cO aZ)) A) (cc := cX0_noteGrowth) (maxL := 5) (ret := (some .boolean)) (by decide) rfl (Nat.le_of_ble_eq_true rfl) ?_
  intro p e s m below meth c A ls hx hb hr hts hown hlocks hin hml hA hS hP hK hD hE hl
  have hown : s.vm.findClass RX0 = some m.cls := hown
  have hl : lv_has ls 5 [(0, .ref (aZ 0)), (1, .int x1), (2, .int x2)] := hl
  have g48 : ∀ (k5 : (Int32) → (Int32) → (CS) → Prop), (∀ (y3 : Int32) (y4 : Int32) (zZ : CS) (H : Heap) (locs : List Loc) (ls : Array Slot), k5 y3 y4 zZ → va_P D vwCl (wZ cI aZ zZ) H → va_D A (wZ cI aZ zZ) → va_S A s.heap H locs → lv_has ls 5 [(4, .int y4), (3, .int y3), (0, .ref (aZ 0)), (1, .int x1), (2, .int x2)] → W p l e ({ frames := 0, cells := 0, slots := 0, locals := 0 } : Room) s m ([.ref (aZ 0), .int x1, .int x2] : List Value).toArray below meth c H locs 0 0 (MQ below (va_Qi post (xB D cI cO A (w_X0_noteGrowth cI cO aZ)) A) ([.ref (aZ 0), .int x1, .int x2] : List Value).toArray s 0 0 A) (F0 m 5 ls [])) → ∀ (y3 : Int32) (y4 : Int32) (zZ : CS) (H : Heap) (locs : List Loc) (ls : Array Slot), qX0_noteGrowth_48 post x1 x2 k5 y3 y4 zZ → va_P D vwCl (wZ cI aZ zZ) H → va_D A (wZ cI aZ zZ) → va_S A s.heap H locs → lv_has ls 5 [(3, .int y3), (4, .int y4), (0, .ref (aZ 0)), (1, .int x1), (2, .int x2)] → W p l e ({ frames := 0, cells := 0, slots := 0, locals := 0 } : Room) s m ([.ref (aZ 0), .int x1, .int x2] : List Value).toArray below meth c H locs 0 0 (MQ below (va_Qi post (xB D cI cO A (w_X0_noteGrowth cI cO aZ)) A) ([.ref (aZ 0), .int x1, .int x2] : List Value).toArray s 0 0 A) (F0 m 48 ls []) := by
    intro k5 hk5 y3 y4 zZ H locs ls h hP hD hS hl
    refine lv_iinc (v := (y4 + (1 : Int32))) (lv' := [(4, .int (y4 + (1 : Int32))), (3, .int y3), (0, .ref (aZ 0)), (1, .int x1), (2, .int x2)]) hx hb dX0_noteGrowth_48 hl (k := 1) rfl rfl (by decide) rfl (fun ls hl => ?_)
    refine lv_goto (tgt := 5) hx hb dX0_noteGrowth_51 (by decide) ?_
    exact hk5 y3 (y4 + (1 : Int32)) zZ _ _ _ h hP hD hS hl
  have g5 : ∀ (n : Nat) (y3 : Int32) (y4 : Int32) (zZ : CS) (H : Heap) (locs : List Loc) (ls : Array Slot), qX0_noteGrowth_5 post x1 x2 n y3 y4 zZ → va_P D vwCl (wZ cI aZ zZ) H → va_D A (wZ cI aZ zZ) → va_S A s.heap H locs → lv_has ls 5 [(4, .int y4), (3, .int y3), (0, .ref (aZ 0)), (1, .int x1), (2, .int x2)] → W p l e ({ frames := 0, cells := 0, slots := 0, locals := 0 } : Room) s m ([.ref (aZ 0), .int x1, .int x2] : List Value).toArray below meth c H locs 0 0 (MQ below (va_Qi post (xB D cI cO A (w_X0_noteGrowth cI cO aZ)) A) ([.ref (aZ 0), .int x1, .int x2] : List Value).toArray s 0 0 A) (F0 m 5 ls []) := by
    intro n
    induction n with
    | zero => intro y3 y4 zZ H locs ls h; exact False.elim h
    | succ n hk5 =>
      intro y3 y4 zZ H locs ls h hP hD hS hl
      have h : qX0_noteGrowth_5b post x1 x2 (qX0_noteGrowth_5 post x1 x2 n) y3 y4 zZ := h
      refine lv_iload hx hb dX0_noteGrowth_5 (lv_at hl 0 rfl) ?_
      refine lv_iload_n hx hb dX0_noteGrowth_7 rfl (lv_at hl 4 rfl) ?_
      obtain ⟨hh1, hh2⟩ := h
      refine lv_icmp_ge (tgt := 54) hx hb dX0_noteGrowth_8 (by decide) (fun hc => ?_) (fun hc => ?_)
      · have h := hh1 hc
        refine lv_iload_n hx hb dX0_noteGrowth_54 rfl (lv_at hl 1 rfl) ?_
        obtain ⟨hn, h⟩ := h
        exact xzret (w := (w_X0_noteGrowth cI cO aZ)) (zZ) hx hb hr hlocks hn h hP hK hD hS dX0_noteGrowth_55
      · have h := hh2 hc
        refine lv_aload_n hx hb dX0_noteGrowth_11 rfl (lv_at hl 2 rfl) ?_
        refine va_get (D := D) (ci := 0) (v := .ref (aZ 1)) (C := RX0) (T := TX0) (N := 3) hx hb hts jX0_noteGrowth_X0 hown hK hP 0 rfl rfl 0 (by decide) (hts (.fieldLink RX0 9 "BrotherAutomata$Census" "numbers" "[I") (List.mem_of_getElem? (i := 1) rfl)) (fun _ h9 => h9) rfl dX0_noteGrowth_12 ?_
        refine lv_iload hx hb dX0_noteGrowth_15 (lv_at hl 0 rfl) ?_
        obtain ⟨hi, h⟩ := h
        refine va_iald hx hb hK hP 1 0 rfl rfl hi dX0_noteGrowth_17 ?_
        refine lv_aload_n hx hb dX0_noteGrowth_18 rfl (lv_at hl 2 rfl) ?_
        refine va_get (D := D) (ci := 0) (v := .ref (aZ 2)) (C := RX0) (T := TX0) (N := 3) hx hb hts jX0_noteGrowth_X0 hown hK hP 0 rfl rfl 1 (by decide) (hts (.fieldLink RX0 15 "BrotherAutomata$Census" "before" "[I") (List.mem_of_getElem? (i := 2) rfl)) (fun _ h9 => h9) rfl dX0_noteGrowth_19 ?_
        refine lv_iload hx hb dX0_noteGrowth_22 (lv_at hl 0 rfl) ?_
        obtain ⟨hi, h⟩ := h
        refine va_iald hx hb hK hP 2 0 rfl rfl hi dX0_noteGrowth_24 ?_
        obtain ⟨hh1, hh2⟩ := h
        refine lv_icmp_eq (tgt := 48) hx hb dX0_noteGrowth_25 (by decide) (fun hc => ?_) (fun hc => ?_)
        · have h := hh1 hc
          exact g48 (qX0_noteGrowth_5 post x1 x2 n) hk5 y3 y4 zZ _ _ _ h hP hD hS (lv_sub hl [1, 0, 2, 3, 4] rfl)
        · have h := hh2 hc
          refine lv_iconst (v := 1) hx hb dX0_noteGrowth_28 (by decide) ?_
          refine lv_istore_n (lv' := [(3, .int (1 : Int32)), (4, .int y4), (0, .ref (aZ 0)), (1, .int x1), (2, .int x2)]) hx hb dX0_noteGrowth_29 rfl hl (by decide) rfl (fun ls hl => ?_)
          refine lv_aload_n hx hb dX0_noteGrowth_30 rfl (lv_at hl 2 rfl) ?_
          refine va_get (D := D) (ci := 0) (v := .ref (aZ 2)) (C := RX0) (T := TX0) (N := 3) hx hb hts jX0_noteGrowth_X0 hown hK hP 0 rfl rfl 1 (by decide) (hts (.fieldLink RX0 15 "BrotherAutomata$Census" "before" "[I") (List.mem_of_getElem? (i := 2) rfl)) (fun _ h9 => h9) rfl dX0_noteGrowth_31 ?_
          refine lv_iload hx hb dX0_noteGrowth_34 (lv_at hl 1 rfl) ?_
          obtain ⟨hi, h⟩ := h
          refine va_iald hx hb hK hP 2 0 rfl rfl hi dX0_noteGrowth_36 ?_
          obtain ⟨hh1, hh2⟩ := h
          refine lv_if_ne (tgt := 48) hx hb dX0_noteGrowth_37 (by decide) (fun hc => ?_) (fun hc => ?_)
          · have h := hh2 hc
            exact g48 (qX0_noteGrowth_5 post x1 x2 n) hk5 (1 : Int32) y4 zZ _ _ _ h hP hD hS hl
          · have h := hh1 hc
            refine lv_aload_n hx hb dX0_noteGrowth_40 rfl (lv_at hl 2 rfl) ?_
            refine va_get (D := D) (ci := 0) (v := .ref (aZ 3)) (C := RX0) (T := TX0) (N := 3) hx hb hts jX0_noteGrowth_X0 hown hK hP 0 rfl rfl 2 (by decide) (hts (.fieldLink RX0 18 "BrotherAutomata$Census" "heights" "[I") (List.mem_of_getElem? (i := 3) rfl)) (fun _ h9 => h9) rfl dX0_noteGrowth_41 ?_
            refine lv_iload hx hb dX0_noteGrowth_44 (lv_at hl 1 rfl) ?_
            refine lv_iload_n hx hb dX0_noteGrowth_46 rfl (lv_at hl 3 rfl) ?_
            obtain ⟨hi, h⟩ := h
            refine va_iast hx hb hK hP hD hS 3 0 rfl rfl hi dX0_noteGrowth_47 (fun H locs hP hD hS => ?_)
            have hP : va_P D vwCl (wZ cI aZ (st zZ 2 y4.toNatClampNeg x1)) H := hP
            have hD : va_D A (wZ cI aZ (st zZ 2 y4.toNatClampNeg x1)) := hD
            exact g48 (qX0_noteGrowth_5 post x1 x2 n) hk5 (1 : Int32) y4 (st zZ 2 y4.toNatClampNeg x1) _ _ _ h hP hD hS hl
  refine lv_iconst (v := 0) hx hb dX0_noteGrowth_0 (by decide) ?_
  refine lv_istore_n (lv' := [(3, .int (0 : Int32)), (0, .ref (aZ 0)), (1, .int x1), (2, .int x2)]) hx hb dX0_noteGrowth_1 rfl hl (by decide) rfl (fun ls hl => ?_)
  refine lv_iconst (v := 0) hx hb dX0_noteGrowth_2 (by decide) ?_
  refine lv_istore (lv' := [(4, .int (0 : Int32)), (3, .int (0 : Int32)), (0, .ref (aZ 0)), (1, .int x1), (2, .int x2)]) hx hb dX0_noteGrowth_3 hl (by decide) rfl (fun ls hl => ?_)
  obtain ⟨n0, h⟩ := h
  exact g5 n0 (0 : Int32) (0 : Int32) zZ _ _ _ h hP hD hS hl
set_option maxRecDepth 20000 in
theorem ggX0_take_J7_fill_53178 : GoodIn wsX0_take wsJ7_fill_53178 := goodIn_r _ [10] (by decide +kernel) (by decide +kernel)
set_option maxRecDepth 20000 in
theorem gX0_take_J7_fill_53178 : GoodIn wsX0_take (va_wsS RX0 21 yJ7_fill_53178 wsJ7_fill_53178) := goodIn_app (goodIn_of _ (by decide +kernel)) ggX0_take_J7_fill_53178
set_option maxRecDepth 20000 in
theorem ggX0_take_X0_countConstants : GoodIn wsX0_take wsX0_countConstants := goodIn_r _ [15, 16, 17, 18, 19, 20, 21, 22, 23, 24, 25, 26, 27, 28, 29, 14, 30, 1, 31, 32, 33, 34, 55, 56, 57, 58, 59, 60, 52, 53, 54] (by decide +kernel) (by decide +kernel)
set_option maxRecDepth 20000 in
theorem gX0_take_X0_countConstants : GoodIn wsX0_take (wsV RX0 33 RX0 yX0_countConstants wsX0_countConstants) := goodIn_app (goodIn_of _ (by decide +kernel)) ggX0_take_X0_countConstants
set_option maxRecDepth 20000 in
theorem ggX0_take_X0_countUnary : GoodIn wsX0_take wsX0_countUnary := goodIn_r _ [38, 2, 16, 17, 18, 19, 20, 21, 22, 23, 24, 25, 26, 27, 28, 29, 14, 30, 1, 31, 32, 33, 34, 52, 53, 54, 55, 56, 57, 58, 59, 60] (by decide +kernel) (by decide +kernel)
set_option maxRecDepth 20000 in
theorem gX0_take_X0_countUnary : GoodIn wsX0_take (wsV RX0 37 RX0 yX0_countUnary wsX0_countUnary) := goodIn_app (goodIn_of _ (by decide +kernel)) ggX0_take_X0_countUnary
set_option maxRecDepth 20000 in
theorem ggX0_take_X0_countBinary : GoodIn wsX0_take wsX0_countBinary := goodIn_r _ [42, 2, 43, 44, 45, 14, 46, 16, 17, 18, 19, 20, 21, 22, 23, 24, 25, 26, 27, 28, 29, 30, 1, 31, 32, 33, 34, 52, 53, 54, 55, 56, 57, 58, 59, 60] (by decide +kernel) (by decide +kernel)
set_option maxRecDepth 20000 in
theorem gX0_take_X0_countBinary : GoodIn wsX0_take (wsV RX0 41 RX0 yX0_countBinary wsX0_countBinary) := goodIn_app (goodIn_of _ (by decide +kernel)) ggX0_take_X0_countBinary
set_option maxRecDepth 20000 in
theorem ggX0_take_X0_noteGrowth : GoodIn wsX0_take wsX0_noteGrowth := goodIn_r _ [50, 1, 2, 51, 52, 53, 54] (by decide +kernel) (by decide +kernel)
set_option maxRecDepth 20000 in
theorem gX0_take_X0_noteGrowth : GoodIn wsX0_take (wsV RX0 44 RX0 yX0_noteGrowth wsX0_noteGrowth) := goodIn_app (goodIn_of _ (by decide +kernel)) ggX0_take_X0_noteGrowth
theorem dX0_take_0 : decode cX0_take 0 = .ok (.aload_n 0, 1) := by decide +kernel
theorem dX0_take_1 : decode cX0_take 1 = .ok (.getfield 9, 3) := by decide +kernel
theorem dX0_take_4 : decode cX0_take 4 = .ok (.iconst 0, 1) := by decide +kernel
theorem dX0_take_5 : decode cX0_take 5 = .ok (.invokestatic 21, 3) := by decide +kernel
theorem dX0_take_8 : decode cX0_take 8 = .ok (.iconst 1, 1) := by decide +kernel
theorem dX0_take_9 : decode cX0_take 9 = .ok (.istore_n 3, 1) := by decide +kernel
theorem dX0_take_10 : decode cX0_take 10 = .ok (.iconst 0, 1) := by decide +kernel
theorem dX0_take_11 : decode cX0_take 11 = .ok (.istore 4, 2) := by decide +kernel
theorem dX0_take_13 : decode cX0_take 13 = .ok (.iload 4, 2) := by decide +kernel
theorem dX0_take_15 : decode cX0_take 15 = .ok (.sipush 129, 3) := by decide +kernel
theorem dX0_take_18 : decode cX0_take 18 = .ok (.if_icmp .ge 61, 3) := by decide +kernel
theorem dX0_take_21 : decode cX0_take 21 = .ok (.iload_n 3, 1) := by decide +kernel
theorem dX0_take_22 : decode cX0_take 22 = .ok (.ifCond .eq 57, 3) := by decide +kernel
theorem dX0_take_25 : decode cX0_take 25 = .ok (.aload_n 0, 1) := by decide +kernel
theorem dX0_take_26 : decode cX0_take 26 = .ok (.getfield 9, 3) := by decide +kernel
theorem dX0_take_29 : decode cX0_take 29 = .ok (.iconst 0, 1) := by decide +kernel
theorem dX0_take_30 : decode cX0_take 30 = .ok (.aload_n 0, 1) := by decide +kernel
theorem dX0_take_31 : decode cX0_take 31 = .ok (.getfield 15, 3) := by decide +kernel
theorem dX0_take_34 : decode cX0_take 34 = .ok (.iconst 0, 1) := by decide +kernel
theorem dX0_take_35 : decode cX0_take 35 = .ok (.bipush 64, 2) := by decide +kernel
theorem dX0_take_37 : decode cX0_take 37 = .ok (.invokestatic 27, 3) := by decide +kernel
theorem dX0_take_40 : decode cX0_take 40 = .ok (.aload_n 0, 1) := by decide +kernel
theorem dX0_take_41 : decode cX0_take 41 = .ok (.getfield 9, 3) := by decide +kernel
theorem dX0_take_44 : decode cX0_take 44 = .ok (.iconst 0, 1) := by decide +kernel
theorem dX0_take_45 : decode cX0_take 45 = .ok (.invokestatic 21, 3) := by decide +kernel
theorem dX0_take_48 : decode cX0_take 48 = .ok (.aload_n 0, 1) := by decide +kernel
theorem dX0_take_49 : decode cX0_take 49 = .ok (.aload_n 1, 1) := by decide +kernel
theorem dX0_take_50 : decode cX0_take 50 = .ok (.invokevirtual 33, 3) := by decide +kernel
theorem dX0_take_53 : decode cX0_take 53 = .ok (.aload_n 0, 1) := by decide +kernel
theorem dX0_take_54 : decode cX0_take 54 = .ok (.aload_n 1, 1) := by decide +kernel
theorem dX0_take_55 : decode cX0_take 55 = .ok (.iload_n 2, 1) := by decide +kernel
theorem dX0_take_56 : decode cX0_take 56 = .ok (.invokevirtual 37, 3) := by decide +kernel
theorem dX0_take_59 : decode cX0_take 59 = .ok (.aload_n 0, 1) := by decide +kernel
theorem dX0_take_60 : decode cX0_take 60 = .ok (.aload_n 1, 1) := by decide +kernel
theorem dX0_take_61 : decode cX0_take 61 = .ok (.iload_n 2, 1) := by decide +kernel
theorem dX0_take_62 : decode cX0_take 62 = .ok (.invokevirtual 41, 3) := by decide +kernel
theorem dX0_take_65 : decode cX0_take 65 = .ok (.aload_n 0, 1) := by decide +kernel
theorem dX0_take_66 : decode cX0_take 66 = .ok (.iload 4, 2) := by decide +kernel
theorem dX0_take_68 : decode cX0_take 68 = .ok (.iload_n 2, 1) := by decide +kernel
theorem dX0_take_69 : decode cX0_take 69 = .ok (.invokevirtual 44, 3) := by decide +kernel
theorem dX0_take_72 : decode cX0_take 72 = .ok (.istore_n 3, 1) := by decide +kernel
theorem dX0_take_73 : decode cX0_take 73 = .ok (.iinc 4 1, 3) := by decide +kernel
theorem dX0_take_76 : decode cX0_take 76 = .ok (.goto (-63), 3) := by decide +kernel
theorem dX0_take_79 : decode cX0_take 79 = .ok (.return_, 1) := by decide +kernel
theorem jX0_take_X0 : ∀ w ∈ wsX00, w ∈ wsX0_take := by decide +kernel
abbrev w_X0_take (cI cO : ClassId) (aM : Nat → Nat) (aZ : Nat → Nat) (zM : CS) : ((CS)) → va_W := fun u => (wM cI aM zM ++ (wZ cI aZ u))
set_option maxRecDepth 100000 in
set_option maxHeartbeats 8000000 in
theorem mX0_take (l : Launch) (D : va_G) (cI cO : ClassId) (tA tS : Nat) (aM : Nat → Nat) (aZ : Nat → Nat) (zM : CS) (zZ : CS) (x2 : Int32) (sz : Nat) {post : ((CS)) → Prop} (h : qX0_take post x2 zM zZ) : Met l yX0_take wsX0_take ({ frames := 4, cells := 0, slots := 0, locals := 92 } : Room) (xPre D cI cO tA tS [.ref (aZ 0), .ref (aM 0), .int x2] (wM cI aM zM ++ (wZ cI aZ zZ)) sz) (va_Qv post (xB D cI cO (va_A (wM cI aM zM ++ (wZ cI aZ zZ)) sz) (w_X0_take cI cO aM aZ zM)) (va_A (wM cI aM zM ++ (wZ cI aZ zZ)) sz)) 0 0 (va_A (wM cI aM zM ++ (wZ cI aZ zZ)) sz) := by
  refine xMet D cI cO tA tS (fun A => va_Qv post (xB D cI cO A (w_X0_take cI cO aM aZ zM)) A) (cc := cX0_take) (maxL := 5) (ret := none) (by decide) rfl (Nat.le_of_ble_eq_true rfl) ?_
  intro p e s m below meth c A ls hx hb hr hts hown hlocks hin hml hA hS hP hK hD hE hl
  have hown : s.vm.findClass RX0 = some m.cls := hown
  have hl : lv_has ls 5 [(0, .ref (aZ 0)), (1, .ref (aM 0)), (2, .int x2)] := hl
  have g13 : ∀ (n : Nat) (y3 : Int32) (y4 : Int32) (zZ : CS) (H : Heap) (locs : List Loc) (ls : Array Slot), qX0_take_13 post x2 zM n y3 y4 zZ → va_P D vwCl (wM cI aM zM ++ (wZ cI aZ zZ)) H → va_D A (wM cI aM zM ++ (wZ cI aZ zZ)) → va_S A s.heap H locs → lv_has ls 5 [(4, .int y4), (3, .int y3), (0, .ref (aZ 0)), (1, .ref (aM 0)), (2, .int x2)] → W p l e ({ frames := 4, cells := 0, slots := 0, locals := 92 } : Room) s m ([.ref (aZ 0), .ref (aM 0), .int x2] : List Value).toArray below meth c H locs 0 0 (MQ below (va_Qv post (xB D cI cO A (w_X0_take cI cO aM aZ zM)) A) ([.ref (aZ 0), .ref (aM 0), .int x2] : List Value).toArray s 0 0 A) (F0 m 13 ls []) := by
    intro n
    induction n with
    | zero => intro y3 y4 zZ H locs ls h; exact False.elim h
    | succ n hk13 =>
      intro y3 y4 zZ H locs ls h hP hD hS hl
      have h : qX0_take_13b post x2 zM (qX0_take_13 post x2 zM n) y3 y4 zZ := h
      refine lv_iload hx hb dX0_take_13 (lv_at hl 0 rfl) ?_
      refine lv_sipush (v := 129) hx hb dX0_take_15 (by decide) ?_
      obtain ⟨hh1, hh2⟩ := h
      refine lv_icmp_ge (tgt := 79) hx hb dX0_take_18 (by decide) (fun hc => ?_) (fun hc => ?_)
      · have h := hh1 hc
        exact xvret (w := (w_X0_take cI cO aM aZ zM)) (zZ) hx hb hr hlocks h hP hK hD hS dX0_take_79
      · have h := hh2 hc
        refine lv_iload_n hx hb dX0_take_21 rfl (lv_at hl 1 rfl) ?_
        obtain ⟨hh1, hh2⟩ := h
        refine lv_if_eq (tgt := 79) hx hb dX0_take_22 (by decide) (fun hc => ?_) (fun hc => ?_)
        · have h := hh1 hc
          exact xvret (w := (w_X0_take cI cO aM aZ zM)) (zZ) hx hb hr hlocks h hP hK hD hS dX0_take_79
        · have h := hh2 hc
          refine lv_aload_n hx hb dX0_take_25 rfl (lv_at hl 2 rfl) ?_
          refine va_get (D := D) (ci := 0) (v := .ref (aZ 1)) (C := RX0) (T := TX0) (N := 3) hx hb hts jX0_take_X0 hown hK hP 5 rfl rfl 0 (by decide) (hts (.fieldLink RX0 9 "BrotherAutomata$Census" "numbers" "[I") (List.mem_of_getElem? (i := 1) rfl)) (fun _ h9 => h9) rfl dX0_take_26 ?_
          refine lv_iconst (v := 0) hx hb dX0_take_29 (by decide) ?_
          refine lv_aload_n hx hb dX0_take_30 rfl (lv_at hl 2 rfl) ?_
          refine va_get (D := D) (ci := 0) (v := .ref (aZ 2)) (C := RX0) (T := TX0) (N := 3) hx hb hts jX0_take_X0 hown hK hP 5 rfl rfl 1 (by decide) (hts (.fieldLink RX0 15 "BrotherAutomata$Census" "before" "[I") (List.mem_of_getElem? (i := 2) rfl)) (fun _ h9 => h9) rfl dX0_take_31 ?_
          refine lv_iconst (v := 0) hx hb dX0_take_34 (by decide) ?_
          refine lv_bipush (v := 64) hx hb dX0_take_35 (by decide) ?_
          refine va_copyi (sp := 0) (dp := 0) (n := 64) hx hb (hml.trans hl.1.symm) hown (hts (.methodLink RX0 27 arraycopyName) (List.mem_of_getElem? (i := 3) rfl)) (hts (.native arraycopyName) (List.mem_of_getElem? (i := 4) rfl)) (hts (.static arraycopyName) (List.mem_of_getElem? (i := 5) rfl)) (hts (.initialized "java/lang/System") (List.mem_of_getElem? (i := 6) rfl)) hK hP hD hS 6 7 0 0 rfl rfl rfl rfl rfl (by decide) (by decide) (by decide) (by decide) (by decide) (fun _ _ => rfl) (Nat.le_of_ble_eq_true rfl) (Nat.le_of_ble_eq_true rfl) dX0_take_37 (fun H locs hP hD hS => ?_)
          have hP : va_P D vwCl (wM cI aM zM ++ (wZ cI aZ (sr zZ 1 (va_cpy (zZ 0) (zZ 1) 0 0 64)))) H := hP
          have hD : va_D A (wM cI aM zM ++ (wZ cI aZ (sr zZ 1 (va_cpy (zZ 0) (zZ 1) 0 0 64)))) := hD
          refine lv_aload_n hx hb dX0_take_40 rfl (lv_at hl 2 rfl) ?_
          refine va_get (D := D) (ci := 0) (v := .ref (aZ 1)) (C := RX0) (T := TX0) (N := 3) hx hb hts jX0_take_X0 hown hK hP 5 rfl rfl 0 (by decide) (hts (.fieldLink RX0 9 "BrotherAutomata$Census" "numbers" "[I") (List.mem_of_getElem? (i := 1) rfl)) (fun _ h9 => h9) rfl dX0_take_41 ?_
          refine lv_iconst (v := 0) hx hb dX0_take_44 (by decide) ?_
          refine xcallv (wr := (wM cI aM zM ++ ([(aZ 0, .inr (0, [.ref (aZ 1), .ref (aZ 2), .ref (aZ 3)])), (aZ 2, .inl (cI, 64, .inl ((sr zZ 1 (va_cpy (zZ 0) (zZ 1) 0 0 64)) 1))), (aZ 3, .inl (cI, 64, .inl ((sr zZ 1 (va_cpy (zZ 0) (zZ 1) 0 0 64)) 2)))]))) (w2 := fun (u45 : (Nat → Int32)) => (wM cI aM zM ++ (wZ cI aZ (sr (sr zZ 1 (va_cpy (zZ 0) (zZ 1) 0 0 64)) 0 u45)))) (va_runS (As := [.ref (aZ 1), .int (0 : Int32)]) (rest := []) ⟨hx, hb, hml, hown, hts⟩ (mJ7_fill_53178 l D cI cO tA tS (aZ 1) 64 ((sr zZ 1 (va_cpy (zZ 0) (zZ 1) 0 0 64)) 0) (0 : Int32) _ h) (va_cwS 2 hts gX0_take_J7_fill_53178 rfl rfl rfl (by decide +kernel) ⟨Nat.le_of_ble_eq_true rfl, Nat.le_of_ble_eq_true rfl⟩) (xpreP hP hD hS hA hK hE [6] rfl rfl) rfl rfl hl.1 rfl (lv_room (Nat.le_of_ble_eq_true rfl)) dX0_take_45 ⟨Nat.le_refl 0, Nat.le_refl 0⟩) hP hD hS hA [6] [0, 1, 2, 3, 4, 5, 7, 8] [0, 1, 2, 3, 4, 5, 8, 6, 7] rfl rfl rfl (by decide) rfl (fun _ => rfl) (fun u45 H locs h hP hD hS => ?_)
          refine lv_aload_n hx hb dX0_take_48 rfl (lv_at hl 2 rfl) ?_
          refine lv_aload_n hx hb dX0_take_49 rfl (lv_at hl 3 rfl) ?_
          refine xcallv (wr := ([] : va_W)) (w2 := fun (u50 : (CS)) => (wM cI aM zM ++ (wZ cI aZ u50))) (va_runV (As := [.ref (aM 0)]) (rest := []) ⟨hx, hb, hml, hown, hts⟩ (mX0_countConstants l D cI cO tA tS aM aZ zM (sr (sr zZ 1 (va_cpy (zZ 0) (zZ 1) 0 0 64)) 0 u45) _ h) (cwV 1 hts gX0_take_X0_countConstants rfl rfl rfl (by decide +kernel) ⟨Nat.le_of_ble_eq_true rfl, Nat.le_of_ble_eq_true rfl⟩) (xpreV hP hD hS hA hK hE [0, 1, 2, 3, 4, 5, 6, 7, 8] rfl rfl 0 5 rfl rfl) rfl rfl hl.1 rfl (lv_room (Nat.le_of_ble_eq_true rfl)) dX0_take_50 ⟨Nat.le_refl 0, Nat.le_refl 0⟩) hP hD hS hA [0, 1, 2, 3, 4, 5, 6, 7, 8] [] [0, 1, 2, 3, 4, 5, 6, 7, 8] rfl rfl rfl (by decide) rfl (fun _ => rfl) (fun u50 H locs h hP hD hS => ?_)
          refine lv_aload_n hx hb dX0_take_53 rfl (lv_at hl 2 rfl) ?_
          refine lv_aload_n hx hb dX0_take_54 rfl (lv_at hl 3 rfl) ?_
          refine lv_iload_n hx hb dX0_take_55 rfl (lv_at hl 4 rfl) ?_
          refine xcallv (wr := ([] : va_W)) (w2 := fun (u56 : (CS)) => (wM cI aM zM ++ (wZ cI aZ u56))) (va_runV (As := [.ref (aM 0), .int x2]) (rest := []) ⟨hx, hb, hml, hown, hts⟩ (mX0_countUnary l D cI cO tA tS aM aZ zM u50 x2 _ h) (cwV 2 hts gX0_take_X0_countUnary rfl rfl rfl (by decide +kernel) ⟨Nat.le_of_ble_eq_true rfl, Nat.le_of_ble_eq_true rfl⟩) (xpreV hP hD hS hA hK hE [0, 1, 2, 3, 4, 5, 6, 7, 8] rfl rfl 0 5 rfl rfl) rfl rfl hl.1 rfl (lv_room (Nat.le_of_ble_eq_true rfl)) dX0_take_56 ⟨Nat.le_refl 0, Nat.le_refl 0⟩) hP hD hS hA [0, 1, 2, 3, 4, 5, 6, 7, 8] [] [0, 1, 2, 3, 4, 5, 6, 7, 8] rfl rfl rfl (by decide) rfl (fun _ => rfl) (fun u56 H locs h hP hD hS => ?_)
          refine lv_aload_n hx hb dX0_take_59 rfl (lv_at hl 2 rfl) ?_
          refine lv_aload_n hx hb dX0_take_60 rfl (lv_at hl 3 rfl) ?_
          refine lv_iload_n hx hb dX0_take_61 rfl (lv_at hl 4 rfl) ?_
          refine xcallv (wr := ([] : va_W)) (w2 := fun (u62 : (CS)) => (wM cI aM zM ++ (wZ cI aZ u62))) (va_runV (As := [.ref (aM 0), .int x2]) (rest := []) ⟨hx, hb, hml, hown, hts⟩ (mX0_countBinary l D cI cO tA tS aM aZ zM u56 x2 _ h) (cwV 2 hts gX0_take_X0_countBinary rfl rfl rfl (by decide +kernel) ⟨Nat.le_of_ble_eq_true rfl, Nat.le_of_ble_eq_true rfl⟩) (xpreV hP hD hS hA hK hE [0, 1, 2, 3, 4, 5, 6, 7, 8] rfl rfl 0 5 rfl rfl) rfl rfl hl.1 rfl (lv_room (Nat.le_of_ble_eq_true rfl)) dX0_take_62 ⟨Nat.le_refl 0, Nat.le_refl 0⟩) hP hD hS hA [0, 1, 2, 3, 4, 5, 6, 7, 8] [] [0, 1, 2, 3, 4, 5, 6, 7, 8] rfl rfl rfl (by decide) rfl (fun _ => rfl) (fun u62 H locs h hP hD hS => ?_)
          refine lv_aload_n hx hb dX0_take_65 rfl (lv_at hl 2 rfl) ?_
          refine lv_iload hx hb dX0_take_66 (lv_at hl 0 rfl) ?_
          refine lv_iload_n hx hb dX0_take_68 rfl (lv_at hl 4 rfl) ?_
          refine xcalli (wr := (wM cI aM zM)) (w2 := fun (u69 : (CS)) => (wM cI aM zM ++ (wZ cI aZ u69))) (va_runV (As := [.int y4, .int x2]) (rest := []) ⟨hx, hb, hml, hown, hts⟩ (mX0_noteGrowth l D cI cO tA tS aZ u62 y4 x2 _ h) (cwV 2 hts gX0_take_X0_noteGrowth rfl rfl rfl (by decide +kernel) ⟨Nat.le_of_ble_eq_true rfl, Nat.le_of_ble_eq_true rfl⟩) (xpreV hP hD hS hA hK hE [5, 6, 7, 8] rfl rfl 0 5 rfl rfl) rfl rfl hl.1 rfl (lv_room (Nat.le_of_ble_eq_true rfl)) dX0_take_69 ⟨Nat.le_refl 0, Nat.le_refl 0⟩) hP hD hS hA [5, 6, 7, 8] [0, 1, 2, 3, 4] [0, 1, 2, 3, 4, 5, 6, 7, 8] rfl rfl rfl (by decide) rfl (fun _ => rfl) (fun r69 u69 H locs h hP hD hS => ?_)
          refine lv_istore_n (lv' := [(3, .int r69), (4, .int y4), (0, .ref (aZ 0)), (1, .ref (aM 0)), (2, .int x2)]) hx hb dX0_take_72 rfl hl (by decide) rfl (fun ls hl => ?_)
          refine lv_iinc (v := (y4 + (1 : Int32))) (lv' := [(4, .int (y4 + (1 : Int32))), (3, .int r69), (0, .ref (aZ 0)), (1, .ref (aM 0)), (2, .int x2)]) hx hb dX0_take_73 hl (k := 1) rfl rfl (by decide) rfl (fun ls hl => ?_)
          refine lv_goto (tgt := 13) hx hb dX0_take_76 (by decide) ?_
          exact hk13 r69 (y4 + (1 : Int32)) u69 _ _ _ h hP hD hS hl
  refine lv_aload_n hx hb dX0_take_0 rfl (lv_at hl 0 rfl) ?_
  refine va_get (D := D) (ci := 0) (v := .ref (aZ 1)) (C := RX0) (T := TX0) (N := 3) hx hb hts jX0_take_X0 hown hK hP 5 rfl rfl 0 (by decide) (hts (.fieldLink RX0 9 "BrotherAutomata$Census" "numbers" "[I") (List.mem_of_getElem? (i := 1) rfl)) (fun _ h9 => h9) rfl dX0_take_1 ?_
  refine lv_iconst (v := 0) hx hb dX0_take_4 (by decide) ?_
  refine xcallv (wr := (wM cI aM zM ++ ([(aZ 0, .inr (0, [.ref (aZ 1), .ref (aZ 2), .ref (aZ 3)])), (aZ 2, .inl (cI, 64, .inl (zZ 1))), (aZ 3, .inl (cI, 64, .inl (zZ 2)))]))) (w2 := fun (u5 : (Nat → Int32)) => (wM cI aM zM ++ (wZ cI aZ (sr zZ 0 u5)))) (va_runS (As := [.ref (aZ 1), .int (0 : Int32)]) (rest := []) ⟨hx, hb, hml, hown, hts⟩ (mJ7_fill_53178 l D cI cO tA tS (aZ 1) 64 (zZ 0) (0 : Int32) _ h) (va_cwS 2 hts gX0_take_J7_fill_53178 rfl rfl rfl (by decide +kernel) ⟨Nat.le_of_ble_eq_true rfl, Nat.le_of_ble_eq_true rfl⟩) (xpreP hP hD hS hA hK hE [6] rfl rfl) rfl rfl hl.1 rfl (lv_room (Nat.le_of_ble_eq_true rfl)) dX0_take_5 ⟨Nat.le_refl 0, Nat.le_refl 0⟩) hP hD hS hA [6] [0, 1, 2, 3, 4, 5, 7, 8] [0, 1, 2, 3, 4, 5, 8, 6, 7] rfl rfl rfl (by decide) rfl (fun _ => rfl) (fun u5 H locs h hP hD hS => ?_)
  refine lv_iconst (v := 1) hx hb dX0_take_8 (by decide) ?_
  refine lv_istore_n (lv' := [(3, .int (1 : Int32)), (0, .ref (aZ 0)), (1, .ref (aM 0)), (2, .int x2)]) hx hb dX0_take_9 rfl hl (by decide) rfl (fun ls hl => ?_)
  refine lv_iconst (v := 0) hx hb dX0_take_10 (by decide) ?_
  refine lv_istore (lv' := [(4, .int (0 : Int32)), (3, .int (1 : Int32)), (0, .ref (aZ 0)), (1, .ref (aM 0)), (2, .int x2)]) hx hb dX0_take_11 hl (by decide) rfl (fun ls hl => ?_)
  obtain ⟨n0, h⟩ := h
  exact g13 n0 (1 : Int32) (0 : Int32) (sr zZ 0 u5) _ _ _ h hP hD hS hl
