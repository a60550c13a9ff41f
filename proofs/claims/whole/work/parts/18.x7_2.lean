set_option maxRecDepth 20000 in
theorem ggX7_isAccepted_X7_subset : GoodIn wsX7_isAccepted wsX7_subset := goodIn_r _ [6, 7, 8, 9, 10, 11, 12, 13, 14, 15, 16, 17, 18, 19, 20, 21, 22] (by decide +kernel) (by decide +kernel)
set_option maxRecDepth 20000 in
theorem gX7_isAccepted_X7_subset : GoodIn wsX7_isAccepted (wsV RX7 97 RX7 yX7_subset wsX7_subset) := goodIn_app (goodIn_of _ (by decide +kernel)) ggX7_isAccepted_X7_subset
theorem dX7_isAccepted_0 : decode cX7_isAccepted 0 = .ok (.aload_n 0, 1) := by decide +kernel
theorem dX7_isAccepted_1 : decode cX7_isAccepted 1 = .ok (.iload_n 1, 1) := by decide +kernel
theorem dX7_isAccepted_2 : decode cX7_isAccepted 2 = .ok (.invokevirtual 97, 3) := by decide +kernel
theorem dX7_isAccepted_5 : decode cX7_isAccepted 5 = .ok (.aload_n 0, 1) := by decide +kernel
theorem dX7_isAccepted_6 : decode cX7_isAccepted 6 = .ok (.getfield 35, 3) := by decide +kernel
theorem dX7_isAccepted_9 : decode cX7_isAccepted 9 = .ok (.bipush 81, 2) := by decide +kernel
theorem dX7_isAccepted_11 : decode cX7_isAccepted 11 = .ok (.iaload, 1) := by decide +kernel
theorem dX7_isAccepted_12 : decode cX7_isAccepted 12 = .ok (.iand, 1) := by decide +kernel
theorem dX7_isAccepted_13 : decode cX7_isAccepted 13 = .ok (.ifCond .eq 7, 3) := by decide +kernel
theorem dX7_isAccepted_16 : decode cX7_isAccepted 16 = .ok (.iconst 1, 1) := by decide +kernel
theorem dX7_isAccepted_17 : decode cX7_isAccepted 17 = .ok (.goto 4, 3) := by decide +kernel
theorem dX7_isAccepted_20 : decode cX7_isAccepted 20 = .ok (.iconst 0, 1) := by decide +kernel
theorem dX7_isAccepted_21 : decode cX7_isAccepted 21 = .ok (.ireturn, 1) := by decide +kernel
theorem jX7_isAccepted_X7 : ∀ w ∈ wsX70, w ∈ wsX7_isAccepted := by decide +kernel
abbrev w_X7_isAccepted (cI cO : ClassId) (aN : Nat → Nat) (zN : CS) : (Unit) → va_W := fun u => (wN cI aN zN)
set_option maxRecDepth 100000 in
set_option maxHeartbeats 8000000 in
theorem mX7_isAccepted (l : Launch) (D : va_G) (cI cO : ClassId) (tA tS : Nat) (aN : Nat → Nat) (zN : CS) (x1 : Int32) (sz : Nat) {post : Int32 → (Unit) → Prop} (h : qX7_isAccepted post x1 zN) : Met l yX7_isAccepted wsX7_isAccepted ({ frames := 1, cells := 0, slots := 0, locals := 23 } : Room) (xPre D cI cO tA tS [.ref (aN 0), .int x1] (wN cI aN zN) sz) (va_Qi post (xB D cI cO (va_A (wN cI aN zN) sz) (w_X7_isAccepted cI cO aN zN)) (va_A (wN cI aN zN) sz)) 0 0 (va_A (wN cI aN zN) sz) := by
  refine xMet D cI cO tA tS (fun A => va_Qi post (xB D cI cO A (w_X7_isAccepted cI cO aN zN)) A) (cc := cX7_isAccepted) (maxL := 2) (ret := (some .boolean)) (by decide) rfl (Nat.le_of_ble_eq_true rfl) ?_
  intro p e s m below meth c A ls hx hb hr hts hown hlocks hin hml hA hS hP hK hD hE hl
  have hown : s.vm.findClass RX7 = some m.cls := hown
  have hl : lv_has ls 2 [(0, .ref (aN 0)), (1, .int x1)] := hl
  refine lv_aload_n hx hb dX7_isAccepted_0 rfl (lv_at hl 0 rfl) ?_
  refine lv_iload_n hx hb dX7_isAccepted_1 rfl (lv_at hl 1 rfl) ?_
  refine xcalli (wr := ([] : va_W)) (w2 := fun (u2 : Unit) => (wN cI aN zN)) (va_runV (As := [.int x1]) (rest := []) ⟨hx, hb, hml, hown, hts⟩ (mX7_subset l D cI cO tA tS aN zN x1 _ h) (cwV 1 hts gX7_isAccepted_X7_subset rfl rfl rfl (by decide +kernel) ⟨Nat.le_of_ble_eq_true rfl, Nat.le_of_ble_eq_true rfl⟩) (xpreV hP hD hS hA hK hE [0, 1, 2, 3, 4, 5, 6, 7, 8, 9, 10, 11] rfl rfl 7 0 rfl rfl) rfl rfl hl.1 rfl (lv_room (Nat.le_of_ble_eq_true rfl)) dX7_isAccepted_2 ⟨Nat.le_refl 0, Nat.le_refl 0⟩) hP hD hS hA [0, 1, 2, 3, 4, 5, 6, 7, 8, 9, 10, 11] [] [0, 1, 2, 3, 4, 5, 6, 7, 8, 9, 10, 11] rfl rfl rfl (by decide) rfl (fun _ => rfl) (fun r2 u2 H locs h hP hD hS => ?_)
  refine lv_aload_n hx hb dX7_isAccepted_5 rfl (lv_at hl 0 rfl) ?_
  refine va_get (D := D) (ci := 7) (v := .ref (aN 8)) (C := RX7) (T := TX7) (N := 14) hx hb hts jX7_isAccepted_X7 hown hK hP 0 rfl rfl 9 (by decide) (hts (.fieldLink RX7 35 "BrotherAutomataModel" "now" "[I") (List.mem_of_getElem? (i := 1) rfl)) (fun _ h9 => h9) rfl dX7_isAccepted_6 ?_
  refine lv_bipush (v := 81) hx hb dX7_isAccepted_9 (by decide) ?_
  obtain ⟨hi, h⟩ := h
  refine va_iald hx hb hK hP 8 0 rfl rfl hi dX7_isAccepted_11 ?_
  refine lv_iand hx hb dX7_isAccepted_12 ?_
  obtain ⟨hh1, hh2⟩ := h
  refine lv_if_eq (tgt := 20) hx hb dX7_isAccepted_13 (by decide) (fun hc => ?_) (fun hc => ?_)
  · have h := hh1 hc
    refine lv_iconst (v := 0) hx hb dX7_isAccepted_20 (by decide) ?_
    exact xzret (w := (w_X7_isAccepted cI cO aN zN)) () hx hb hr hlocks rfl h hP hK hD hS dX7_isAccepted_21
  · have h := hh2 hc
    refine lv_iconst (v := 1) hx hb dX7_isAccepted_16 (by decide) ?_
    refine lv_goto (tgt := 21) hx hb dX7_isAccepted_17 (by decide) ?_
    exact xzret (w := (w_X7_isAccepted cI cO aN zN)) () hx hb hr hlocks rfl h hP hK hD hS dX7_isAccepted_21
set_option maxRecDepth 20000 in
theorem ggX7_accepts_X7_isTree : GoodIn wsX7_accepts wsX7_isTree := goodIn_r _ [4, 5, 6, 3, 7] (by decide +kernel) (by decide +kernel)
set_option maxRecDepth 20000 in
theorem gX7_accepts_X7_isTree : GoodIn wsX7_accepts (va_wsS RX7 87 yX7_isTree wsX7_isTree) := goodIn_app (goodIn_of _ (by decide +kernel)) ggX7_accepts_X7_isTree
set_option maxRecDepth 20000 in
theorem ggX7_accepts_X7_runsTo : GoodIn wsX7_accepts wsX7_runsTo := goodIn_r _ [11, 12, 13, 14, 15, 16, 17, 18, 3, 19, 20, 21, 22, 32, 33, 34, 35, 36, 37, 38, 39, 40, 41, 42, 43, 44, 45] (by decide +kernel) (by decide +kernel)
set_option maxRecDepth 20000 in
theorem gX7_accepts_X7_runsTo : GoodIn wsX7_accepts (wsV RX7 94 RX7 yX7_runsTo wsX7_runsTo) := goodIn_app (goodIn_of _ (by decide +kernel)) ggX7_accepts_X7_runsTo
set_option maxRecDepth 20000 in
theorem ggX7_accepts_X7_isAccepted : GoodIn wsX7_accepts wsX7_isAccepted := goodIn_r _ [26, 13, 27, 28, 29, 3, 30, 31, 12, 32, 33, 34, 35, 36, 37, 38, 39, 40, 41, 42, 43, 44, 45] (by decide +kernel) (by decide +kernel)
set_option maxRecDepth 20000 in
theorem gX7_accepts_X7_isAccepted : GoodIn wsX7_accepts (wsV RX7 100 RX7 yX7_isAccepted wsX7_isAccepted) := goodIn_app (goodIn_of _ (by decide +kernel)) ggX7_accepts_X7_isAccepted
theorem dX7_accepts_0 : decode cX7_accepts 0 = .ok (.iload_n 1, 1) := by decide +kernel
theorem dX7_accepts_1 : decode cX7_accepts 1 = .ok (.invokestatic 87, 3) := by decide +kernel
theorem dX7_accepts_4 : decode cX7_accepts 4 = .ok (.ifCond .ne 5, 3) := by decide +kernel
theorem dX7_accepts_7 : decode cX7_accepts 7 = .ok (.iconst (-1), 1) := by decide +kernel
theorem dX7_accepts_8 : decode cX7_accepts 8 = .ok (.ireturn, 1) := by decide +kernel
theorem dX7_accepts_9 : decode cX7_accepts 9 = .ok (.aload_n 0, 1) := by decide +kernel
theorem dX7_accepts_10 : decode cX7_accepts 10 = .ok (.iload_n 1, 1) := by decide +kernel
theorem dX7_accepts_11 : decode cX7_accepts 11 = .ok (.invokevirtual 94, 3) := by decide +kernel
theorem dX7_accepts_14 : decode cX7_accepts 14 = .ok (.aload_n 0, 1) := by decide +kernel
theorem dX7_accepts_15 : decode cX7_accepts 15 = .ok (.iload_n 1, 1) := by decide +kernel
theorem dX7_accepts_16 : decode cX7_accepts 16 = .ok (.invokevirtual 100, 3) := by decide +kernel
theorem dX7_accepts_19 : decode cX7_accepts 19 = .ok (.ifCond .eq 7, 3) := by decide +kernel
theorem dX7_accepts_22 : decode cX7_accepts 22 = .ok (.iconst 1, 1) := by decide +kernel
theorem dX7_accepts_23 : decode cX7_accepts 23 = .ok (.goto 4, 3) := by decide +kernel
theorem dX7_accepts_26 : decode cX7_accepts 26 = .ok (.iconst 0, 1) := by decide +kernel
theorem dX7_accepts_27 : decode cX7_accepts 27 = .ok (.ireturn, 1) := by decide +kernel
abbrev w_X7_accepts (cI cO : ClassId) (aN : Nat → Nat)  : ((CS)) → va_W := fun u => (wN cI aN u)
set_option maxRecDepth 100000 in
set_option maxHeartbeats 8000000 in
theorem mX7_accepts (l : Launch) (D : va_G) (cI cO : ClassId) (tA tS : Nat) (aN : Nat → Nat) (zN : CS) (x1 : Int32) (sz : Nat) {post : Int32 → ((CS)) → Prop} (h : qX7_accepts post x1 zN) : Met l yX7_accepts wsX7_accepts ({ frames := 2, cells := 0, slots := 0, locals := 45 } : Room) (xPre D cI cO tA tS [.ref (aN 0), .int x1] (wN cI aN zN) sz) (va_Qi post (xB D cI cO (va_A (wN cI aN zN) sz) (w_X7_accepts cI cO aN)) (va_A (wN cI aN zN) sz)) 0 0 (va_A (wN cI aN zN) sz) := by
  refine xMet D cI cO tA tS (fun A => va_Qi post (xB D cI cO A (w_X7_accepts cI cO aN)) A) (cc := cX7_accepts) (maxL := 2) (ret := (some .int)) (by decide) rfl (Nat.le_of_ble_eq_true rfl) ?_
  intro p e s m below meth c A ls hx hb hr hts hown hlocks hin hml hA hS hP hK hD hE hl
  have hown : s.vm.findClass RX7 = some m.cls := hown
  have hl : lv_has ls 2 [(0, .ref (aN 0)), (1, .int x1)] := hl
  refine lv_iload_n hx hb dX7_accepts_0 rfl (lv_at hl 1 rfl) ?_
  refine xcalli (wr := (wN cI aN zN)) (w2 := fun (u1 : Unit) => (wN cI aN zN)) (va_runS (As := [.int x1]) (rest := []) ⟨hx, hb, hml, hown, hts⟩ (mX7_isTree l D cI cO tA tS x1 _ h) (va_cwS 1 hts gX7_accepts_X7_isTree rfl rfl rfl (by decide +kernel) ⟨Nat.le_of_ble_eq_true rfl, Nat.le_of_ble_eq_true rfl⟩) (xpreP hP hD hS hA hK hE [] rfl rfl) rfl rfl hl.1 rfl (lv_room (Nat.le_of_ble_eq_true rfl)) dX7_accepts_1 ⟨Nat.le_refl 0, Nat.le_refl 0⟩) hP hD hS hA [] [0, 1, 2, 3, 4, 5, 6, 7, 8, 9, 10, 11] [0, 1, 2, 3, 4, 5, 6, 7, 8, 9, 10, 11] rfl rfl rfl (by decide) rfl (fun _ => rfl) (fun r1 u1 H locs h hP hD hS => ?_)
  obtain ⟨hh1, hh2⟩ := h
  refine lv_if_ne (tgt := 9) hx hb dX7_accepts_4 (by decide) (fun hc => ?_) (fun hc => ?_)
  · have h := hh2 hc
    refine lv_aload_n hx hb dX7_accepts_9 rfl (lv_at hl 0 rfl) ?_
    refine lv_iload_n hx hb dX7_accepts_10 rfl (lv_at hl 1 rfl) ?_
    refine xcallv (wr := ([] : va_W)) (w2 := fun (u11 : (CS)) => (wN cI aN u11)) (va_runV (As := [.int x1]) (rest := []) ⟨hx, hb, hml, hown, hts⟩ (mX7_runsTo l D cI cO tA tS aN zN x1 _ h) (cwV 1 hts gX7_accepts_X7_runsTo rfl rfl rfl (by decide +kernel) ⟨Nat.le_of_ble_eq_true rfl, Nat.le_of_ble_eq_true rfl⟩) (xpreV hP hD hS hA hK hE [0, 1, 2, 3, 4, 5, 6, 7, 8, 9, 10, 11] rfl rfl 7 0 rfl rfl) rfl rfl hl.1 rfl (lv_room (Nat.le_of_ble_eq_true rfl)) dX7_accepts_11 ⟨Nat.le_refl 0, Nat.le_refl 0⟩) hP hD hS hA [0, 1, 2, 3, 4, 5, 6, 7, 8, 9, 10, 11] [] [0, 1, 2, 3, 4, 5, 6, 7, 8, 9, 10, 11] rfl rfl rfl (by decide) rfl (fun _ => rfl) (fun u11 H locs h hP hD hS => ?_)
    refine lv_aload_n hx hb dX7_accepts_14 rfl (lv_at hl 0 rfl) ?_
    refine lv_iload_n hx hb dX7_accepts_15 rfl (lv_at hl 1 rfl) ?_
    refine xcalli (wr := ([] : va_W)) (w2 := fun (u16 : Unit) => (wN cI aN u11)) (va_runV (As := [.int x1]) (rest := []) ⟨hx, hb, hml, hown, hts⟩ (mX7_isAccepted l D cI cO tA tS aN u11 x1 _ h) (cwV 1 hts gX7_accepts_X7_isAccepted rfl rfl rfl (by decide +kernel) ⟨Nat.le_of_ble_eq_true rfl, Nat.le_of_ble_eq_true rfl⟩) (xpreV hP hD hS hA hK hE [0, 1, 2, 3, 4, 5, 6, 7, 8, 9, 10, 11] rfl rfl 7 0 rfl rfl) rfl rfl hl.1 rfl (lv_room (Nat.le_of_ble_eq_true rfl)) dX7_accepts_16 ⟨Nat.le_refl 0, Nat.le_refl 0⟩) hP hD hS hA [0, 1, 2, 3, 4, 5, 6, 7, 8, 9, 10, 11] [] [0, 1, 2, 3, 4, 5, 6, 7, 8, 9, 10, 11] rfl rfl rfl (by decide) rfl (fun _ => rfl) (fun r16 u16 H locs h hP hD hS => ?_)
    obtain ⟨hh1, hh2⟩ := h
    refine lv_if_eq (tgt := 26) hx hb dX7_accepts_19 (by decide) (fun hc => ?_) (fun hc => ?_)
    · have h := hh1 hc
      refine lv_iconst (v := 0) hx hb dX7_accepts_26 (by decide) ?_
      exact xiret (w := (w_X7_accepts cI cO aN)) (u11) hx hb hr hlocks h hP hK hD hS dX7_accepts_27
    · have h := hh2 hc
      refine lv_iconst (v := 1) hx hb dX7_accepts_22 (by decide) ?_
      refine lv_goto (tgt := 27) hx hb dX7_accepts_23 (by decide) ?_
      exact xiret (w := (w_X7_accepts cI cO aN)) (u11) hx hb hr hlocks h hP hK hD hS dX7_accepts_27
  · have h := hh1 hc
    refine lv_iconst (v := -1) hx hb dX7_accepts_7 (by decide) ?_
    exact xiret (w := (w_X7_accepts cI cO aN)) (zN) hx hb hr hlocks h hP hK hD hS dX7_accepts_8
set_option maxRecDepth 20000 in
theorem ggX7_runCount_X7_isTree : GoodIn wsX7_runCount wsX7_isTree := goodIn_r _ [5, 6, 7, 4, 8] (by decide +kernel) (by decide +kernel)
set_option maxRecDepth 20000 in
theorem gX7_runCount_X7_isTree : GoodIn wsX7_runCount (va_wsS RX7 87 yX7_isTree wsX7_isTree) := goodIn_app (goodIn_of _ (by decide +kernel)) ggX7_runCount_X7_isTree
set_option maxRecDepth 20000 in
theorem ggX7_runCount_X7_isState : GoodIn wsX7_runCount wsX7_isState := goodIn_r _ [12, 13, 6, 7, 4, 8, 28, 29, 30, 31, 32, 33, 34, 35, 36, 37, 38, 39, 40, 41] (by decide +kernel) (by decide +kernel)
set_option maxRecDepth 20000 in
theorem gX7_runCount_X7_isState : GoodIn wsX7_runCount (wsV RX7 65 RX7 yX7_isState wsX7_isState) := goodIn_app (goodIn_of _ (by decide +kernel)) ggX7_runCount_X7_isState
set_option maxRecDepth 20000 in
theorem ggX7_runCount_X7_runsTo : GoodIn wsX7_runCount wsX7_runsTo := goodIn_r _ [17, 1, 18, 19, 20, 21, 22, 23, 4, 24, 25, 26, 27, 28, 29, 30, 31, 32, 33, 34, 35, 36, 37, 38, 39, 40, 41] (by decide +kernel) (by decide +kernel)
set_option maxRecDepth 20000 in
theorem gX7_runCount_X7_runsTo : GoodIn wsX7_runCount (wsV RX7 94 RX7 yX7_runsTo wsX7_runsTo) := goodIn_app (goodIn_of _ (by decide +kernel)) ggX7_runCount_X7_runsTo
theorem dX7_runCount_0 : decode cX7_runCount 0 = .ok (.iload_n 1, 1) := by decide +kernel
theorem dX7_runCount_1 : decode cX7_runCount 1 = .ok (.invokestatic 87, 3) := by decide +kernel
theorem dX7_runCount_4 : decode cX7_runCount 4 = .ok (.ifCond .eq 11, 3) := by decide +kernel
theorem dX7_runCount_7 : decode cX7_runCount 7 = .ok (.aload_n 0, 1) := by decide +kernel
theorem dX7_runCount_8 : decode cX7_runCount 8 = .ok (.iload_n 2, 1) := by decide +kernel
theorem dX7_runCount_9 : decode cX7_runCount 9 = .ok (.invokevirtual 65, 3) := by decide +kernel
theorem dX7_runCount_12 : decode cX7_runCount 12 = .ok (.ifCond .ne 5, 3) := by decide +kernel
theorem dX7_runCount_15 : decode cX7_runCount 15 = .ok (.iconst (-1), 1) := by decide +kernel
theorem dX7_runCount_16 : decode cX7_runCount 16 = .ok (.ireturn, 1) := by decide +kernel
theorem dX7_runCount_17 : decode cX7_runCount 17 = .ok (.aload_n 0, 1) := by decide +kernel
theorem dX7_runCount_18 : decode cX7_runCount 18 = .ok (.iload_n 1, 1) := by decide +kernel
theorem dX7_runCount_19 : decode cX7_runCount 19 = .ok (.invokevirtual 94, 3) := by decide +kernel
theorem dX7_runCount_22 : decode cX7_runCount 22 = .ok (.aload_n 0, 1) := by decide +kernel
theorem dX7_runCount_23 : decode cX7_runCount 23 = .ok (.getfield 28, 3) := by decide +kernel
theorem dX7_runCount_26 : decode cX7_runCount 26 = .ok (.bipush 6, 2) := by decide +kernel
theorem dX7_runCount_28 : decode cX7_runCount 28 = .ok (.iload_n 1, 1) := by decide +kernel
theorem dX7_runCount_29 : decode cX7_runCount 29 = .ok (.imul, 1) := by decide +kernel
theorem dX7_runCount_30 : decode cX7_runCount 30 = .ok (.iload_n 2, 1) := by decide +kernel
theorem dX7_runCount_31 : decode cX7_runCount 31 = .ok (.iadd, 1) := by decide +kernel
theorem dX7_runCount_32 : decode cX7_runCount 32 = .ok (.iaload, 1) := by decide +kernel
theorem dX7_runCount_33 : decode cX7_runCount 33 = .ok (.ireturn, 1) := by decide +kernel
theorem jX7_runCount_X7 : ∀ w ∈ wsX70, w ∈ wsX7_runCount := by decide +kernel
abbrev w_X7_runCount (cI cO : ClassId) (aN : Nat → Nat)  : ((CS)) → va_W := fun u => (wN cI aN u)
set_option maxRecDepth 100000 in
set_option maxHeartbeats 8000000 in
theorem mX7_runCount (l : Launch) (D : va_G) (cI cO : ClassId) (tA tS : Nat) (aN : Nat → Nat) (zN : CS) (x1 : Int32) (x2 : Int32) (sz : Nat) {post : Int32 → ((CS)) → Prop} (h : qX7_runCount post x1 x2 zN) : Met l yX7_runCount wsX7_runCount ({ frames := 2, cells := 0, slots := 0, locals := 45 } : Room) (xPre D cI cO tA tS [.ref (aN 0), .int x1, .int x2] (wN cI aN zN) sz) (va_Qi post (xB D cI cO (va_A (wN cI aN zN) sz) (w_X7_runCount cI cO aN)) (va_A (wN cI aN zN) sz)) 0 0 (va_A (wN cI aN zN) sz) := by
  refine xMet D cI cO tA tS (fun A => va_Qi post (xB D cI cO A (w_X7_runCount cI cO aN)) A) (cc := cX7_runCount) (maxL := 3) (ret := (some .int)) (by decide) rfl (Nat.le_of_ble_eq_true rfl) ?_
  intro p e s m below meth c A ls hx hb hr hts hown hlocks hin hml hA hS hP hK hD hE hl
  have hown : s.vm.findClass RX7 = some m.cls := hown
  have hl : lv_has ls 3 [(0, .ref (aN 0)), (1, .int x1), (2, .int x2)] := hl
  have g15 : ∀ (zN : CS) (H : Heap) (locs : List Loc) (ls : Array Slot), qX7_runCount_15 post x1 x2 zN → va_P D vwCl (wN cI aN zN) H → va_D A (wN cI aN zN) → va_S A s.heap H locs → lv_has ls 3 [(0, .ref (aN 0)), (1, .int x1), (2, .int x2)] → W p l e ({ frames := 2, cells := 0, slots := 0, locals := 45 } : Room) s m ([.ref (aN 0), .int x1, .int x2] : List Value).toArray below meth c H locs 0 0 (MQ below (va_Qi post (xB D cI cO A (w_X7_runCount cI cO aN)) A) ([.ref (aN 0), .int x1, .int x2] : List Value).toArray s 0 0 A) (F0 m 15 ls []) := by
    intro zN H locs ls h hP hD hS hl
    refine lv_iconst (v := -1) hx hb dX7_runCount_15 (by decide) ?_
    exact xiret (w := (w_X7_runCount cI cO aN)) (zN) hx hb hr hlocks h hP hK hD hS dX7_runCount_16
  refine lv_iload_n hx hb dX7_runCount_0 rfl (lv_at hl 1 rfl) ?_
  refine xcalli (wr := (wN cI aN zN)) (w2 := fun (u1 : Unit) => (wN cI aN zN)) (va_runS (As := [.int x1]) (rest := []) ⟨hx, hb, hml, hown, hts⟩ (mX7_isTree l D cI cO tA tS x1 _ h) (va_cwS 1 hts gX7_runCount_X7_isTree rfl rfl rfl (by decide +kernel) ⟨Nat.le_of_ble_eq_true rfl, Nat.le_of_ble_eq_true rfl⟩) (xpreP hP hD hS hA hK hE [] rfl rfl) rfl rfl hl.1 rfl (lv_room (Nat.le_of_ble_eq_true rfl)) dX7_runCount_1 ⟨Nat.le_refl 0, Nat.le_refl 0⟩) hP hD hS hA [] [0, 1, 2, 3, 4, 5, 6, 7, 8, 9, 10, 11] [0, 1, 2, 3, 4, 5, 6, 7, 8, 9, 10, 11] rfl rfl rfl (by decide) rfl (fun _ => rfl) (fun r1 u1 H locs h hP hD hS => ?_)
  obtain ⟨hh1, hh2⟩ := h
  refine lv_if_eq (tgt := 15) hx hb dX7_runCount_4 (by decide) (fun hc => ?_) (fun hc => ?_)
  · have h := hh1 hc
    exact g15 zN _ _ _ h hP hD hS hl
  · have h := hh2 hc
    refine lv_aload_n hx hb dX7_runCount_7 rfl (lv_at hl 0 rfl) ?_
    refine lv_iload_n hx hb dX7_runCount_8 rfl (lv_at hl 2 rfl) ?_
    refine xcalli (wr := ([] : va_W)) (w2 := fun (u9 : Unit) => (wN cI aN zN)) (va_runV (As := [.int x2]) (rest := []) ⟨hx, hb, hml, hown, hts⟩ (mX7_isState l D cI cO tA tS aN zN x2 _ h) (cwV 1 hts gX7_runCount_X7_isState rfl rfl rfl (by decide +kernel) ⟨Nat.le_of_ble_eq_true rfl, Nat.le_of_ble_eq_true rfl⟩) (xpreV hP hD hS hA hK hE [0, 1, 2, 3, 4, 5, 6, 7, 8, 9, 10, 11] rfl rfl 7 0 rfl rfl) rfl rfl hl.1 rfl (lv_room (Nat.le_of_ble_eq_true rfl)) dX7_runCount_9 ⟨Nat.le_refl 0, Nat.le_refl 0⟩) hP hD hS hA [0, 1, 2, 3, 4, 5, 6, 7, 8, 9, 10, 11] [] [0, 1, 2, 3, 4, 5, 6, 7, 8, 9, 10, 11] rfl rfl rfl (by decide) rfl (fun _ => rfl) (fun r9 u9 H locs h hP hD hS => ?_)
    obtain ⟨hh1, hh2⟩ := h
    refine lv_if_ne (tgt := 17) hx hb dX7_runCount_12 (by decide) (fun hc => ?_) (fun hc => ?_)
    · have h := hh2 hc
      refine lv_aload_n hx hb dX7_runCount_17 rfl (lv_at hl 0 rfl) ?_
      refine lv_iload_n hx hb dX7_runCount_18 rfl (lv_at hl 1 rfl) ?_
      refine xcallv (wr := ([] : va_W)) (w2 := fun (u19 : (CS)) => (wN cI aN u19)) (va_runV (As := [.int x1]) (rest := []) ⟨hx, hb, hml, hown, hts⟩ (mX7_runsTo l D cI cO tA tS aN zN x1 _ h) (cwV 1 hts gX7_runCount_X7_runsTo rfl rfl rfl (by decide +kernel) ⟨Nat.le_of_ble_eq_true rfl, Nat.le_of_ble_eq_true rfl⟩) (xpreV hP hD hS hA hK hE [0, 1, 2, 3, 4, 5, 6, 7, 8, 9, 10, 11] rfl rfl 7 0 rfl rfl) rfl rfl hl.1 rfl (lv_room (Nat.le_of_ble_eq_true rfl)) dX7_runCount_19 ⟨Nat.le_refl 0, Nat.le_refl 0⟩) hP hD hS hA [0, 1, 2, 3, 4, 5, 6, 7, 8, 9, 10, 11] [] [0, 1, 2, 3, 4, 5, 6, 7, 8, 9, 10, 11] rfl rfl rfl (by decide) rfl (fun _ => rfl) (fun u19 H locs h hP hD hS => ?_)
      refine lv_aload_n hx hb dX7_runCount_22 rfl (lv_at hl 0 rfl) ?_
      refine va_get (D := D) (ci := 7) (v := .ref (aN 7)) (C := RX7) (T := TX7) (N := 14) hx hb hts jX7_runCount_X7 hown hK hP 0 rfl rfl 7 (by decide) (hts (.fieldLink RX7 28 "BrotherAutomataModel" "runs" "[I") (List.mem_of_getElem? (i := 1) rfl)) (fun _ h9 => h9) rfl dX7_runCount_23 ?_
      refine lv_bipush (v := 6) hx hb dX7_runCount_26 (by decide) ?_
      refine lv_iload_n hx hb dX7_runCount_28 rfl (lv_at hl 1 rfl) ?_
      refine lv_imul hx hb dX7_runCount_29 ?_
      refine lv_iload_n hx hb dX7_runCount_30 rfl (lv_at hl 2 rfl) ?_
      refine lv_iadd hx hb dX7_runCount_31 ?_
      obtain ⟨hi, h⟩ := h
      refine va_iald hx hb hK hP 7 0 rfl rfl hi dX7_runCount_32 ?_
      exact xiret (w := (w_X7_runCount cI cO aN)) (u19) hx hb hr hlocks h hP hK hD hS dX7_runCount_33
    · have h := hh1 hc
      exact g15 zN _ _ _ h hP hD hS hl
set_option maxRecDepth 20000 in
theorem ggX7_acceptedCount_X7_isSize : GoodIn wsX7_acceptedCount wsX7_isSize := goodIn_r _ [5, 6, 7, 4, 8] (by decide +kernel) (by decide +kernel)
set_option maxRecDepth 20000 in
theorem gX7_acceptedCount_X7_isSize : GoodIn wsX7_acceptedCount (va_wsS RX7 84 yX7_isSize wsX7_isSize) := goodIn_app (goodIn_of _ (by decide +kernel)) ggX7_acceptedCount_X7_isSize
set_option maxRecDepth 20000 in
theorem ggX7_acceptedCount_X7_runsTo : GoodIn wsX7_acceptedCount wsX7_runsTo := goodIn_r _ [12, 13, 14, 15, 16, 17, 18, 19, 4, 20, 21, 22, 23, 33, 34, 35, 36, 37, 38, 39, 40, 41, 42, 43, 44, 45, 46] (by decide +kernel) (by decide +kernel)
set_option maxRecDepth 20000 in
theorem gX7_acceptedCount_X7_runsTo : GoodIn wsX7_acceptedCount (wsV RX7 94 RX7 yX7_runsTo wsX7_runsTo) := goodIn_app (goodIn_of _ (by decide +kernel)) ggX7_acceptedCount_X7_runsTo
set_option maxRecDepth 20000 in
theorem ggX7_acceptedCount_X7_isAccepted : GoodIn wsX7_acceptedCount wsX7_isAccepted := goodIn_r _ [27, 14, 28, 29, 30, 4, 31, 32, 13, 33, 34, 35, 36, 37, 38, 39, 40, 41, 42, 43, 44, 45, 46] (by decide +kernel) (by decide +kernel)
set_option maxRecDepth 20000 in
theorem gX7_acceptedCount_X7_isAccepted : GoodIn wsX7_acceptedCount (wsV RX7 100 RX7 yX7_isAccepted wsX7_isAccepted) := goodIn_app (goodIn_of _ (by decide +kernel)) ggX7_acceptedCount_X7_isAccepted
theorem dX7_acceptedCount_0 : decode cX7_acceptedCount 0 = .ok (.iload_n 1, 1) := by decide +kernel
theorem dX7_acceptedCount_1 : decode cX7_acceptedCount 1 = .ok (.invokestatic 84, 3) := by decide +kernel
theorem dX7_acceptedCount_4 : decode cX7_acceptedCount 4 = .ok (.ifCond .ne 5, 3) := by decide +kernel
theorem dX7_acceptedCount_7 : decode cX7_acceptedCount 7 = .ok (.iconst (-1), 1) := by decide +kernel
theorem dX7_acceptedCount_8 : decode cX7_acceptedCount 8 = .ok (.ireturn, 1) := by decide +kernel
theorem dX7_acceptedCount_9 : decode cX7_acceptedCount 9 = .ok (.aload_n 0, 1) := by decide +kernel
theorem dX7_acceptedCount_10 : decode cX7_acceptedCount 10 = .ok (.aload_n 0, 1) := by decide +kernel
theorem dX7_acceptedCount_11 : decode cX7_acceptedCount 11 = .ok (.getfield 25, 3) := by decide +kernel
theorem dX7_acceptedCount_14 : decode cX7_acceptedCount 14 = .ok (.iload_n 1, 1) := by decide +kernel
theorem dX7_acceptedCount_15 : decode cX7_acceptedCount 15 = .ok (.iconst 1, 1) := by decide +kernel
theorem dX7_acceptedCount_16 : decode cX7_acceptedCount 16 = .ok (.iadd, 1) := by decide +kernel
theorem dX7_acceptedCount_17 : decode cX7_acceptedCount 17 = .ok (.iaload, 1) := by decide +kernel
theorem dX7_acceptedCount_18 : decode cX7_acceptedCount 18 = .ok (.iconst 1, 1) := by decide +kernel
theorem dX7_acceptedCount_19 : decode cX7_acceptedCount 19 = .ok (.isub, 1) := by decide +kernel
theorem dX7_acceptedCount_20 : decode cX7_acceptedCount 20 = .ok (.invokevirtual 94, 3) := by decide +kernel
theorem dX7_acceptedCount_23 : decode cX7_acceptedCount 23 = .ok (.iconst 0, 1) := by decide +kernel
theorem dX7_acceptedCount_24 : decode cX7_acceptedCount 24 = .ok (.istore_n 2, 1) := by decide +kernel
theorem dX7_acceptedCount_25 : decode cX7_acceptedCount 25 = .ok (.aload_n 0, 1) := by decide +kernel
theorem dX7_acceptedCount_26 : decode cX7_acceptedCount 26 = .ok (.getfield 25, 3) := by decide +kernel
theorem dX7_acceptedCount_29 : decode cX7_acceptedCount 29 = .ok (.iload_n 1, 1) := by decide +kernel
theorem dX7_acceptedCount_30 : decode cX7_acceptedCount 30 = .ok (.iaload, 1) := by decide +kernel
theorem dX7_acceptedCount_31 : decode cX7_acceptedCount 31 = .ok (.istore_n 3, 1) := by decide +kernel
theorem dX7_acceptedCount_32 : decode cX7_acceptedCount 32 = .ok (.iload_n 3, 1) := by decide +kernel
theorem dX7_acceptedCount_33 : decode cX7_acceptedCount 33 = .ok (.aload_n 0, 1) := by decide +kernel
theorem dX7_acceptedCount_34 : decode cX7_acceptedCount 34 = .ok (.getfield 25, 3) := by decide +kernel
theorem dX7_acceptedCount_37 : decode cX7_acceptedCount 37 = .ok (.iload_n 1, 1) := by decide +kernel
theorem dX7_acceptedCount_38 : decode cX7_acceptedCount 38 = .ok (.iconst 1, 1) := by decide +kernel
theorem dX7_acceptedCount_39 : decode cX7_acceptedCount 39 = .ok (.iadd, 1) := by decide +kernel
theorem dX7_acceptedCount_40 : decode cX7_acceptedCount 40 = .ok (.iaload, 1) := by decide +kernel
theorem dX7_acceptedCount_41 : decode cX7_acceptedCount 41 = .ok (.if_icmp .ge 25, 3) := by decide +kernel
theorem dX7_acceptedCount_44 : decode cX7_acceptedCount 44 = .ok (.iload_n 2, 1) := by decide +kernel
theorem dX7_acceptedCount_45 : decode cX7_acceptedCount 45 = .ok (.aload_n 0, 1) := by decide +kernel
theorem dX7_acceptedCount_46 : decode cX7_acceptedCount 46 = .ok (.iload_n 3, 1) := by decide +kernel
theorem dX7_acceptedCount_47 : decode cX7_acceptedCount 47 = .ok (.invokevirtual 100, 3) := by decide +kernel
theorem dX7_acceptedCount_50 : decode cX7_acceptedCount 50 = .ok (.ifCond .eq 7, 3) := by decide +kernel
theorem dX7_acceptedCount_53 : decode cX7_acceptedCount 53 = .ok (.iconst 1, 1) := by decide +kernel
theorem dX7_acceptedCount_54 : decode cX7_acceptedCount 54 = .ok (.goto 4, 3) := by decide +kernel
theorem dX7_acceptedCount_57 : decode cX7_acceptedCount 57 = .ok (.iconst 0, 1) := by decide +kernel
theorem dX7_acceptedCount_58 : decode cX7_acceptedCount 58 = .ok (.iadd, 1) := by decide +kernel
theorem dX7_acceptedCount_59 : decode cX7_acceptedCount 59 = .ok (.istore_n 2, 1) := by decide +kernel
theorem dX7_acceptedCount_60 : decode cX7_acceptedCount 60 = .ok (.iinc 3 1, 3) := by decide +kernel
theorem dX7_acceptedCount_63 : decode cX7_acceptedCount 63 = .ok (.goto (-31), 3) := by decide +kernel
theorem dX7_acceptedCount_66 : decode cX7_acceptedCount 66 = .ok (.iload_n 2, 1) := by decide +kernel
theorem dX7_acceptedCount_67 : decode cX7_acceptedCount 67 = .ok (.ireturn, 1) := by decide +kernel
theorem jX7_acceptedCount_X7 : ∀ w ∈ wsX70, w ∈ wsX7_acceptedCount := by decide +kernel
abbrev w_X7_acceptedCount (cI cO : ClassId) (aN : Nat → Nat)  : ((CS)) → va_W := fun u => (wN cI aN u)
set_option maxRecDepth 100000 in
set_option maxHeartbeats 8000000 in
theorem mX7_acceptedCount (l : Launch) (D : va_G) (cI cO : ClassId) (tA tS : Nat) (aN : Nat → Nat) (zN : CS) (x1 : Int32) (sz : Nat) {post : Int32 → ((CS)) → Prop} (h : qX7_acceptedCount post x1 zN) : Met l yX7_acceptedCount wsX7_acceptedCount ({ frames := 2, cells := 0, slots := 0, locals := 45 } : Room) (xPre D cI cO tA tS [.ref (aN 0), .int x1] (wN cI aN zN) sz) (va_Qi post (xB D cI cO (va_A (wN cI aN zN) sz) (w_X7_acceptedCount cI cO aN)) (va_A (wN cI aN zN) sz)) 0 0 (va_A (wN cI aN zN) sz) := by
  refine xMet D cI cO tA tS (fun A => va_Qi post (xB D cI cO A (w_X7_acceptedCount cI cO aN)) A) (cc := cX7_acceptedCount) (maxL := 4) (ret := (some .int)) (by decide) rfl (Nat.le_of_ble_eq_true rfl) ?_
  intro p e s m below meth c A ls hx hb hr hts hown hlocks hin hml hA hS hP hK hD hE hl
  have hown : s.vm.findClass RX7 = some m.cls := hown
  have hl : lv_has ls 4 [(0, .ref (aN 0)), (1, .int x1)] := hl
  have g58 : ∀ (k32 : (Int32) → (Int32) → (CS) → Prop), (∀ (y2 : Int32) (y3 : Int32) (zN : CS) (H : Heap) (locs : List Loc) (ls : Array Slot), k32 y2 y3 zN → va_P D vwCl (wN cI aN zN) H → va_D A (wN cI aN zN) → va_S A s.heap H locs → lv_has ls 4 [(3, .int y3), (2, .int y2), (0, .ref (aN 0)), (1, .int x1)] → W p l e ({ frames := 2, cells := 0, slots := 0, locals := 45 } : Room) s m ([.ref (aN 0), .int x1] : List Value).toArray below meth c H locs 0 0 (MQ below (va_Qi post (xB D cI cO A (w_X7_acceptedCount cI cO aN)) A) ([.ref (aN 0), .int x1] : List Value).toArray s 0 0 A) (F0 m 32 ls [])) → ∀ (y2 : Int32) (y3 : Int32) (w0 : Int32) (w1 : Int32) (zN : CS) (H : Heap) (locs : List Loc) (ls : Array Slot), qX7_acceptedCount_58 post x1 k32 y2 y3 w0 w1 zN → va_P D vwCl (wN cI aN zN) H → va_D A (wN cI aN zN) → va_S A s.heap H locs → lv_has ls 4 [(3, .int y3), (2, .int y2), (0, .ref (aN 0)), (1, .int x1)] → W p l e ({ frames := 2, cells := 0, slots := 0, locals := 45 } : Room) s m ([.ref (aN 0), .int x1] : List Value).toArray below meth c H locs 0 0 (MQ below (va_Qi post (xB D cI cO A (w_X7_acceptedCount cI cO aN)) A) ([.ref (aN 0), .int x1] : List Value).toArray s 0 0 A) (F0 m 58 ls [.int w1, .int w0]) := by
    intro k32 hk32 y2 y3 w0 w1 zN H locs ls h hP hD hS hl
    refine lv_iadd hx hb dX7_acceptedCount_58 ?_
    refine lv_istore_n (lv' := [(2, .int (w0 + w1)), (3, .int y3), (0, .ref (aN 0)), (1, .int x1)]) hx hb dX7_acceptedCount_59 rfl hl (by decide) rfl (fun ls hl => ?_)
    refine lv_iinc (v := (y3 + (1 : Int32))) (lv' := [(3, .int (y3 + (1 : Int32))), (2, .int (w0 + w1)), (0, .ref (aN 0)), (1, .int x1)]) hx hb dX7_acceptedCount_60 hl (k := 1) rfl rfl (by decide) rfl (fun ls hl => ?_)
    refine lv_goto (tgt := 32) hx hb dX7_acceptedCount_63 (by decide) ?_
    exact hk32 (w0 + w1) (y3 + (1 : Int32)) zN _ _ _ h hP hD hS hl
  have g32 : ∀ (n : Nat) (y2 : Int32) (y3 : Int32) (zN : CS) (H : Heap) (locs : List Loc) (ls : Array Slot), qX7_acceptedCount_32 post x1 n y2 y3 zN → va_P D vwCl (wN cI aN zN) H → va_D A (wN cI aN zN) → va_S A s.heap H locs → lv_has ls 4 [(3, .int y3), (2, .int y2), (0, .ref (aN 0)), (1, .int x1)] → W p l e ({ frames := 2, cells := 0, slots := 0, locals := 45 } : Room) s m ([.ref (aN 0), .int x1] : List Value).toArray below meth c H locs 0 0 (MQ below (va_Qi post (xB D cI cO A (w_X7_acceptedCount cI cO aN)) A) ([.ref (aN 0), .int x1] : List Value).toArray s 0 0 A) (F0 m 32 ls []) := by
    intro n
    induction n with
    | zero => intro y2 y3 zN H locs ls h; exact False.elim h
    | succ n hk32 =>
      intro y2 y3 zN H locs ls h hP hD hS hl
      have h : qX7_acceptedCount_32b post x1 (qX7_acceptedCount_32 post x1 n) y2 y3 zN := h
      refine lv_iload_n hx hb dX7_acceptedCount_32 rfl (lv_at hl 0 rfl) ?_
      refine lv_aload_n hx hb dX7_acceptedCount_33 rfl (lv_at hl 2 rfl) ?_
      refine va_get (D := D) (ci := 7) (v := .ref (aN 6)) (C := RX7) (T := TX7) (N := 14) hx hb hts jX7_acceptedCount_X7 hown hK hP 0 rfl rfl 6 (by decide) (hts (.fieldLink RX7 25 "BrotherAutomataModel" "begin" "[I") (List.mem_of_getElem? (i := 1) rfl)) (fun _ h9 => h9) rfl dX7_acceptedCount_34 ?_
      refine lv_iload_n hx hb dX7_acceptedCount_37 rfl (lv_at hl 3 rfl) ?_
      refine lv_iconst (v := 1) hx hb dX7_acceptedCount_38 (by decide) ?_
      refine lv_iadd hx hb dX7_acceptedCount_39 ?_
      obtain ⟨hi, h⟩ := h
      refine va_iald hx hb hK hP 6 0 rfl rfl hi dX7_acceptedCount_40 ?_
      obtain ⟨hh1, hh2⟩ := h
      refine lv_icmp_ge (tgt := 66) hx hb dX7_acceptedCount_41 (by decide) (fun hc => ?_) (fun hc => ?_)
      · have h := hh1 hc
        refine lv_iload_n hx hb dX7_acceptedCount_66 rfl (lv_at hl 1 rfl) ?_
        exact xiret (w := (w_X7_acceptedCount cI cO aN)) (zN) hx hb hr hlocks h hP hK hD hS dX7_acceptedCount_67
      · have h := hh2 hc
        refine lv_iload_n hx hb dX7_acceptedCount_44 rfl (lv_at hl 1 rfl) ?_
        refine lv_aload_n hx hb dX7_acceptedCount_45 rfl (lv_at hl 2 rfl) ?_
        refine lv_iload_n hx hb dX7_acceptedCount_46 rfl (lv_at hl 0 rfl) ?_
        refine xcalli (wr := ([] : va_W)) (w2 := fun (u47 : Unit) => (wN cI aN zN)) (va_runV (As := [.int y3]) (rest := [.int y2]) ⟨hx, hb, hml, hown, hts⟩ (mX7_isAccepted l D cI cO tA tS aN zN y3 _ h) (cwV 1 hts gX7_acceptedCount_X7_isAccepted rfl rfl rfl (by decide +kernel) ⟨Nat.le_of_ble_eq_true rfl, Nat.le_of_ble_eq_true rfl⟩) (xpreV hP hD hS hA hK hE [0, 1, 2, 3, 4, 5, 6, 7, 8, 9, 10, 11] rfl rfl 7 0 rfl rfl) rfl rfl hl.1 rfl (lv_room (Nat.le_of_ble_eq_true rfl)) dX7_acceptedCount_47 ⟨Nat.le_refl 0, Nat.le_refl 0⟩) hP hD hS hA [0, 1, 2, 3, 4, 5, 6, 7, 8, 9, 10, 11] [] [0, 1, 2, 3, 4, 5, 6, 7, 8, 9, 10, 11] rfl rfl rfl (by decide) rfl (fun _ => rfl) (fun r47 u47 H locs h hP hD hS => ?_)
        obtain ⟨hh1, hh2⟩ := h
        refine lv_if_eq (tgt := 57) hx hb dX7_acceptedCount_50 (by decide) (fun hc => ?_) (fun hc => ?_)
        · have h := hh1 hc
          refine lv_iconst (v := 0) hx hb dX7_acceptedCount_57 (by decide) ?_
          exact g58 (qX7_acceptedCount_32 post x1 n) hk32 y2 y3 y2 (0 : Int32) zN _ _ _ h hP hD hS hl
        · have h := hh2 hc
          refine lv_iconst (v := 1) hx hb dX7_acceptedCount_53 (by decide) ?_
          refine lv_goto (tgt := 58) hx hb dX7_acceptedCount_54 (by decide) ?_
          exact g58 (qX7_acceptedCount_32 post x1 n) hk32 y2 y3 y2 (1 : Int32) zN _ _ _ h hP hD hS hl
  refine lv_iload_n hx hb dX7_acceptedCount_0 rfl (lv_at hl 1 rfl) ?_
  refine xcalli (wr := (wN cI aN zN)) (w2 := fun (u1 : Unit) => (wN cI aN zN)) (va_runS (As := [.int x1]) (rest := []) ⟨hx, hb, hml, hown, hts⟩ (mX7_isSize l D cI cO tA tS x1 _ h) (va_cwS 1 hts gX7_acceptedCount_X7_isSize rfl rfl rfl (by decide +kernel) ⟨Nat.le_of_ble_eq_true rfl, Nat.le_of_ble_eq_true rfl⟩) (xpreP hP hD hS hA hK hE [] rfl rfl) rfl rfl hl.1 rfl (lv_room (Nat.le_of_ble_eq_true rfl)) dX7_acceptedCount_1 ⟨Nat.le_refl 0, Nat.le_refl 0⟩) hP hD hS hA [] [0, 1, 2, 3, 4, 5, 6, 7, 8, 9, 10, 11] [0, 1, 2, 3, 4, 5, 6, 7, 8, 9, 10, 11] rfl rfl rfl (by decide) rfl (fun _ => rfl) (fun r1 u1 H locs h hP hD hS => ?_)
  obtain ⟨hh1, hh2⟩ := h
  refine lv_if_ne (tgt := 9) hx hb dX7_acceptedCount_4 (by decide) (fun hc => ?_) (fun hc => ?_)
  · have h := hh2 hc
    refine lv_aload_n hx hb dX7_acceptedCount_9 rfl (lv_at hl 0 rfl) ?_
    refine lv_aload_n hx hb dX7_acceptedCount_10 rfl (lv_at hl 0 rfl) ?_
    refine va_get (D := D) (ci := 7) (v := .ref (aN 6)) (C := RX7) (T := TX7) (N := 14) hx hb hts jX7_acceptedCount_X7 hown hK hP 0 rfl rfl 6 (by decide) (hts (.fieldLink RX7 25 "BrotherAutomataModel" "begin" "[I") (List.mem_of_getElem? (i := 1) rfl)) (fun _ h9 => h9) rfl dX7_acceptedCount_11 ?_
    refine lv_iload_n hx hb dX7_acceptedCount_14 rfl (lv_at hl 1 rfl) ?_
    refine lv_iconst (v := 1) hx hb dX7_acceptedCount_15 (by decide) ?_
    refine lv_iadd hx hb dX7_acceptedCount_16 ?_
    obtain ⟨hi, h⟩ := h
    refine va_iald hx hb hK hP 6 0 rfl rfl hi dX7_acceptedCount_17 ?_
    refine lv_iconst (v := 1) hx hb dX7_acceptedCount_18 (by decide) ?_
    refine lv_isub hx hb dX7_acceptedCount_19 ?_
    refine xcallv (wr := ([] : va_W)) (w2 := fun (u20 : (CS)) => (wN cI aN u20)) (va_runV (As := [.int (((zN 5) (x1 + (1 : Int32)).toNatClampNeg) - (1 : Int32))]) (rest := []) ⟨hx, hb, hml, hown, hts⟩ (mX7_runsTo l D cI cO tA tS aN zN (((zN 5) (x1 + (1 : Int32)).toNatClampNeg) - (1 : Int32)) _ h) (cwV 1 hts gX7_acceptedCount_X7_runsTo rfl rfl rfl (by decide +kernel) ⟨Nat.le_of_ble_eq_true rfl, Nat.le_of_ble_eq_true rfl⟩) (xpreV hP hD hS hA hK hE [0, 1, 2, 3, 4, 5, 6, 7, 8, 9, 10, 11] rfl rfl 7 0 rfl rfl) rfl rfl hl.1 rfl (lv_room (Nat.le_of_ble_eq_true rfl)) dX7_acceptedCount_20 ⟨Nat.le_refl 0, Nat.le_refl 0⟩) hP hD hS hA [0, 1, 2, 3, 4, 5, 6, 7, 8, 9, 10, 11] [] [0, 1, 2, 3, 4, 5, 6, 7, 8, 9, 10, 11] rfl rfl rfl (by decide) rfl (fun _ => rfl) (fun u20 H locs h hP hD hS => ?_)
    refine lv_iconst (v := 0) hx hb dX7_acceptedCount_23 (by decide) ?_
    refine lv_istore_n (lv' := [(2, .int (0 : Int32)), (0, .ref (aN 0)), (1, .int x1)]) hx hb dX7_acceptedCount_24 rfl hl (by decide) rfl (fun ls hl => ?_)
    refine lv_aload_n hx hb dX7_acceptedCount_25 rfl (lv_at hl 1 rfl) ?_
    refine va_get (D := D) (ci := 7) (v := .ref (aN 6)) (C := RX7) (T := TX7) (N := 14) hx hb hts jX7_acceptedCount_X7 hown hK hP 0 rfl rfl 6 (by decide) (hts (.fieldLink RX7 25 "BrotherAutomataModel" "begin" "[I") (List.mem_of_getElem? (i := 1) rfl)) (fun _ h9 => h9) rfl dX7_acceptedCount_26 ?_
    refine lv_iload_n hx hb dX7_acceptedCount_29 rfl (lv_at hl 2 rfl) ?_
    obtain ⟨hi, h⟩ := h
    refine va_iald hx hb hK hP 6 0 rfl rfl hi dX7_acceptedCount_30 ?_
    refine lv_istore_n (lv' := [(3, .int ((u20 5) x1.toNatClampNeg)), (2, .int (0 : Int32)), (0, .ref (aN 0)), (1, .int x1)]) hx hb dX7_acceptedCount_31 rfl hl (by decide) rfl (fun ls hl => ?_)
    obtain ⟨n0, h⟩ := h
    exact g32 n0 (0 : Int32) ((u20 5) x1.toNatClampNeg) u20 _ _ _ h hP hD hS hl
  · have h := hh1 hc
    refine lv_iconst (v := -1) hx hb dX7_acceptedCount_7 (by decide) ?_
    exact xiret (w := (w_X7_acceptedCount cI cO aN)) (zN) hx hb hr hlocks h hP hK hD hS dX7_acceptedCount_8
set_option maxRecDepth 20000 in
theorem ggX7_acceptedTree_X7_isSize : GoodIn wsX7_acceptedTree wsX7_isSize := goodIn_r _ [5, 6, 7, 4, 8] (by decide +kernel) (by decide +kernel)
set_option maxRecDepth 20000 in
theorem gX7_acceptedTree_X7_isSize : GoodIn wsX7_acceptedTree (va_wsS RX7 84 yX7_isSize wsX7_isSize) := goodIn_app (goodIn_of _ (by decide +kernel)) ggX7_acceptedTree_X7_isSize
set_option maxRecDepth 20000 in
theorem ggX7_acceptedTree_X7_runsTo : GoodIn wsX7_acceptedTree wsX7_runsTo := goodIn_r _ [12, 13, 14, 15, 16, 17, 18, 19, 4, 20, 21, 22, 23, 33, 34, 35, 36, 37, 38, 39, 40, 41, 42, 43, 44, 45, 46] (by decide +kernel) (by decide +kernel)
set_option maxRecDepth 20000 in
theorem gX7_acceptedTree_X7_runsTo : GoodIn wsX7_acceptedTree (wsV RX7 94 RX7 yX7_runsTo wsX7_runsTo) := goodIn_app (goodIn_of _ (by decide +kernel)) ggX7_acceptedTree_X7_runsTo
set_option maxRecDepth 20000 in
theorem ggX7_acceptedTree_X7_isAccepted : GoodIn wsX7_acceptedTree wsX7_isAccepted := goodIn_r _ [27, 14, 28, 29, 30, 4, 31, 32, 13, 33, 34, 35, 36, 37, 38, 39, 40, 41, 42, 43, 44, 45, 46] (by decide +kernel) (by decide +kernel)
set_option maxRecDepth 20000 in
theorem gX7_acceptedTree_X7_isAccepted : GoodIn wsX7_acceptedTree (wsV RX7 100 RX7 yX7_isAccepted wsX7_isAccepted) := goodIn_app (goodIn_of _ (by decide +kernel)) ggX7_acceptedTree_X7_isAccepted
theorem dX7_acceptedTree_0 : decode cX7_acceptedTree 0 = .ok (.iload_n 1, 1) := by decide +kernel
theorem dX7_acceptedTree_1 : decode cX7_acceptedTree 1 = .ok (.invokestatic 84, 3) := by decide +kernel
theorem dX7_acceptedTree_4 : decode cX7_acceptedTree 4 = .ok (.ifCond .eq 7, 3) := by decide +kernel
theorem dX7_acceptedTree_7 : decode cX7_acceptedTree 7 = .ok (.iload_n 2, 1) := by decide +kernel
theorem dX7_acceptedTree_8 : decode cX7_acceptedTree 8 = .ok (.ifCond .ge 5, 3) := by decide +kernel
theorem dX7_acceptedTree_11 : decode cX7_acceptedTree 11 = .ok (.iconst (-1), 1) := by decide +kernel
theorem dX7_acceptedTree_12 : decode cX7_acceptedTree 12 = .ok (.ireturn, 1) := by decide +kernel
theorem dX7_acceptedTree_13 : decode cX7_acceptedTree 13 = .ok (.aload_n 0, 1) := by decide +kernel
theorem dX7_acceptedTree_14 : decode cX7_acceptedTree 14 = .ok (.aload_n 0, 1) := by decide +kernel
theorem dX7_acceptedTree_15 : decode cX7_acceptedTree 15 = .ok (.getfield 25, 3) := by decide +kernel
theorem dX7_acceptedTree_18 : decode cX7_acceptedTree 18 = .ok (.iload_n 1, 1) := by decide +kernel
theorem dX7_acceptedTree_19 : decode cX7_acceptedTree 19 = .ok (.iconst 1, 1) := by decide +kernel
theorem dX7_acceptedTree_20 : decode cX7_acceptedTree 20 = .ok (.iadd, 1) := by decide +kernel
theorem dX7_acceptedTree_21 : decode cX7_acceptedTree 21 = .ok (.iaload, 1) := by decide +kernel
theorem dX7_acceptedTree_22 : decode cX7_acceptedTree 22 = .ok (.iconst 1, 1) := by decide +kernel
theorem dX7_acceptedTree_23 : decode cX7_acceptedTree 23 = .ok (.isub, 1) := by decide +kernel
theorem dX7_acceptedTree_24 : decode cX7_acceptedTree 24 = .ok (.invokevirtual 94, 3) := by decide +kernel
theorem dX7_acceptedTree_27 : decode cX7_acceptedTree 27 = .ok (.iload_n 2, 1) := by decide +kernel
theorem dX7_acceptedTree_28 : decode cX7_acceptedTree 28 = .ok (.istore_n 3, 1) := by decide +kernel
theorem dX7_acceptedTree_29 : decode cX7_acceptedTree 29 = .ok (.aload_n 0, 1) := by decide +kernel
theorem dX7_acceptedTree_30 : decode cX7_acceptedTree 30 = .ok (.getfield 25, 3) := by decide +kernel
theorem dX7_acceptedTree_33 : decode cX7_acceptedTree 33 = .ok (.iload_n 1, 1) := by decide +kernel
theorem dX7_acceptedTree_34 : decode cX7_acceptedTree 34 = .ok (.iaload, 1) := by decide +kernel
theorem dX7_acceptedTree_35 : decode cX7_acceptedTree 35 = .ok (.istore 4, 2) := by decide +kernel
theorem dX7_acceptedTree_37 : decode cX7_acceptedTree 37 = .ok (.iload 4, 2) := by decide +kernel
theorem dX7_acceptedTree_39 : decode cX7_acceptedTree 39 = .ok (.aload_n 0, 1) := by decide +kernel
theorem dX7_acceptedTree_40 : decode cX7_acceptedTree 40 = .ok (.getfield 25, 3) := by decide +kernel
theorem dX7_acceptedTree_43 : decode cX7_acceptedTree 43 = .ok (.iload_n 1, 1) := by decide +kernel
theorem dX7_acceptedTree_44 : decode cX7_acceptedTree 44 = .ok (.iconst 1, 1) := by decide +kernel
theorem dX7_acceptedTree_45 : decode cX7_acceptedTree 45 = .ok (.iadd, 1) := by decide +kernel
theorem dX7_acceptedTree_46 : decode cX7_acceptedTree 46 = .ok (.iaload, 1) := by decide +kernel
theorem dX7_acceptedTree_47 : decode cX7_acceptedTree 47 = .ok (.if_icmp .ge 28, 3) := by decide +kernel
theorem dX7_acceptedTree_50 : decode cX7_acceptedTree 50 = .ok (.aload_n 0, 1) := by decide +kernel
theorem dX7_acceptedTree_51 : decode cX7_acceptedTree 51 = .ok (.iload 4, 2) := by decide +kernel
theorem dX7_acceptedTree_53 : decode cX7_acceptedTree 53 = .ok (.invokevirtual 100, 3) := by decide +kernel
theorem dX7_acceptedTree_56 : decode cX7_acceptedTree 56 = .ok (.ifCond .eq 13, 3) := by decide +kernel
theorem dX7_acceptedTree_59 : decode cX7_acceptedTree 59 = .ok (.iload_n 3, 1) := by decide +kernel
theorem dX7_acceptedTree_60 : decode cX7_acceptedTree 60 = .ok (.ifCond .ne 6, 3) := by decide +kernel
theorem dX7_acceptedTree_63 : decode cX7_acceptedTree 63 = .ok (.iload 4, 2) := by decide +kernel
theorem dX7_acceptedTree_65 : decode cX7_acceptedTree 65 = .ok (.ireturn, 1) := by decide +kernel
theorem dX7_acceptedTree_66 : decode cX7_acceptedTree 66 = .ok (.iinc 3 (-1), 3) := by decide +kernel
theorem dX7_acceptedTree_69 : decode cX7_acceptedTree 69 = .ok (.iinc 4 1, 3) := by decide +kernel
theorem dX7_acceptedTree_72 : decode cX7_acceptedTree 72 = .ok (.goto (-35), 3) := by decide +kernel
theorem dX7_acceptedTree_75 : decode cX7_acceptedTree 75 = .ok (.bipush (-3), 2) := by decide +kernel
theorem dX7_acceptedTree_77 : decode cX7_acceptedTree 77 = .ok (.ireturn, 1) := by decide +kernel
theorem jX7_acceptedTree_X7 : ∀ w ∈ wsX70, w ∈ wsX7_acceptedTree := by decide +kernel
abbrev w_X7_acceptedTree (cI cO : ClassId) (aN : Nat → Nat)  : ((CS)) → va_W := fun u => (wN cI aN u)
set_option maxRecDepth 100000 in
set_option maxHeartbeats 8000000 in
theorem mX7_acceptedTree (l : Launch) (D : va_G) (cI cO : ClassId) (tA tS : Nat) (aN : Nat → Nat) (zN : CS) (x1 : Int32) (x2 : Int32) (sz : Nat) {post : Int32 → ((CS)) → Prop} (h : qX7_acceptedTree post x1 x2 zN) : Met l yX7_acceptedTree wsX7_acceptedTree ({ frames := 2, cells := 0, slots := 0, locals := 45 } : Room) (xPre D cI cO tA tS [.ref (aN 0), .int x1, .int x2] (wN cI aN zN) sz) (va_Qi post (xB D cI cO (va_A (wN cI aN zN) sz) (w_X7_acceptedTree cI cO aN)) (va_A (wN cI aN zN) sz)) 0 0 (va_A (wN cI aN zN) sz) := by
  refine xMet D cI cO tA tS (fun A => va_Qi post (xB D cI cO A (w_X7_acceptedTree cI cO aN)) A) (cc := cX7_acceptedTree) (maxL := 5) (ret := (some .int)) (by decide) rfl (Nat.le_of_ble_eq_true rfl) ?_
  intro p e s m below meth c A ls hx hb hr hts hown hlocks hin hml hA hS hP hK hD hE hl
  have hown : s.vm.findClass RX7 = some m.cls := hown
  have hl : lv_has ls 5 [(0, .ref (aN 0)), (1, .int x1), (2, .int x2)] := hl
  have g69 : ∀ (k37 : (Int32) → (Int32) → (CS) → Prop), (∀ (y3 : Int32) (y4 : Int32) (zN : CS) (H : Heap) (locs : List Loc) (ls : Array Slot), k37 y3 y4 zN → va_P D vwCl (wN cI aN zN) H → va_D A (wN cI aN zN) → va_S A s.heap H locs → lv_has ls 5 [(4, .int y4), (3, .int y3), (0, .ref (aN 0)), (1, .int x1), (2, .int x2)] → W p l e ({ frames := 2, cells := 0, slots := 0, locals := 45 } : Room) s m ([.ref (aN 0), .int x1, .int x2] : List Value).toArray below meth c H locs 0 0 (MQ below (va_Qi post (xB D cI cO A (w_X7_acceptedTree cI cO aN)) A) ([.ref (aN 0), .int x1, .int x2] : List Value).toArray s 0 0 A) (F0 m 37 ls [])) → ∀ (y3 : Int32) (y4 : Int32) (zN : CS) (H : Heap) (locs : List Loc) (ls : Array Slot), qX7_acceptedTree_69 post x1 x2 k37 y3 y4 zN → va_P D vwCl (wN cI aN zN) H → va_D A (wN cI aN zN) → va_S A s.heap H locs → lv_has ls 5 [(4, .int y4), (3, .int y3), (0, .ref (aN 0)), (1, .int x1), (2, .int x2)] → W p l e ({ frames := 2, cells := 0, slots := 0, locals := 45 } : Room) s m ([.ref (aN 0), .int x1, .int x2] : List Value).toArray below meth c H locs 0 0 (MQ below (va_Qi post (xB D cI cO A (w_X7_acceptedTree cI cO aN)) A) ([.ref (aN 0), .int x1, .int x2] : List Value).toArray s 0 0 A) (F0 m 69 ls []) := by
    intro k37 hk37 y3 y4 zN H locs ls h hP hD hS hl
    refine lv_iinc (v := (y4 + (1 : Int32))) (lv' := [(4, .int (y4 + (1 : Int32))), (3, .int y3), (0, .ref (aN 0)), (1, .int x1), (2, .int x2)]) hx hb dX7_acceptedTree_69 hl (k := 0) rfl rfl (by decide) rfl (fun ls hl => ?_)
    refine lv_goto (tgt := 37) hx hb dX7_acceptedTree_72 (by decide) ?_
    exact hk37 y3 (y4 + (1 : Int32)) zN _ _ _ h hP hD hS hl
  have g37 : ∀ (n : Nat) (y3 : Int32) (y4 : Int32) (zN : CS) (H : Heap) (locs : List Loc) (ls : Array Slot), qX7_acceptedTree_37 post x1 x2 n y3 y4 zN → va_P D vwCl (wN cI aN zN) H → va_D A (wN cI aN zN) → va_S A s.heap H locs → lv_has ls 5 [(4, .int y4), (3, .int y3), (0, .ref (aN 0)), (1, .int x1), (2, .int x2)] → W p l e ({ frames := 2, cells := 0, slots := 0, locals := 45 } : Room) s m ([.ref (aN 0), .int x1, .int x2] : List Value).toArray below meth c H locs 0 0 (MQ below (va_Qi post (xB D cI cO A (w_X7_acceptedTree cI cO aN)) A) ([.ref (aN 0), .int x1, .int x2] : List Value).toArray s 0 0 A) (F0 m 37 ls []) := by
    intro n
    induction n with
    | zero => intro y3 y4 zN H locs ls h; exact False.elim h
    | succ n hk37 =>
      intro y3 y4 zN H locs ls h hP hD hS hl
      have h : qX7_acceptedTree_37b post x1 x2 (qX7_acceptedTree_37 post x1 x2 n) y3 y4 zN := h
      refine lv_iload hx hb dX7_acceptedTree_37 (lv_at hl 0 rfl) ?_
      refine lv_aload_n hx hb dX7_acceptedTree_39 rfl (lv_at hl 2 rfl) ?_
      refine va_get (D := D) (ci := 7) (v := .ref (aN 6)) (C := RX7) (T := TX7) (N := 14) hx hb hts jX7_acceptedTree_X7 hown hK hP 0 rfl rfl 6 (by decide) (hts (.fieldLink RX7 25 "BrotherAutomataModel" "begin" "[I") (List.mem_of_getElem? (i := 1) rfl)) (fun _ h9 => h9) rfl dX7_acceptedTree_40 ?_
      refine lv_iload_n hx hb dX7_acceptedTree_43 rfl (lv_at hl 3 rfl) ?_
      refine lv_iconst (v := 1) hx hb dX7_acceptedTree_44 (by decide) ?_
      refine lv_iadd hx hb dX7_acceptedTree_45 ?_
      obtain ⟨hi, h⟩ := h
      refine va_iald hx hb hK hP 6 0 rfl rfl hi dX7_acceptedTree_46 ?_
      obtain ⟨hh1, hh2⟩ := h
      refine lv_icmp_ge (tgt := 75) hx hb dX7_acceptedTree_47 (by decide) (fun hc => ?_) (fun hc => ?_)
      · have h := hh1 hc
        refine lv_bipush (v := -3) hx hb dX7_acceptedTree_75 (by decide) ?_
        exact xiret (w := (w_X7_acceptedTree cI cO aN)) (zN) hx hb hr hlocks h hP hK hD hS dX7_acceptedTree_77
      · have h := hh2 hc
        refine lv_aload_n hx hb dX7_acceptedTree_50 rfl (lv_at hl 2 rfl) ?_
        refine lv_iload hx hb dX7_acceptedTree_51 (lv_at hl 0 rfl) ?_
        refine xcalli (wr := ([] : va_W)) (w2 := fun (u53 : Unit) => (wN cI aN zN)) (va_runV (As := [.int y4]) (rest := []) ⟨hx, hb, hml, hown, hts⟩ (mX7_isAccepted l D cI cO tA tS aN zN y4 _ h) (cwV 1 hts gX7_acceptedTree_X7_isAccepted rfl rfl rfl (by decide +kernel) ⟨Nat.le_of_ble_eq_true rfl, Nat.le_of_ble_eq_true rfl⟩) (xpreV hP hD hS hA hK hE [0, 1, 2, 3, 4, 5, 6, 7, 8, 9, 10, 11] rfl rfl 7 0 rfl rfl) rfl rfl hl.1 rfl (lv_room (Nat.le_of_ble_eq_true rfl)) dX7_acceptedTree_53 ⟨Nat.le_refl 0, Nat.le_refl 0⟩) hP hD hS hA [0, 1, 2, 3, 4, 5, 6, 7, 8, 9, 10, 11] [] [0, 1, 2, 3, 4, 5, 6, 7, 8, 9, 10, 11] rfl rfl rfl (by decide) rfl (fun _ => rfl) (fun r53 u53 H locs h hP hD hS => ?_)
        obtain ⟨hh1, hh2⟩ := h
        refine lv_if_eq (tgt := 69) hx hb dX7_acceptedTree_56 (by decide) (fun hc => ?_) (fun hc => ?_)
        · have h := hh1 hc
          exact g69 (qX7_acceptedTree_37 post x1 x2 n) hk37 y3 y4 zN _ _ _ h hP hD hS hl
        · have h := hh2 hc
          refine lv_iload_n hx hb dX7_acceptedTree_59 rfl (lv_at hl 1 rfl) ?_
          obtain ⟨hh1, hh2⟩ := h
          refine lv_if_ne (tgt := 66) hx hb dX7_acceptedTree_60 (by decide) (fun hc => ?_) (fun hc => ?_)
          · have h := hh2 hc
            refine lv_iinc (v := (y3 + (-1 : Int32))) (lv' := [(3, .int (y3 + (-1 : Int32))), (4, .int y4), (0, .ref (aN 0)), (1, .int x1), (2, .int x2)]) hx hb dX7_acceptedTree_66 hl (k := 1) rfl rfl (by decide) rfl (fun ls hl => ?_)
            exact g69 (qX7_acceptedTree_37 post x1 x2 n) hk37 (y3 + (-1 : Int32)) y4 zN _ _ _ h hP hD hS (lv_sub hl [1, 0, 2, 3, 4] rfl)
          · have h := hh1 hc
            refine lv_iload hx hb dX7_acceptedTree_63 (lv_at hl 0 rfl) ?_
            exact xiret (w := (w_X7_acceptedTree cI cO aN)) (zN) hx hb hr hlocks h hP hK hD hS dX7_acceptedTree_65
  have g11 : ∀ (zN : CS) (H : Heap) (locs : List Loc) (ls : Array Slot), qX7_acceptedTree_11 post x1 x2 zN → va_P D vwCl (wN cI aN zN) H → va_D A (wN cI aN zN) → va_S A s.heap H locs → lv_has ls 5 [(0, .ref (aN 0)), (1, .int x1), (2, .int x2)] → W p l e ({ frames := 2, cells := 0, slots := 0, locals := 45 } : Room) s m ([.ref (aN 0), .int x1, .int x2] : List Value).toArray below meth c H locs 0 0 (MQ below (va_Qi post (xB D cI cO A (w_X7_acceptedTree cI cO aN)) A) ([.ref (aN 0), .int x1, .int x2] : List Value).toArray s 0 0 A) (F0 m 11 ls []) := by
    intro zN H locs ls h hP hD hS hl
    refine lv_iconst (v := -1) hx hb dX7_acceptedTree_11 (by decide) ?_
    exact xiret (w := (w_X7_acceptedTree cI cO aN)) (zN) hx hb hr hlocks h hP hK hD hS dX7_acceptedTree_12
  refine lv_iload_n hx hb dX7_acceptedTree_0 rfl (lv_at hl 1 rfl) ?_
  refine xcalli (wr := (wN cI aN zN)) (w2 := fun (u1 : Unit) => (wN cI aN zN)) (va_runS (As := [.int x1]) (rest := []) ⟨hx, hb, hml, hown, hts⟩ (mX7_isSize l D cI cO tA tS x1 _ h) (va_cwS 1 hts gX7_acceptedTree_X7_isSize rfl rfl rfl (by decide +kernel) ⟨Nat.le_of_ble_eq_true rfl, Nat.le_of_ble_eq_true rfl⟩) (xpreP hP hD hS hA hK hE [] rfl rfl) rfl rfl hl.1 rfl (lv_room (Nat.le_of_ble_eq_true rfl)) dX7_acceptedTree_1 ⟨Nat.le_refl 0, Nat.le_refl 0⟩) hP hD hS hA [] [0, 1, 2, 3, 4, 5, 6, 7, 8, 9, 10, 11] [0, 1, 2, 3, 4, 5, 6, 7, 8, 9, 10, 11] rfl rfl rfl (by decide) rfl (fun _ => rfl) (fun r1 u1 H locs h hP hD hS => ?_)
  obtain ⟨hh1, hh2⟩ := h
  refine lv_if_eq (tgt := 11) hx hb dX7_acceptedTree_4 (by decide) (fun hc => ?_) (fun hc => ?_)
  · have h := hh1 hc
    exact g11 zN _ _ _ h hP hD hS hl
  · have h := hh2 hc
    refine lv_iload_n hx hb dX7_acceptedTree_7 rfl (lv_at hl 2 rfl) ?_
    obtain ⟨hh1, hh2⟩ := h
    refine lv_if_ge (tgt := 13) hx hb dX7_acceptedTree_8 (by decide) (fun hc => ?_) (fun hc => ?_)
    · have h := hh1 hc
      refine lv_aload_n hx hb dX7_acceptedTree_13 rfl (lv_at hl 0 rfl) ?_
      refine lv_aload_n hx hb dX7_acceptedTree_14 rfl (lv_at hl 0 rfl) ?_
      refine va_get (D := D) (ci := 7) (v := .ref (aN 6)) (C := RX7) (T := TX7) (N := 14) hx hb hts jX7_acceptedTree_X7 hown hK hP 0 rfl rfl 6 (by decide) (hts (.fieldLink RX7 25 "BrotherAutomataModel" "begin" "[I") (List.mem_of_getElem? (i := 1) rfl)) (fun _ h9 => h9) rfl dX7_acceptedTree_15 ?_
      refine lv_iload_n hx hb dX7_acceptedTree_18 rfl (lv_at hl 1 rfl) ?_
      refine lv_iconst (v := 1) hx hb dX7_acceptedTree_19 (by decide) ?_
      refine lv_iadd hx hb dX7_acceptedTree_20 ?_
      obtain ⟨hi, h⟩ := h
      refine va_iald hx hb hK hP 6 0 rfl rfl hi dX7_acceptedTree_21 ?_
      refine lv_iconst (v := 1) hx hb dX7_acceptedTree_22 (by decide) ?_
      refine lv_isub hx hb dX7_acceptedTree_23 ?_
      refine xcallv (wr := ([] : va_W)) (w2 := fun (u24 : (CS)) => (wN cI aN u24)) (va_runV (As := [.int (((zN 5) (x1 + (1 : Int32)).toNatClampNeg) - (1 : Int32))]) (rest := []) ⟨hx, hb, hml, hown, hts⟩ (mX7_runsTo l D cI cO tA tS aN zN (((zN 5) (x1 + (1 : Int32)).toNatClampNeg) - (1 : Int32)) _ h) (cwV 1 hts gX7_acceptedTree_X7_runsTo rfl rfl rfl (by decide +kernel) ⟨Nat.le_of_ble_eq_true rfl, Nat.le_of_ble_eq_true rfl⟩) (xpreV hP hD hS hA hK hE [0, 1, 2, 3, 4, 5, 6, 7, 8, 9, 10, 11] rfl rfl 7 0 rfl rfl) rfl rfl hl.1 rfl (lv_room (Nat.le_of_ble_eq_true rfl)) dX7_acceptedTree_24 ⟨Nat.le_refl 0, Nat.le_refl 0⟩) hP hD hS hA [0, 1, 2, 3, 4, 5, 6, 7, 8, 9, 10, 11] [] [0, 1, 2, 3, 4, 5, 6, 7, 8, 9, 10, 11] rfl rfl rfl (by decide) rfl (fun _ => rfl) (fun u24 H locs h hP hD hS => ?_)
      refine lv_iload_n hx hb dX7_acceptedTree_27 rfl (lv_at hl 2 rfl) ?_
      refine lv_istore_n (lv' := [(3, .int x2), (0, .ref (aN 0)), (1, .int x1), (2, .int x2)]) hx hb dX7_acceptedTree_28 rfl hl (by decide) rfl (fun ls hl => ?_)
      refine lv_aload_n hx hb dX7_acceptedTree_29 rfl (lv_at hl 1 rfl) ?_
      refine va_get (D := D) (ci := 7) (v := .ref (aN 6)) (C := RX7) (T := TX7) (N := 14) hx hb hts jX7_acceptedTree_X7 hown hK hP 0 rfl rfl 6 (by decide) (hts (.fieldLink RX7 25 "BrotherAutomataModel" "begin" "[I") (List.mem_of_getElem? (i := 1) rfl)) (fun _ h9 => h9) rfl dX7_acceptedTree_30 ?_
      refine lv_iload_n hx hb dX7_acceptedTree_33 rfl (lv_at hl 2 rfl) ?_
      obtain ⟨hi, h⟩ := h
      refine va_iald hx hb hK hP 6 0 rfl rfl hi dX7_acceptedTree_34 ?_
      refine lv_istore (lv' := [(4, .int ((u24 5) x1.toNatClampNeg)), (3, .int x2), (0, .ref (aN 0)), (1, .int x1), (2, .int x2)]) hx hb dX7_acceptedTree_35 hl (by decide) rfl (fun ls hl => ?_)
      obtain ⟨n0, h⟩ := h
      exact g37 n0 x2 ((u24 5) x1.toNatClampNeg) u24 _ _ _ h hP hD hS hl
    · have h := hh2 hc
      exact g11 zN _ _ _ h hP hD hS hl
set_option maxRecDepth 20000 in
theorem ggX7_leads_X7_arity : GoodIn wsX7_leads wsX7_arity := goodIn_r _ [5] (by decide +kernel) (by decide +kernel)
set_option maxRecDepth 20000 in
theorem gX7_leads_X7_arity : GoodIn wsX7_leads (va_wsS RX7 76 yX7_arity wsX7_arity) := goodIn_app (goodIn_of _ (by decide +kernel)) ggX7_leads_X7_arity
set_option maxRecDepth 20000 in
theorem ggX7_leads_X7_has : GoodIn wsX7_leads wsX7_has := goodIn_r _ [8] (by decide +kernel) (by decide +kernel)
set_option maxRecDepth 20000 in
theorem gX7_leads_X7_has : GoodIn wsX7_leads (va_wsS RX7 72 yX7_has wsX7_has) := goodIn_app (goodIn_of _ (by decide +kernel)) ggX7_leads_X7_has
set_option maxRecDepth 20000 in
theorem ggX7_leads_X7_isFulfilled : GoodIn wsX7_leads wsX7_isFulfilled := goodIn_r _ [11] (by decide +kernel) (by decide +kernel)
set_option maxRecDepth 20000 in
theorem gX7_leads_X7_isFulfilled : GoodIn wsX7_leads (va_wsS RX7 90 yX7_isFulfilled wsX7_isFulfilled) := goodIn_app (goodIn_of _ (by decide +kernel)) ggX7_leads_X7_isFulfilled
theorem dX7_leads_0 : decode cX7_leads 0 = .ok (.iconst 0, 1) := by decide +kernel
theorem dX7_leads_1 : decode cX7_leads 1 = .ok (.istore 5, 2) := by decide +kernel
theorem dX7_leads_3 : decode cX7_leads 3 = .ok (.iconst 0, 1) := by decide +kernel
theorem dX7_leads_4 : decode cX7_leads 4 = .ok (.istore 6, 2) := by decide +kernel
theorem dX7_leads_6 : decode cX7_leads 6 = .ok (.iload 6, 2) := by decide +kernel
theorem dX7_leads_8 : decode cX7_leads 8 = .ok (.aload_n 0, 1) := by decide +kernel
theorem dX7_leads_9 : decode cX7_leads 9 = .ok (.getfield 35, 3) := by decide +kernel
theorem dX7_leads_12 : decode cX7_leads 12 = .ok (.bipush 80, 2) := by decide +kernel
theorem dX7_leads_14 : decode cX7_leads 14 = .ok (.iaload, 1) := by decide +kernel
theorem dX7_leads_15 : decode cX7_leads 15 = .ok (.if_icmp .ge 127, 3) := by decide +kernel
theorem dX7_leads_18 : decode cX7_leads 18 = .ok (.aload_n 0, 1) := by decide +kernel
theorem dX7_leads_19 : decode cX7_leads 19 = .ok (.getfield 35, 3) := by decide +kernel
theorem dX7_leads_22 : decode cX7_leads 22 = .ok (.iconst 5, 1) := by decide +kernel
theorem dX7_leads_23 : decode cX7_leads 23 = .ok (.iload 6, 2) := by decide +kernel
theorem dX7_leads_25 : decode cX7_leads 25 = .ok (.imul, 1) := by decide +kernel
theorem dX7_leads_26 : decode cX7_leads 26 = .ok (.iaload, 1) := by decide +kernel
theorem dX7_leads_27 : decode cX7_leads 27 = .ok (.iload_n 1, 1) := by decide +kernel
theorem dX7_leads_28 : decode cX7_leads 28 = .ok (.if_icmp .ne 78, 3) := by decide +kernel
theorem dX7_leads_31 : decode cX7_leads 31 = .ok (.iload_n 1, 1) := by decide +kernel
theorem dX7_leads_32 : decode cX7_leads 32 = .ok (.invokestatic 76, 3) := by decide +kernel
theorem dX7_leads_35 : decode cX7_leads 35 = .ok (.iconst 1, 1) := by decide +kernel
theorem dX7_leads_36 : decode cX7_leads 36 = .ok (.if_icmp .lt 21, 3) := by decide +kernel
theorem dX7_leads_39 : decode cX7_leads 39 = .ok (.iload_n 2, 1) := by decide +kernel
theorem dX7_leads_40 : decode cX7_leads 40 = .ok (.aload_n 0, 1) := by decide +kernel
theorem dX7_leads_41 : decode cX7_leads 41 = .ok (.getfield 35, 3) := by decide +kernel
theorem dX7_leads_44 : decode cX7_leads 44 = .ok (.iconst 5, 1) := by decide +kernel
theorem dX7_leads_45 : decode cX7_leads 45 = .ok (.iload 6, 2) := by decide +kernel
theorem dX7_leads_47 : decode cX7_leads 47 = .ok (.imul, 1) := by decide +kernel
theorem dX7_leads_48 : decode cX7_leads 48 = .ok (.iconst 1, 1) := by decide +kernel
theorem dX7_leads_49 : decode cX7_leads 49 = .ok (.iadd, 1) := by decide +kernel
theorem dX7_leads_50 : decode cX7_leads 50 = .ok (.iaload, 1) := by decide +kernel
theorem dX7_leads_51 : decode cX7_leads 51 = .ok (.invokestatic 72, 3) := by decide +kernel
theorem dX7_leads_54 : decode cX7_leads 54 = .ok (.ifCond .eq 52, 3) := by decide +kernel
theorem dX7_leads_57 : decode cX7_leads 57 = .ok (.iload_n 1, 1) := by decide +kernel
theorem dX7_leads_58 : decode cX7_leads 58 = .ok (.invokestatic 76, 3) := by decide +kernel
theorem dX7_leads_61 : decode cX7_leads 61 = .ok (.iconst 2, 1) := by decide +kernel
theorem dX7_leads_62 : decode cX7_leads 62 = .ok (.if_icmp .lt 40, 3) := by decide +kernel
theorem dX7_leads_65 : decode cX7_leads 65 = .ok (.iload_n 3, 1) := by decide +kernel
theorem dX7_leads_66 : decode cX7_leads 66 = .ok (.aload_n 0, 1) := by decide +kernel
theorem dX7_leads_67 : decode cX7_leads 67 = .ok (.getfield 35, 3) := by decide +kernel
theorem dX7_leads_70 : decode cX7_leads 70 = .ok (.iconst 5, 1) := by decide +kernel
theorem dX7_leads_71 : decode cX7_leads 71 = .ok (.iload 6, 2) := by decide +kernel
theorem dX7_leads_73 : decode cX7_leads 73 = .ok (.imul, 1) := by decide +kernel
theorem dX7_leads_74 : decode cX7_leads 74 = .ok (.iconst 2, 1) := by decide +kernel
theorem dX7_leads_75 : decode cX7_leads 75 = .ok (.iadd, 1) := by decide +kernel
theorem dX7_leads_76 : decode cX7_leads 76 = .ok (.iaload, 1) := by decide +kernel
theorem dX7_leads_77 : decode cX7_leads 77 = .ok (.invokestatic 72, 3) := by decide +kernel
theorem dX7_leads_80 : decode cX7_leads 80 = .ok (.ifCond .eq 26, 3) := by decide +kernel
theorem dX7_leads_83 : decode cX7_leads 83 = .ok (.aload_n 0, 1) := by decide +kernel
theorem dX7_leads_84 : decode cX7_leads 84 = .ok (.getfield 35, 3) := by decide +kernel
theorem dX7_leads_87 : decode cX7_leads 87 = .ok (.iconst 5, 1) := by decide +kernel
theorem dX7_leads_88 : decode cX7_leads 88 = .ok (.iload 6, 2) := by decide +kernel
theorem dX7_leads_90 : decode cX7_leads 90 = .ok (.imul, 1) := by decide +kernel
theorem dX7_leads_91 : decode cX7_leads 91 = .ok (.iconst 3, 1) := by decide +kernel
theorem dX7_leads_92 : decode cX7_leads 92 = .ok (.iadd, 1) := by decide +kernel
theorem dX7_leads_93 : decode cX7_leads 93 = .ok (.iaload, 1) := by decide +kernel
theorem dX7_leads_94 : decode cX7_leads 94 = .ok (.iload 4, 2) := by decide +kernel
theorem dX7_leads_96 : decode cX7_leads 96 = .ok (.invokestatic 90, 3) := by decide +kernel
theorem dX7_leads_99 : decode cX7_leads 99 = .ok (.ifCond .eq 7, 3) := by decide +kernel
theorem dX7_leads_102 : decode cX7_leads 102 = .ok (.iconst 1, 1) := by decide +kernel
theorem dX7_leads_103 : decode cX7_leads 103 = .ok (.goto 4, 3) := by decide +kernel
theorem dX7_leads_106 : decode cX7_leads 106 = .ok (.iconst 0, 1) := by decide +kernel
theorem dX7_leads_107 : decode cX7_leads 107 = .ok (.istore 7, 2) := by decide +kernel
theorem dX7_leads_109 : decode cX7_leads 109 = .ok (.iload 5, 2) := by decide +kernel
theorem dX7_leads_111 : decode cX7_leads 111 = .ok (.iload 7, 2) := by decide +kernel
theorem dX7_leads_113 : decode cX7_leads 113 = .ok (.ifCond .eq 19, 3) := by decide +kernel
theorem dX7_leads_116 : decode cX7_leads 116 = .ok (.iconst 1, 1) := by decide +kernel
theorem dX7_leads_117 : decode cX7_leads 117 = .ok (.aload_n 0, 1) := by decide +kernel
theorem dX7_leads_118 : decode cX7_leads 118 = .ok (.getfield 35, 3) := by decide +kernel
theorem dX7_leads_121 : decode cX7_leads 121 = .ok (.iconst 5, 1) := by decide +kernel
theorem dX7_leads_122 : decode cX7_leads 122 = .ok (.iload 6, 2) := by decide +kernel
theorem dX7_leads_124 : decode cX7_leads 124 = .ok (.imul, 1) := by decide +kernel
theorem dX7_leads_125 : decode cX7_leads 125 = .ok (.iconst 4, 1) := by decide +kernel
theorem dX7_leads_126 : decode cX7_leads 126 = .ok (.iadd, 1) := by decide +kernel
theorem dX7_leads_127 : decode cX7_leads 127 = .ok (.iaload, 1) := by decide +kernel
theorem dX7_leads_128 : decode cX7_leads 128 = .ok (.ishl, 1) := by decide +kernel
theorem dX7_leads_129 : decode cX7_leads 129 = .ok (.goto 4, 3) := by decide +kernel
theorem dX7_leads_132 : decode cX7_leads 132 = .ok (.iconst 0, 1) := by decide +kernel
theorem dX7_leads_133 : decode cX7_leads 133 = .ok (.ior, 1) := by decide +kernel
theorem dX7_leads_134 : decode cX7_leads 134 = .ok (.istore 5, 2) := by decide +kernel
theorem dX7_leads_136 : decode cX7_leads 136 = .ok (.iinc 6 1, 3) := by decide +kernel
theorem dX7_leads_139 : decode cX7_leads 139 = .ok (.goto (-133), 3) := by decide +kernel
theorem dX7_leads_142 : decode cX7_leads 142 = .ok (.iload 5, 2) := by decide +kernel
theorem dX7_leads_144 : decode cX7_leads 144 = .ok (.ireturn, 1) := by decide +kernel
theorem jX7_leads_X7 : ∀ w ∈ wsX70, w ∈ wsX7_leads := by decide +kernel
abbrev w_X7_leads (cI cO : ClassId) (aN : Nat → Nat) (zN : CS) : (Unit) → va_W := fun u => (wN cI aN zN)
set_option maxRecDepth 100000 in
set_option maxHeartbeats 8000000 in
theorem mX7_leads (l : Launch) (D : va_G) (cI cO : ClassId) (tA tS : Nat) (aN : Nat → Nat) (zN : CS) (x1 : Int32) (x2 : Int32) (x3 : Int32) (x4 : Int32) (sz : Nat) {post : Int32 → (Unit) → Prop} (h : qX7_leads post x1 x2 x3 x4 zN) : Met l yX7_leads wsX7_leads ({ frames := 1, cells := 0, slots := 0, locals := 21 } : Room) (xPre D cI cO tA tS [.ref (aN 0), .int x1, .int x2, .int x3, .int x4] (wN cI aN zN) sz) (va_Qi post (xB D cI cO (va_A (wN cI aN zN) sz) (w_X7_leads cI cO aN zN)) (va_A (wN cI aN zN) sz)) 0 0 (va_A (wN cI aN zN) sz) := by
  refine xMet D cI cO tA tS (fun A => va_Qi post (xB D cI cO A (w_X7_leads cI cO aN zN)) A) (cc := cX7_leads) (maxL := 8) (ret := (some .int)) (by decide) rfl (Nat.le_of_ble_eq_true rfl) ?_
  intro p e s m below meth c A ls hx hb hr hts hown hlocks hin hml hA hS hP hK hD hE hl
  have hown : s.vm.findClass RX7 = some m.cls := hown
  have hl : lv_has ls 8 [(0, .ref (aN 0)), (1, .int x1), (2, .int x2), (3, .int x3), (4, .int x4)] := hl
  have g133 : ∀ (k6 : (Int32) → (Int32) → Prop), (∀ (y5 : Int32) (y6 : Int32) (H : Heap) (locs : List Loc) (ls : Array Slot), k6 y5 y6 → va_P D vwCl (wN cI aN zN) H → va_D A (wN cI aN zN) → va_S A s.heap H locs → lv_has ls 8 [(6, .int y6), (5, .int y5), (0, .ref (aN 0)), (1, .int x1), (2, .int x2), (3, .int x3), (4, .int x4)] → W p l e ({ frames := 1, cells := 0, slots := 0, locals := 21 } : Room) s m ([.ref (aN 0), .int x1, .int x2, .int x3, .int x4] : List Value).toArray below meth c H locs 0 0 (MQ below (va_Qi post (xB D cI cO A (w_X7_leads cI cO aN zN)) A) ([.ref (aN 0), .int x1, .int x2, .int x3, .int x4] : List Value).toArray s 0 0 A) (F0 m 6 ls [])) → ∀ (y5 : Int32) (y6 : Int32) (y7 : Int32) (w0 : Int32) (w1 : Int32) (H : Heap) (locs : List Loc) (ls : Array Slot), qX7_leads_133 post x1 x2 x3 x4 zN k6 y5 y6 y7 w0 w1 → va_P D vwCl (wN cI aN zN) H → va_D A (wN cI aN zN) → va_S A s.heap H locs → lv_has ls 8 [(7, .int y7), (6, .int y6), (5, .int y5), (0, .ref (aN 0)), (1, .int x1), (2, .int x2), (3, .int x3), (4, .int x4)] → W p l e ({ frames := 1, cells := 0, slots := 0, locals := 21 } : Room) s m ([.ref (aN 0), .int x1, .int x2, .int x3, .int x4] : List Value).toArray below meth c H locs 0 0 (MQ below (va_Qi post (xB D cI cO A (w_X7_leads cI cO aN zN)) A) ([.ref (aN 0), .int x1, .int x2, .int x3, .int x4] : List Value).toArray s 0 0 A) (F0 m 133 ls [.int w1, .int w0]) := by
    intro k6 hk6 y5 y6 y7 w0 w1 H locs ls h hP hD hS hl
    refine lv_ior hx hb dX7_leads_133 ?_
    refine lv_istore (lv' := [(5, .int (w0 ||| w1)), (7, .int y7), (6, .int y6), (0, .ref (aN 0)), (1, .int x1), (2, .int x2), (3, .int x3), (4, .int x4)]) hx hb dX7_leads_134 hl (by decide) rfl (fun ls hl => ?_)
    refine lv_iinc (v := (y6 + (1 : Int32))) (lv' := [(6, .int (y6 + (1 : Int32))), (5, .int (w0 ||| w1)), (7, .int y7), (0, .ref (aN 0)), (1, .int x1), (2, .int x2), (3, .int x3), (4, .int x4)]) hx hb dX7_leads_136 hl (k := 2) rfl rfl (by decide) rfl (fun ls hl => ?_)
    refine lv_goto (tgt := 6) hx hb dX7_leads_139 (by decide) ?_
    exact hk6 (w0 ||| w1) (y6 + (1 : Int32)) _ _ _ h hP hD hS (lv_sub hl [0, 1, 3, 4, 5, 6, 7] rfl)
  have g107 : ∀ (k6 : (Int32) → (Int32) → Prop), (∀ (y5 : Int32) (y6 : Int32) (H : Heap) (locs : List Loc) (ls : Array Slot), k6 y5 y6 → va_P D vwCl (wN cI aN zN) H → va_D A (wN cI aN zN) → va_S A s.heap H locs → lv_has ls 8 [(6, .int y6), (5, .int y5), (0, .ref (aN 0)), (1, .int x1), (2, .int x2), (3, .int x3), (4, .int x4)] → W p l e ({ frames := 1, cells := 0, slots := 0, locals := 21 } : Room) s m ([.ref (aN 0), .int x1, .int x2, .int x3, .int x4] : List Value).toArray below meth c H locs 0 0 (MQ below (va_Qi post (xB D cI cO A (w_X7_leads cI cO aN zN)) A) ([.ref (aN 0), .int x1, .int x2, .int x3, .int x4] : List Value).toArray s 0 0 A) (F0 m 6 ls [])) → ∀ (y5 : Int32) (y6 : Int32) (w0 : Int32) (H : Heap) (locs : List Loc) (ls : Array Slot), qX7_leads_107 post x1 x2 x3 x4 zN k6 y5 y6 w0 → va_P D vwCl (wN cI aN zN) H → va_D A (wN cI aN zN) → va_S A s.heap H locs → lv_has ls 8 [(6, .int y6), (5, .int y5), (0, .ref (aN 0)), (1, .int x1), (2, .int x2), (3, .int x3), (4, .int x4)] → W p l e ({ frames := 1, cells := 0, slots := 0, locals := 21 } : Room) s m ([.ref (aN 0), .int x1, .int x2, .int x3, .int x4] : List Value).toArray below meth c H locs 0 0 (MQ below (va_Qi post (xB D cI cO A (w_X7_leads cI cO aN zN)) A) ([.ref (aN 0), .int x1, .int x2, .int x3, .int x4] : List Value).toArray s 0 0 A) (F0 m 107 ls [.int w0]) := by
    intro k6 hk6 y5 y6 w0 H locs ls h hP hD hS hl
    refine lv_istore (lv' := [(7, .int w0), (6, .int y6), (5, .int y5), (0, .ref (aN 0)), (1, .int x1), (2, .int x2), (3, .int x3), (4, .int x4)]) hx hb dX7_leads_107 hl (by decide) rfl (fun ls hl => ?_)
    refine lv_iload hx hb dX7_leads_109 (lv_at hl 2 rfl) ?_
    refine lv_iload hx hb dX7_leads_111 (lv_at hl 0 rfl) ?_
    obtain ⟨hh1, hh2⟩ := h
    refine lv_if_eq (tgt := 132) hx hb dX7_leads_113 (by decide) (fun hc => ?_) (fun hc => ?_)
    · have h := hh1 hc
      refine lv_iconst (v := 0) hx hb dX7_leads_132 (by decide) ?_
      exact g133 k6 hk6 y5 y6 w0 y5 (0 : Int32) _ _ _ h hP hD hS hl
    · have h := hh2 hc
      refine lv_iconst (v := 1) hx hb dX7_leads_116 (by decide) ?_
      refine lv_aload_n hx hb dX7_leads_117 rfl (lv_at hl 3 rfl) ?_
      refine va_get (D := D) (ci := 7) (v := .ref (aN 8)) (C := RX7) (T := TX7) (N := 14) hx hb hts jX7_leads_X7 hown hK hP 0 rfl rfl 9 (by decide) (hts (.fieldLink RX7 35 "BrotherAutomataModel" "now" "[I") (List.mem_of_getElem? (i := 1) rfl)) (fun _ h9 => h9) rfl dX7_leads_118 ?_
      refine lv_iconst (v := 5) hx hb dX7_leads_121 (by decide) ?_
      refine lv_iload hx hb dX7_leads_122 (lv_at hl 1 rfl) ?_
      refine lv_imul hx hb dX7_leads_124 ?_
      refine lv_iconst (v := 4) hx hb dX7_leads_125 (by decide) ?_
      refine lv_iadd hx hb dX7_leads_126 ?_
      obtain ⟨hi, h⟩ := h
      refine va_iald hx hb hK hP 8 0 rfl rfl hi dX7_leads_127 ?_
      refine lv_ishl hx hb dX7_leads_128 ?_
      refine lv_goto (tgt := 133) hx hb dX7_leads_129 (by decide) ?_
      exact g133 k6 hk6 y5 y6 w0 y5 ((1 : Int32) <<< (((zN 7) (((5 : Int32) * y6) + (4 : Int32)).toNatClampNeg) &&& 31)) _ _ _ h hP hD hS hl
  have g106 : ∀ (k6 : (Int32) → (Int32) → Prop), (∀ (y5 : Int32) (y6 : Int32) (H : Heap) (locs : List Loc) (ls : Array Slot), k6 y5 y6 → va_P D vwCl (wN cI aN zN) H → va_D A (wN cI aN zN) → va_S A s.heap H locs → lv_has ls 8 [(6, .int y6), (5, .int y5), (0, .ref (aN 0)), (1, .int x1), (2, .int x2), (3, .int x3), (4, .int x4)] → W p l e ({ frames := 1, cells := 0, slots := 0, locals := 21 } : Room) s m ([.ref (aN 0), .int x1, .int x2, .int x3, .int x4] : List Value).toArray below meth c H locs 0 0 (MQ below (va_Qi post (xB D cI cO A (w_X7_leads cI cO aN zN)) A) ([.ref (aN 0), .int x1, .int x2, .int x3, .int x4] : List Value).toArray s 0 0 A) (F0 m 6 ls [])) → ∀ (y5 : Int32) (y6 : Int32) (H : Heap) (locs : List Loc) (ls : Array Slot), qX7_leads_106 post x1 x2 x3 x4 zN k6 y5 y6 → va_P D vwCl (wN cI aN zN) H → va_D A (wN cI aN zN) → va_S A s.heap H locs → lv_has ls 8 [(6, .int y6), (5, .int y5), (0, .ref (aN 0)), (1, .int x1), (2, .int x2), (3, .int x3), (4, .int x4)] → W p l e ({ frames := 1, cells := 0, slots := 0, locals := 21 } : Room) s m ([.ref (aN 0), .int x1, .int x2, .int x3, .int x4] : List Value).toArray below meth c H locs 0 0 (MQ below (va_Qi post (xB D cI cO A (w_X7_leads cI cO aN zN)) A) ([.ref (aN 0), .int x1, .int x2, .int x3, .int x4] : List Value).toArray s 0 0 A) (F0 m 106 ls []) := by
    intro k6 hk6 y5 y6 H locs ls h hP hD hS hl
    refine lv_iconst (v := 0) hx hb dX7_leads_106 (by decide) ?_
    exact g107 k6 hk6 y5 y6 (0 : Int32) _ _ _ h hP hD hS hl
  have g102 : ∀ (k6 : (Int32) → (Int32) → Prop), (∀ (y5 : Int32) (y6 : Int32) (H : Heap) (locs : List Loc) (ls : Array Slot), k6 y5 y6 → va_P D vwCl (wN cI aN zN) H → va_D A (wN cI aN zN) → va_S A s.heap H locs → lv_has ls 8 [(6, .int y6), (5, .int y5), (0, .ref (aN 0)), (1, .int x1), (2, .int x2), (3, .int x3), (4, .int x4)] → W p l e ({ frames := 1, cells := 0, slots := 0, locals := 21 } : Room) s m ([.ref (aN 0), .int x1, .int x2, .int x3, .int x4] : List Value).toArray below meth c H locs 0 0 (MQ below (va_Qi post (xB D cI cO A (w_X7_leads cI cO aN zN)) A) ([.ref (aN 0), .int x1, .int x2, .int x3, .int x4] : List Value).toArray s 0 0 A) (F0 m 6 ls [])) → ∀ (y5 : Int32) (y6 : Int32) (H : Heap) (locs : List Loc) (ls : Array Slot), qX7_leads_102 post x1 x2 x3 x4 zN k6 y5 y6 → va_P D vwCl (wN cI aN zN) H → va_D A (wN cI aN zN) → va_S A s.heap H locs → lv_has ls 8 [(6, .int y6), (5, .int y5), (0, .ref (aN 0)), (1, .int x1), (2, .int x2), (3, .int x3), (4, .int x4)] → W p l e ({ frames := 1, cells := 0, slots := 0, locals := 21 } : Room) s m ([.ref (aN 0), .int x1, .int x2, .int x3, .int x4] : List Value).toArray below meth c H locs 0 0 (MQ below (va_Qi post (xB D cI cO A (w_X7_leads cI cO aN zN)) A) ([.ref (aN 0), .int x1, .int x2, .int x3, .int x4] : List Value).toArray s 0 0 A) (F0 m 102 ls []) := by
    intro k6 hk6 y5 y6 H locs ls h hP hD hS hl
    refine lv_iconst (v := 1) hx hb dX7_leads_102 (by decide) ?_
    refine lv_goto (tgt := 107) hx hb dX7_leads_103 (by decide) ?_
    exact g107 k6 hk6 y5 y6 (1 : Int32) _ _ _ h hP hD hS hl
  have g57 : ∀ (k6 : (Int32) → (Int32) → Prop), (∀ (y5 : Int32) (y6 : Int32) (H : Heap) (locs : List Loc) (ls : Array Slot), k6 y5 y6 → va_P D vwCl (wN cI aN zN) H → va_D A (wN cI aN zN) → va_S A s.heap H locs → lv_has ls 8 [(6, .int y6), (5, .int y5), (0, .ref (aN 0)), (1, .int x1), (2, .int x2), (3, .int x3), (4, .int x4)] → W p l e ({ frames := 1, cells := 0, slots := 0, locals := 21 } : Room) s m ([.ref (aN 0), .int x1, .int x2, .int x3, .int x4] : List Value).toArray below meth c H locs 0 0 (MQ below (va_Qi post (xB D cI cO A (w_X7_leads cI cO aN zN)) A) ([.ref (aN 0), .int x1, .int x2, .int x3, .int x4] : List Value).toArray s 0 0 A) (F0 m 6 ls [])) → ∀ (y5 : Int32) (y6 : Int32) (H : Heap) (locs : List Loc) (ls : Array Slot), qX7_leads_57 post x1 x2 x3 x4 zN k6 y5 y6 → va_P D vwCl (wN cI aN zN) H → va_D A (wN cI aN zN) → va_S A s.heap H locs → lv_has ls 8 [(6, .int y6), (5, .int y5), (0, .ref (aN 0)), (1, .int x1), (2, .int x2), (3, .int x3), (4, .int x4)] → W p l e ({ frames := 1, cells := 0, slots := 0, locals := 21 } : Room) s m ([.ref (aN 0), .int x1, .int x2, .int x3, .int x4] : List Value).toArray below meth c H locs 0 0 (MQ below (va_Qi post (xB D cI cO A (w_X7_leads cI cO aN zN)) A) ([.ref (aN 0), .int x1, .int x2, .int x3, .int x4] : List Value).toArray s 0 0 A) (F0 m 57 ls []) := by
    intro k6 hk6 y5 y6 H locs ls h hP hD hS hl
    refine lv_iload_n hx hb dX7_leads_57 rfl (lv_at hl 3 rfl) ?_
    refine xcalli (wr := (wN cI aN zN)) (w2 := fun (u58 : Unit) => (wN cI aN zN)) (va_runS (As := [.int x1]) (rest := []) ⟨hx, hb, hml, hown, hts⟩ (mX7_arity l D cI cO tA tS x1 _ h) (va_cwS 1 hts gX7_leads_X7_arity rfl rfl rfl (by decide +kernel) ⟨Nat.le_of_ble_eq_true rfl, Nat.le_of_ble_eq_true rfl⟩) (xpreP hP hD hS hA hK hE [] rfl rfl) rfl rfl hl.1 rfl (lv_room (Nat.le_of_ble_eq_true rfl)) dX7_leads_58 ⟨Nat.le_refl 0, Nat.le_refl 0⟩) hP hD hS hA [] [0, 1, 2, 3, 4, 5, 6, 7, 8, 9, 10, 11] [0, 1, 2, 3, 4, 5, 6, 7, 8, 9, 10, 11] rfl rfl rfl (by decide) rfl (fun _ => rfl) (fun r58 u58 H locs h hP hD hS => ?_)
    refine lv_iconst (v := 2) hx hb dX7_leads_61 (by decide) ?_
    obtain ⟨hh1, hh2⟩ := h
    refine lv_icmp_lt (tgt := 102) hx hb dX7_leads_62 (by decide) (fun hc => ?_) (fun hc => ?_)
    · have h := hh1 hc
      exact g102 k6 hk6 y5 y6 _ _ _ h hP hD hS hl
    · have h := hh2 hc
      refine lv_iload_n hx hb dX7_leads_65 rfl (lv_at hl 5 rfl) ?_
      refine lv_aload_n hx hb dX7_leads_66 rfl (lv_at hl 2 rfl) ?_
      refine va_get (D := D) (ci := 7) (v := .ref (aN 8)) (C := RX7) (T := TX7) (N := 14) hx hb hts jX7_leads_X7 hown hK hP 0 rfl rfl 9 (by decide) (hts (.fieldLink RX7 35 "BrotherAutomataModel" "now" "[I") (List.mem_of_getElem? (i := 1) rfl)) (fun _ h9 => h9) rfl dX7_leads_67 ?_
      refine lv_iconst (v := 5) hx hb dX7_leads_70 (by decide) ?_
      refine lv_iload hx hb dX7_leads_71 (lv_at hl 0 rfl) ?_
      refine lv_imul hx hb dX7_leads_73 ?_
      refine lv_iconst (v := 2) hx hb dX7_leads_74 (by decide) ?_
      refine lv_iadd hx hb dX7_leads_75 ?_
      obtain ⟨hi, h⟩ := h
      refine va_iald hx hb hK hP 8 0 rfl rfl hi dX7_leads_76 ?_
      refine xcalli (wr := (wN cI aN zN)) (w2 := fun (u77 : Unit) => (wN cI aN zN)) (va_runS (As := [.int x3, .int ((zN 7) (((5 : Int32) * y6) + (2 : Int32)).toNatClampNeg)]) (rest := []) ⟨hx, hb, hml, hown, hts⟩ (mX7_has l D cI cO tA tS x3 ((zN 7) (((5 : Int32) * y6) + (2 : Int32)).toNatClampNeg) _ h) (va_cwS 2 hts gX7_leads_X7_has rfl rfl rfl (by decide +kernel) ⟨Nat.le_of_ble_eq_true rfl, Nat.le_of_ble_eq_true rfl⟩) (xpreP hP hD hS hA hK hE [] rfl rfl) rfl rfl hl.1 rfl (lv_room (Nat.le_of_ble_eq_true rfl)) dX7_leads_77 ⟨Nat.le_refl 0, Nat.le_refl 0⟩) hP hD hS hA [] [0, 1, 2, 3, 4, 5, 6, 7, 8, 9, 10, 11] [0, 1, 2, 3, 4, 5, 6, 7, 8, 9, 10, 11] rfl rfl rfl (by decide) rfl (fun _ => rfl) (fun r77 u77 H locs h hP hD hS => ?_)
      obtain ⟨hh1, hh2⟩ := h
      refine lv_if_eq (tgt := 106) hx hb dX7_leads_80 (by decide) (fun hc => ?_) (fun hc => ?_)
      · have h := hh1 hc
        exact g106 k6 hk6 y5 y6 _ _ _ h hP hD hS hl
      · have h := hh2 hc
        refine lv_aload_n hx hb dX7_leads_83 rfl (lv_at hl 2 rfl) ?_
        refine va_get (D := D) (ci := 7) (v := .ref (aN 8)) (C := RX7) (T := TX7) (N := 14) hx hb hts jX7_leads_X7 hown hK hP 0 rfl rfl 9 (by decide) (hts (.fieldLink RX7 35 "BrotherAutomataModel" "now" "[I") (List.mem_of_getElem? (i := 1) rfl)) (fun _ h9 => h9) rfl dX7_leads_84 ?_
        refine lv_iconst (v := 5) hx hb dX7_leads_87 (by decide) ?_
        refine lv_iload hx hb dX7_leads_88 (lv_at hl 0 rfl) ?_
        refine lv_imul hx hb dX7_leads_90 ?_
        refine lv_iconst (v := 3) hx hb dX7_leads_91 (by decide) ?_
        refine lv_iadd hx hb dX7_leads_92 ?_
        obtain ⟨hi, h⟩ := h
        refine va_iald hx hb hK hP 8 0 rfl rfl hi dX7_leads_93 ?_
        refine lv_iload hx hb dX7_leads_94 (lv_at hl 6 rfl) ?_
        refine xcalli (wr := (wN cI aN zN)) (w2 := fun (u96 : Unit) => (wN cI aN zN)) (va_runS (As := [.int ((zN 7) (((5 : Int32) * y6) + (3 : Int32)).toNatClampNeg), .int x4]) (rest := []) ⟨hx, hb, hml, hown, hts⟩ (mX7_isFulfilled l D cI cO tA tS ((zN 7) (((5 : Int32) * y6) + (3 : Int32)).toNatClampNeg) x4 _ h) (va_cwS 2 hts gX7_leads_X7_isFulfilled rfl rfl rfl (by decide +kernel) ⟨Nat.le_of_ble_eq_true rfl, Nat.le_of_ble_eq_true rfl⟩) (xpreP hP hD hS hA hK hE [] rfl rfl) rfl rfl hl.1 rfl (lv_room (Nat.le_of_ble_eq_true rfl)) dX7_leads_96 ⟨Nat.le_refl 0, Nat.le_refl 0⟩) hP hD hS hA [] [0, 1, 2, 3, 4, 5, 6, 7, 8, 9, 10, 11] [0, 1, 2, 3, 4, 5, 6, 7, 8, 9, 10, 11] rfl rfl rfl (by decide) rfl (fun _ => rfl) (fun r96 u96 H locs h hP hD hS => ?_)
        obtain ⟨hh1, hh2⟩ := h
        refine lv_if_eq (tgt := 106) hx hb dX7_leads_99 (by decide) (fun hc => ?_) (fun hc => ?_)
        · have h := hh1 hc
          exact g106 k6 hk6 y5 y6 _ _ _ h hP hD hS hl
        · have h := hh2 hc
          exact g102 k6 hk6 y5 y6 _ _ _ h hP hD hS hl
  have g6 : ∀ (n : Nat) (y5 : Int32) (y6 : Int32) (H : Heap) (locs : List Loc) (ls : Array Slot), qX7_leads_6 post x1 x2 x3 x4 zN n y5 y6 → va_P D vwCl (wN cI aN zN) H → va_D A (wN cI aN zN) → va_S A s.heap H locs → lv_has ls 8 [(6, .int y6), (5, .int y5), (0, .ref (aN 0)), (1, .int x1), (2, .int x2), (3, .int x3), (4, .int x4)] → W p l e ({ frames := 1, cells := 0, slots := 0, locals := 21 } : Room) s m ([.ref (aN 0), .int x1, .int x2, .int x3, .int x4] : List Value).toArray below meth c H locs 0 0 (MQ below (va_Qi post (xB D cI cO A (w_X7_leads cI cO aN zN)) A) ([.ref (aN 0), .int x1, .int x2, .int x3, .int x4] : List Value).toArray s 0 0 A) (F0 m 6 ls []) := by
    intro n
    induction n with
    | zero => intro y5 y6 H locs ls h; exact False.elim h
    | succ n hk6 =>
      intro y5 y6 H locs ls h hP hD hS hl
      have h : qX7_leads_6b post x1 x2 x3 x4 zN (qX7_leads_6 post x1 x2 x3 x4 zN n) y5 y6 := h
      refine lv_iload hx hb dX7_leads_6 (lv_at hl 0 rfl) ?_
      refine lv_aload_n hx hb dX7_leads_8 rfl (lv_at hl 2 rfl) ?_
      refine va_get (D := D) (ci := 7) (v := .ref (aN 8)) (C := RX7) (T := TX7) (N := 14) hx hb hts jX7_leads_X7 hown hK hP 0 rfl rfl 9 (by decide) (hts (.fieldLink RX7 35 "BrotherAutomataModel" "now" "[I") (List.mem_of_getElem? (i := 1) rfl)) (fun _ h9 => h9) rfl dX7_leads_9 ?_
      refine lv_bipush (v := 80) hx hb dX7_leads_12 (by decide) ?_
      obtain ⟨hi, h⟩ := h
      refine va_iald hx hb hK hP 8 0 rfl rfl hi dX7_leads_14 ?_
      obtain ⟨hh1, hh2⟩ := h
      refine lv_icmp_ge (tgt := 142) hx hb dX7_leads_15 (by decide) (fun hc => ?_) (fun hc => ?_)
      · have h := hh1 hc
        refine lv_iload hx hb dX7_leads_142 (lv_at hl 1 rfl) ?_
        exact xiret (w := (w_X7_leads cI cO aN zN)) () hx hb hr hlocks h hP hK hD hS dX7_leads_144
      · have h := hh2 hc
        refine lv_aload_n hx hb dX7_leads_18 rfl (lv_at hl 2 rfl) ?_
        refine va_get (D := D) (ci := 7) (v := .ref (aN 8)) (C := RX7) (T := TX7) (N := 14) hx hb hts jX7_leads_X7 hown hK hP 0 rfl rfl 9 (by decide) (hts (.fieldLink RX7 35 "BrotherAutomataModel" "now" "[I") (List.mem_of_getElem? (i := 1) rfl)) (fun _ h9 => h9) rfl dX7_leads_19 ?_
        refine lv_iconst (v := 5) hx hb dX7_leads_22 (by decide) ?_
        refine lv_iload hx hb dX7_leads_23 (lv_at hl 0 rfl) ?_
        refine lv_imul hx hb dX7_leads_25 ?_
        obtain ⟨hi, h⟩ := h
        refine va_iald hx hb hK hP 8 0 rfl rfl hi dX7_leads_26 ?_
        refine lv_iload_n hx hb dX7_leads_27 rfl (lv_at hl 3 rfl) ?_
        obtain ⟨hh1, hh2⟩ := h
        refine lv_icmp_ne (tgt := 106) hx hb dX7_leads_28 (by decide) (fun hc => ?_) (fun hc => ?_)
        · have h := hh2 hc
          exact g106 (qX7_leads_6 post x1 x2 x3 x4 zN n) hk6 y5 y6 _ _ _ h hP hD hS hl
        · have h := hh1 hc
          refine lv_iload_n hx hb dX7_leads_31 rfl (lv_at hl 3 rfl) ?_
          refine xcalli (wr := (wN cI aN zN)) (w2 := fun (u32 : Unit) => (wN cI aN zN)) (va_runS (As := [.int x1]) (rest := []) ⟨hx, hb, hml, hown, hts⟩ (mX7_arity l D cI cO tA tS x1 _ h) (va_cwS 1 hts gX7_leads_X7_arity rfl rfl rfl (by decide +kernel) ⟨Nat.le_of_ble_eq_true rfl, Nat.le_of_ble_eq_true rfl⟩) (xpreP hP hD hS hA hK hE [] rfl rfl) rfl rfl hl.1 rfl (lv_room (Nat.le_of_ble_eq_true rfl)) dX7_leads_32 ⟨Nat.le_refl 0, Nat.le_refl 0⟩) hP hD hS hA [] [0, 1, 2, 3, 4, 5, 6, 7, 8, 9, 10, 11] [0, 1, 2, 3, 4, 5, 6, 7, 8, 9, 10, 11] rfl rfl rfl (by decide) rfl (fun _ => rfl) (fun r32 u32 H locs h hP hD hS => ?_)
          refine lv_iconst (v := 1) hx hb dX7_leads_35 (by decide) ?_
          obtain ⟨hh1, hh2⟩ := h
          refine lv_icmp_lt (tgt := 57) hx hb dX7_leads_36 (by decide) (fun hc => ?_) (fun hc => ?_)
          · have h := hh1 hc
            exact g57 (qX7_leads_6 post x1 x2 x3 x4 zN n) hk6 y5 y6 _ _ _ h hP hD hS hl
          · have h := hh2 hc
            refine lv_iload_n hx hb dX7_leads_39 rfl (lv_at hl 4 rfl) ?_
            refine lv_aload_n hx hb dX7_leads_40 rfl (lv_at hl 2 rfl) ?_
            refine va_get (D := D) (ci := 7) (v := .ref (aN 8)) (C := RX7) (T := TX7) (N := 14) hx hb hts jX7_leads_X7 hown hK hP 0 rfl rfl 9 (by decide) (hts (.fieldLink RX7 35 "BrotherAutomataModel" "now" "[I") (List.mem_of_getElem? (i := 1) rfl)) (fun _ h9 => h9) rfl dX7_leads_41 ?_
            refine lv_iconst (v := 5) hx hb dX7_leads_44 (by decide) ?_
            refine lv_iload hx hb dX7_leads_45 (lv_at hl 0 rfl) ?_
            refine lv_imul hx hb dX7_leads_47 ?_
            refine lv_iconst (v := 1) hx hb dX7_leads_48 (by decide) ?_
            refine lv_iadd hx hb dX7_leads_49 ?_
            obtain ⟨hi, h⟩ := h
            refine va_iald hx hb hK hP 8 0 rfl rfl hi dX7_leads_50 ?_
            refine xcalli (wr := (wN cI aN zN)) (w2 := fun (u51 : Unit) => (wN cI aN zN)) (va_runS (As := [.int x2, .int ((zN 7) (((5 : Int32) * y6) + (1 : Int32)).toNatClampNeg)]) (rest := []) ⟨hx, hb, hml, hown, hts⟩ (mX7_has l D cI cO tA tS x2 ((zN 7) (((5 : Int32) * y6) + (1 : Int32)).toNatClampNeg) _ h) (va_cwS 2 hts gX7_leads_X7_has rfl rfl rfl (by decide +kernel) ⟨Nat.le_of_ble_eq_true rfl, Nat.le_of_ble_eq_true rfl⟩) (xpreP hP hD hS hA hK hE [] rfl rfl) rfl rfl hl.1 rfl (lv_room (Nat.le_of_ble_eq_true rfl)) dX7_leads_51 ⟨Nat.le_refl 0, Nat.le_refl 0⟩) hP hD hS hA [] [0, 1, 2, 3, 4, 5, 6, 7, 8, 9, 10, 11] [0, 1, 2, 3, 4, 5, 6, 7, 8, 9, 10, 11] rfl rfl rfl (by decide) rfl (fun _ => rfl) (fun r51 u51 H locs h hP hD hS => ?_)
            obtain ⟨hh1, hh2⟩ := h
            refine lv_if_eq (tgt := 106) hx hb dX7_leads_54 (by decide) (fun hc => ?_) (fun hc => ?_)
            · have h := hh1 hc
              exact g106 (qX7_leads_6 post x1 x2 x3 x4 zN n) hk6 y5 y6 _ _ _ h hP hD hS hl
            · have h := hh2 hc
              exact g57 (qX7_leads_6 post x1 x2 x3 x4 zN n) hk6 y5 y6 _ _ _ h hP hD hS hl
  refine lv_iconst (v := 0) hx hb dX7_leads_0 (by decide) ?_
  refine lv_istore (lv' := [(5, .int (0 : Int32)), (0, .ref (aN 0)), (1, .int x1), (2, .int x2), (3, .int x3), (4, .int x4)]) hx hb dX7_leads_1 hl (by decide) rfl (fun ls hl => ?_)
  refine lv_iconst (v := 0) hx hb dX7_leads_3 (by decide) ?_
  refine lv_istore (lv' := [(6, .int (0 : Int32)), (5, .int (0 : Int32)), (0, .ref (aN 0)), (1, .int x1), (2, .int x2), (3, .int x3), (4, .int x4)]) hx hb dX7_leads_4 hl (by decide) rfl (fun ls hl => ?_)
  obtain ⟨n0, h⟩ := h
  exact g6 n0 (0 : Int32) (0 : Int32) _ _ _ h hP hD hS hl
theorem dX7_puts_0 : decode cX7_puts 0 = .ok (.aload_n 0, 1) := by decide +kernel
theorem dX7_puts_1 : decode cX7_puts 1 = .ok (.getfield 44, 3) := by decide +kernel
theorem dX7_puts_4 : decode cX7_puts 4 = .ok (.iload_n 1, 1) := by decide +kernel
theorem dX7_puts_5 : decode cX7_puts 5 = .ok (.aload_n 0, 1) := by decide +kernel
theorem dX7_puts_6 : decode cX7_puts 6 = .ok (.getfield 44, 3) := by decide +kernel
theorem dX7_puts_9 : decode cX7_puts 9 = .ok (.iload_n 1, 1) := by decide +kernel
theorem dX7_puts_10 : decode cX7_puts 10 = .ok (.iaload, 1) := by decide +kernel
theorem dX7_puts_11 : decode cX7_puts 11 = .ok (.iload_n 2, 1) := by decide +kernel
theorem dX7_puts_12 : decode cX7_puts 12 = .ok (.iadd, 1) := by decide +kernel
theorem dX7_puts_13 : decode cX7_puts 13 = .ok (.iconst 2, 1) := by decide +kernel
theorem dX7_puts_14 : decode cX7_puts 14 = .ok (.if_icmp .le 7, 3) := by decide +kernel
theorem dX7_puts_17 : decode cX7_puts 17 = .ok (.iconst 2, 1) := by decide +kernel
theorem dX7_puts_18 : decode cX7_puts 18 = .ok (.goto 11, 3) := by decide +kernel
theorem dX7_puts_21 : decode cX7_puts 21 = .ok (.aload_n 0, 1) := by decide +kernel
theorem dX7_puts_22 : decode cX7_puts 22 = .ok (.getfield 44, 3) := by decide +kernel
theorem dX7_puts_25 : decode cX7_puts 25 = .ok (.iload_n 1, 1) := by decide +kernel
theorem dX7_puts_26 : decode cX7_puts 26 = .ok (.iaload, 1) := by decide +kernel
theorem dX7_puts_27 : decode cX7_puts 27 = .ok (.iload_n 2, 1) := by decide +kernel
theorem dX7_puts_28 : decode cX7_puts 28 = .ok (.iadd, 1) := by decide +kernel
theorem dX7_puts_29 : decode cX7_puts 29 = .ok (.iastore, 1) := by decide +kernel
theorem dX7_puts_30 : decode cX7_puts 30 = .ok (.return_, 1) := by decide +kernel
theorem jX7_puts_X7 : ∀ w ∈ wsX70, w ∈ wsX7_puts := by decide +kernel
abbrev w_X7_puts (cI cO : ClassId) (aN : Nat → Nat)  : ((CS)) → va_W := fun u => (wN cI aN u)
set_option maxRecDepth 100000 in
set_option maxHeartbeats 8000000 in
theorem mX7_puts (l : Launch) (D : va_G) (cI cO : ClassId) (tA tS : Nat) (aN : Nat → Nat) (zN : CS) (x1 : Int32) (x2 : Int32) (sz : Nat) {post : ((CS)) → Prop} (h : qX7_puts post x1 x2 zN) : Met l yX7_puts wsX7_puts ({ frames := 0, cells := 0, slots := 0, locals := 0 } : Room) (xPre D cI cO tA tS [.ref (aN 0), .int x1, .int x2] (wN cI aN zN) sz) (va_Qv post (xB D cI cO (va_A (wN cI aN zN) sz) (w_X7_puts cI cO aN)) (va_A (wN cI aN zN) sz)) 0 0 (va_A (wN cI aN zN) sz) := by
  refine xMet D cI cO tA tS (fun A => va_Qv post (xB D cI cO A (w_X7_puts cI cO aN)) A) (cc := cX7_puts) (maxL := 3) (ret := none) (by decide) rfl (Nat.le_of_ble_eq_true rfl) ?_
  intro p e s m below meth c A ls hx hb hr hts hown hlocks hin hml hA hS hP hK hD hE hl
  have hown : s.vm.findClass RX7 = some m.cls := hown
  have hl : lv_has ls 3 [(0, .ref (aN 0)), (1, .int x1), (2, .int x2)] := hl
  have g29 : ∀ (w1 : Int32) (w2 : Int32) (zN : CS) (H : Heap) (locs : List Loc) (ls : Array Slot), qX7_puts_29 post x1 x2 w1 w2 zN → va_P D vwCl (wN cI aN zN) H → va_D A (wN cI aN zN) → va_S A s.heap H locs → lv_has ls 3 [(0, .ref (aN 0)), (1, .int x1), (2, .int x2)] → W p l e ({ frames := 0, cells := 0, slots := 0, locals := 0 } : Room) s m ([.ref (aN 0), .int x1, .int x2] : List Value).toArray below meth c H locs 0 0 (MQ below (va_Qv post (xB D cI cO A (w_X7_puts cI cO aN)) A) ([.ref (aN 0), .int x1, .int x2] : List Value).toArray s 0 0 A) (F0 m 29 ls [.int w2, .int w1, .ref (aN 11)]) := by
    intro w1 w2 zN H locs ls h hP hD hS hl
    obtain ⟨hi, h⟩ := h
    refine va_iast hx hb hK hP hD hS 11 0 rfl rfl hi dX7_puts_29 (fun H locs hP hD hS => ?_)
    have hP : va_P D vwCl (wN cI aN (st zN 10 w1.toNatClampNeg w2)) H := hP
    have hD : va_D A (wN cI aN (st zN 10 w1.toNatClampNeg w2)) := hD
    exact xvret (w := (w_X7_puts cI cO aN)) (st zN 10 w1.toNatClampNeg w2) hx hb hr hlocks h hP hK hD hS dX7_puts_30
  refine lv_aload_n hx hb dX7_puts_0 rfl (lv_at hl 0 rfl) ?_
  refine va_get (D := D) (ci := 7) (v := .ref (aN 11)) (C := RX7) (T := TX7) (N := 14) hx hb hts jX7_puts_X7 hown hK hP 0 rfl rfl 13 (by decide) (hts (.fieldLink RX7 44 "BrotherAutomataModel" "more" "[I") (List.mem_of_getElem? (i := 1) rfl)) (fun _ h9 => h9) rfl dX7_puts_1 ?_
  refine lv_iload_n hx hb dX7_puts_4 rfl (lv_at hl 1 rfl) ?_
  refine lv_aload_n hx hb dX7_puts_5 rfl (lv_at hl 0 rfl) ?_
  refine va_get (D := D) (ci := 7) (v := .ref (aN 11)) (C := RX7) (T := TX7) (N := 14) hx hb hts jX7_puts_X7 hown hK hP 0 rfl rfl 13 (by decide) (hts (.fieldLink RX7 44 "BrotherAutomataModel" "more" "[I") (List.mem_of_getElem? (i := 1) rfl)) (fun _ h9 => h9) rfl dX7_puts_6 ?_
  refine lv_iload_n hx hb dX7_puts_9 rfl (lv_at hl 1 rfl) ?_
  obtain ⟨hi, h⟩ := h
  refine va_iald hx hb hK hP 11 0 rfl rfl hi dX7_puts_10 ?_
  refine lv_iload_n hx hb dX7_puts_11 rfl (lv_at hl 2 rfl) ?_
  refine lv_iadd hx hb dX7_puts_12 ?_
  refine lv_iconst (v := 2) hx hb dX7_puts_13 (by decide) ?_
  obtain ⟨hh1, hh2⟩ := h
  refine lv_icmp_le (tgt := 21) hx hb dX7_puts_14 (by decide) (fun hc => ?_) (fun hc => ?_)
  · have h := hh1 hc
    refine lv_aload_n hx hb dX7_puts_21 rfl (lv_at hl 0 rfl) ?_
    refine va_get (D := D) (ci := 7) (v := .ref (aN 11)) (C := RX7) (T := TX7) (N := 14) hx hb hts jX7_puts_X7 hown hK hP 0 rfl rfl 13 (by decide) (hts (.fieldLink RX7 44 "BrotherAutomataModel" "more" "[I") (List.mem_of_getElem? (i := 1) rfl)) (fun _ h9 => h9) rfl dX7_puts_22 ?_
    refine lv_iload_n hx hb dX7_puts_25 rfl (lv_at hl 1 rfl) ?_
    obtain ⟨hi, h⟩ := h
    refine va_iald hx hb hK hP 11 0 rfl rfl hi dX7_puts_26 ?_
    refine lv_iload_n hx hb dX7_puts_27 rfl (lv_at hl 2 rfl) ?_
    refine lv_iadd hx hb dX7_puts_28 ?_
    exact g29 x1 (((zN 10) x1.toNatClampNeg) + x2) zN _ _ _ h hP hD hS hl
  · have h := hh2 hc
    refine lv_iconst (v := 2) hx hb dX7_puts_17 (by decide) ?_
    refine lv_goto (tgt := 29) hx hb dX7_puts_18 (by decide) ?_
    exact g29 x1 (2 : Int32) zN _ _ _ h hP hD hS hl
set_option maxRecDepth 20000 in
theorem ggX7_steps_X7_leads : GoodIn wsX7_steps wsX7_leads := goodIn_r _ [8, 9, 10, 11, 7, 12, 13, 14, 15, 16, 17, 18, 23, 24, 25, 26, 27, 28, 29, 30, 31, 32, 33, 34, 35, 36] (by decide +kernel) (by decide +kernel)
set_option maxRecDepth 20000 in
theorem gX7_steps_X7_leads : GoodIn wsX7_steps (wsV RX7 103 RX7 yX7_leads wsX7_leads) := goodIn_app (goodIn_of _ (by decide +kernel)) ggX7_steps_X7_leads
set_option maxRecDepth 20000 in
theorem ggX7_steps_X7_puts : GoodIn wsX7_steps wsX7_puts := goodIn_r _ [22, 2, 23, 24, 25, 26, 27, 28, 29, 30, 31, 32, 33, 34, 35, 36] (by decide +kernel) (by decide +kernel)
set_option maxRecDepth 20000 in
theorem gX7_steps_X7_puts : GoodIn wsX7_steps (wsV RX7 107 RX7 yX7_puts wsX7_puts) := goodIn_app (goodIn_of _ (by decide +kernel)) ggX7_steps_X7_puts
theorem dX7_steps_0 : decode cX7_steps 0 = .ok (.iconst 1, 1) := by decide +kernel
theorem dX7_steps_1 : decode cX7_steps 1 = .ok (.aload_n 0, 1) := by decide +kernel
theorem dX7_steps_2 : decode cX7_steps 2 = .ok (.getfield 31, 3) := by decide +kernel
theorem dX7_steps_5 : decode cX7_steps 5 = .ok (.ishl, 1) := by decide +kernel
theorem dX7_steps_6 : decode cX7_steps 6 = .ok (.istore_n 1, 1) := by decide +kernel
theorem dX7_steps_7 : decode cX7_steps 7 = .ok (.iconst 0, 1) := by decide +kernel
theorem dX7_steps_8 : decode cX7_steps 8 = .ok (.istore_n 2, 1) := by decide +kernel
theorem dX7_steps_9 : decode cX7_steps 9 = .ok (.iload_n 2, 1) := by decide +kernel
theorem dX7_steps_10 : decode cX7_steps 10 = .ok (.iload_n 1, 1) := by decide +kernel
theorem dX7_steps_11 : decode cX7_steps 11 = .ok (.if_icmp .ge 16, 3) := by decide +kernel
theorem dX7_steps_14 : decode cX7_steps 14 = .ok (.aload_n 0, 1) := by decide +kernel
theorem dX7_steps_15 : decode cX7_steps 15 = .ok (.getfield 44, 3) := by decide +kernel
theorem dX7_steps_18 : decode cX7_steps 18 = .ok (.iload_n 2, 1) := by decide +kernel
theorem dX7_steps_19 : decode cX7_steps 19 = .ok (.iconst 0, 1) := by decide +kernel
theorem dX7_steps_20 : decode cX7_steps 20 = .ok (.iastore, 1) := by decide +kernel
theorem dX7_steps_21 : decode cX7_steps 21 = .ok (.iinc 2 1, 3) := by decide +kernel
theorem dX7_steps_24 : decode cX7_steps 24 = .ok (.goto (-15), 3) := by decide +kernel
theorem dX7_steps_27 : decode cX7_steps 27 = .ok (.aload_n 0, 1) := by decide +kernel
theorem dX7_steps_28 : decode cX7_steps 28 = .ok (.aload_n 0, 1) := by decide +kernel
theorem dX7_steps_29 : decode cX7_steps 29 = .ok (.iconst 0, 1) := by decide +kernel
theorem dX7_steps_30 : decode cX7_steps 30 = .ok (.iconst 0, 1) := by decide +kernel
theorem dX7_steps_31 : decode cX7_steps 31 = .ok (.iconst 0, 1) := by decide +kernel
theorem dX7_steps_32 : decode cX7_steps 32 = .ok (.iconst 1, 1) := by decide +kernel
theorem dX7_steps_33 : decode cX7_steps 33 = .ok (.invokevirtual 103, 3) := by decide +kernel
theorem dX7_steps_36 : decode cX7_steps 36 = .ok (.iconst 1, 1) := by decide +kernel
theorem dX7_steps_37 : decode cX7_steps 37 = .ok (.invokevirtual 107, 3) := by decide +kernel
theorem dX7_steps_40 : decode cX7_steps 40 = .ok (.aload_n 0, 1) := by decide +kernel
theorem dX7_steps_41 : decode cX7_steps 41 = .ok (.aload_n 0, 1) := by decide +kernel
theorem dX7_steps_42 : decode cX7_steps 42 = .ok (.iconst 1, 1) := by decide +kernel
theorem dX7_steps_43 : decode cX7_steps 43 = .ok (.iconst 0, 1) := by decide +kernel
theorem dX7_steps_44 : decode cX7_steps 44 = .ok (.iconst 0, 1) := by decide +kernel
theorem dX7_steps_45 : decode cX7_steps 45 = .ok (.iconst 1, 1) := by decide +kernel
theorem dX7_steps_46 : decode cX7_steps 46 = .ok (.invokevirtual 103, 3) := by decide +kernel
theorem dX7_steps_49 : decode cX7_steps 49 = .ok (.iconst 1, 1) := by decide +kernel
theorem dX7_steps_50 : decode cX7_steps 50 = .ok (.invokevirtual 107, 3) := by decide +kernel
theorem dX7_steps_53 : decode cX7_steps 53 = .ok (.iconst 0, 1) := by decide +kernel
theorem dX7_steps_54 : decode cX7_steps 54 = .ok (.istore_n 2, 1) := by decide +kernel
theorem dX7_steps_55 : decode cX7_steps 55 = .ok (.iload_n 2, 1) := by decide +kernel
theorem dX7_steps_56 : decode cX7_steps 56 = .ok (.iload_n 1, 1) := by decide +kernel
theorem dX7_steps_57 : decode cX7_steps 57 = .ok (.if_icmp .ge 145, 3) := by decide +kernel
theorem dX7_steps_60 : decode cX7_steps 60 = .ok (.aload_n 0, 1) := by decide +kernel
theorem dX7_steps_61 : decode cX7_steps 61 = .ok (.getfield 41, 3) := by decide +kernel
theorem dX7_steps_64 : decode cX7_steps 64 = .ok (.iload_n 2, 1) := by decide +kernel
theorem dX7_steps_65 : decode cX7_steps 65 = .ok (.iaload, 1) := by decide +kernel
theorem dX7_steps_66 : decode cX7_steps 66 = .ok (.ifCond .ne 6, 3) := by decide +kernel
theorem dX7_steps_69 : decode cX7_steps 69 = .ok (.goto 127, 3) := by decide +kernel
theorem dX7_steps_72 : decode cX7_steps 72 = .ok (.aload_n 0, 1) := by decide +kernel
theorem dX7_steps_73 : decode cX7_steps 73 = .ok (.aload_n 0, 1) := by decide +kernel
theorem dX7_steps_74 : decode cX7_steps 74 = .ok (.iconst 2, 1) := by decide +kernel
theorem dX7_steps_75 : decode cX7_steps 75 = .ok (.iload_n 2, 1) := by decide +kernel
theorem dX7_steps_76 : decode cX7_steps 76 = .ok (.iconst 0, 1) := by decide +kernel
theorem dX7_steps_77 : decode cX7_steps 77 = .ok (.iconst 1, 1) := by decide +kernel
theorem dX7_steps_78 : decode cX7_steps 78 = .ok (.invokevirtual 103, 3) := by decide +kernel
theorem dX7_steps_81 : decode cX7_steps 81 = .ok (.aload_n 0, 1) := by decide +kernel
theorem dX7_steps_82 : decode cX7_steps 82 = .ok (.getfield 41, 3) := by decide +kernel
theorem dX7_steps_85 : decode cX7_steps 85 = .ok (.iload_n 2, 1) := by decide +kernel
theorem dX7_steps_86 : decode cX7_steps 86 = .ok (.iaload, 1) := by decide +kernel
theorem dX7_steps_87 : decode cX7_steps 87 = .ok (.invokevirtual 107, 3) := by decide +kernel
theorem dX7_steps_90 : decode cX7_steps 90 = .ok (.iconst 3, 1) := by decide +kernel
theorem dX7_steps_91 : decode cX7_steps 91 = .ok (.istore_n 3, 1) := by decide +kernel
theorem dX7_steps_92 : decode cX7_steps 92 = .ok (.iload_n 3, 1) := by decide +kernel
theorem dX7_steps_93 : decode cX7_steps 93 = .ok (.iconst 5, 1) := by decide +kernel
theorem dX7_steps_94 : decode cX7_steps 94 = .ok (.if_icmp .ge 102, 3) := by decide +kernel
theorem dX7_steps_97 : decode cX7_steps 97 = .ok (.aload_n 0, 1) := by decide +kernel
theorem dX7_steps_98 : decode cX7_steps 98 = .ok (.aload_n 0, 1) := by decide +kernel
theorem dX7_steps_99 : decode cX7_steps 99 = .ok (.iload_n 3, 1) := by decide +kernel
theorem dX7_steps_100 : decode cX7_steps 100 = .ok (.iload_n 2, 1) := by decide +kernel
theorem dX7_steps_101 : decode cX7_steps 101 = .ok (.iload_n 2, 1) := by decide +kernel
theorem dX7_steps_102 : decode cX7_steps 102 = .ok (.iconst 1, 1) := by decide +kernel
theorem dX7_steps_103 : decode cX7_steps 103 = .ok (.invokevirtual 103, 3) := by decide +kernel
theorem dX7_steps_106 : decode cX7_steps 106 = .ok (.aload_n 0, 1) := by decide +kernel
theorem dX7_steps_107 : decode cX7_steps 107 = .ok (.getfield 41, 3) := by decide +kernel
theorem dX7_steps_110 : decode cX7_steps 110 = .ok (.iload_n 2, 1) := by decide +kernel
theorem dX7_steps_111 : decode cX7_steps 111 = .ok (.iaload, 1) := by decide +kernel
theorem dX7_steps_112 : decode cX7_steps 112 = .ok (.invokevirtual 107, 3) := by decide +kernel
theorem dX7_steps_115 : decode cX7_steps 115 = .ok (.iconst 0, 1) := by decide +kernel
theorem dX7_steps_116 : decode cX7_steps 116 = .ok (.istore 4, 2) := by decide +kernel
theorem dX7_steps_118 : decode cX7_steps 118 = .ok (.iload 4, 2) := by decide +kernel
theorem dX7_steps_120 : decode cX7_steps 120 = .ok (.iload_n 1, 1) := by decide +kernel
theorem dX7_steps_121 : decode cX7_steps 121 = .ok (.if_icmp .ge 69, 3) := by decide +kernel
theorem dX7_steps_124 : decode cX7_steps 124 = .ok (.iload_n 2, 1) := by decide +kernel
theorem dX7_steps_125 : decode cX7_steps 125 = .ok (.iload 4, 2) := by decide +kernel
theorem dX7_steps_127 : decode cX7_steps 127 = .ok (.if_icmp .ne 21, 3) := by decide +kernel
theorem dX7_steps_130 : decode cX7_steps 130 = .ok (.aload_n 0, 1) := by decide +kernel
theorem dX7_steps_131 : decode cX7_steps 131 = .ok (.getfield 41, 3) := by decide +kernel
theorem dX7_steps_134 : decode cX7_steps 134 = .ok (.iload_n 2, 1) := by decide +kernel
theorem dX7_steps_135 : decode cX7_steps 135 = .ok (.iaload, 1) := by decide +kernel
theorem dX7_steps_136 : decode cX7_steps 136 = .ok (.aload_n 0, 1) := by decide +kernel
theorem dX7_steps_137 : decode cX7_steps 137 = .ok (.getfield 41, 3) := by decide +kernel
theorem dX7_steps_140 : decode cX7_steps 140 = .ok (.iload_n 2, 1) := by decide +kernel
theorem dX7_steps_141 : decode cX7_steps 141 = .ok (.iaload, 1) := by decide +kernel
theorem dX7_steps_142 : decode cX7_steps 142 = .ok (.iconst 1, 1) := by decide +kernel
theorem dX7_steps_143 : decode cX7_steps 143 = .ok (.isub, 1) := by decide +kernel
theorem dX7_steps_144 : decode cX7_steps 144 = .ok (.imul, 1) := by decide +kernel
theorem dX7_steps_145 : decode cX7_steps 145 = .ok (.goto 17, 3) := by decide +kernel
theorem dX7_steps_148 : decode cX7_steps 148 = .ok (.aload_n 0, 1) := by decide +kernel
theorem dX7_steps_149 : decode cX7_steps 149 = .ok (.getfield 41, 3) := by decide +kernel
theorem dX7_steps_152 : decode cX7_steps 152 = .ok (.iload_n 2, 1) := by decide +kernel
theorem dX7_steps_153 : decode cX7_steps 153 = .ok (.iaload, 1) := by decide +kernel
theorem dX7_steps_154 : decode cX7_steps 154 = .ok (.aload_n 0, 1) := by decide +kernel
theorem dX7_steps_155 : decode cX7_steps 155 = .ok (.getfield 41, 3) := by decide +kernel
theorem dX7_steps_158 : decode cX7_steps 158 = .ok (.iload 4, 2) := by decide +kernel
theorem dX7_steps_160 : decode cX7_steps 160 = .ok (.iaload, 1) := by decide +kernel
theorem dX7_steps_161 : decode cX7_steps 161 = .ok (.imul, 1) := by decide +kernel
theorem dX7_steps_162 : decode cX7_steps 162 = .ok (.istore 5, 2) := by decide +kernel
theorem dX7_steps_164 : decode cX7_steps 164 = .ok (.iload 5, 2) := by decide +kernel
theorem dX7_steps_166 : decode cX7_steps 166 = .ok (.ifCond .le 18, 3) := by decide +kernel
theorem dX7_steps_169 : decode cX7_steps 169 = .ok (.aload_n 0, 1) := by decide +kernel
theorem dX7_steps_170 : decode cX7_steps 170 = .ok (.aload_n 0, 1) := by decide +kernel
theorem dX7_steps_171 : decode cX7_steps 171 = .ok (.iload_n 3, 1) := by decide +kernel
theorem dX7_steps_172 : decode cX7_steps 172 = .ok (.iload_n 2, 1) := by decide +kernel
theorem dX7_steps_173 : decode cX7_steps 173 = .ok (.iload 4, 2) := by decide +kernel
theorem dX7_steps_175 : decode cX7_steps 175 = .ok (.iconst 0, 1) := by decide +kernel
theorem dX7_steps_176 : decode cX7_steps 176 = .ok (.invokevirtual 103, 3) := by decide +kernel
theorem dX7_steps_179 : decode cX7_steps 179 = .ok (.iload 5, 2) := by decide +kernel
theorem dX7_steps_181 : decode cX7_steps 181 = .ok (.invokevirtual 107, 3) := by decide +kernel
theorem dX7_steps_184 : decode cX7_steps 184 = .ok (.iinc 4 1, 3) := by decide +kernel
theorem dX7_steps_187 : decode cX7_steps 187 = .ok (.goto (-69), 3) := by decide +kernel
theorem dX7_steps_190 : decode cX7_steps 190 = .ok (.iinc 3 1, 3) := by decide +kernel
theorem dX7_steps_193 : decode cX7_steps 193 = .ok (.goto (-101), 3) := by decide +kernel
theorem dX7_steps_196 : decode cX7_steps 196 = .ok (.iinc 2 1, 3) := by decide +kernel
theorem dX7_steps_199 : decode cX7_steps 199 = .ok (.goto (-144), 3) := by decide +kernel
theorem dX7_steps_202 : decode cX7_steps 202 = .ok (.iconst 0, 1) := by decide +kernel
theorem dX7_steps_203 : decode cX7_steps 203 = .ok (.istore_n 2, 1) := by decide +kernel
theorem dX7_steps_204 : decode cX7_steps 204 = .ok (.iconst 0, 1) := by decide +kernel
theorem dX7_steps_205 : decode cX7_steps 205 = .ok (.istore_n 3, 1) := by decide +kernel
theorem dX7_steps_206 : decode cX7_steps 206 = .ok (.iload_n 3, 1) := by decide +kernel
theorem dX7_steps_207 : decode cX7_steps 207 = .ok (.iload_n 1, 1) := by decide +kernel
theorem dX7_steps_208 : decode cX7_steps 208 = .ok (.if_icmp .ge 46, 3) := by decide +kernel
theorem dX7_steps_211 : decode cX7_steps 211 = .ok (.iload_n 2, 1) := by decide +kernel
theorem dX7_steps_212 : decode cX7_steps 212 = .ok (.ifCond .ne 18, 3) := by decide +kernel
theorem dX7_steps_215 : decode cX7_steps 215 = .ok (.aload_n 0, 1) := by decide +kernel
theorem dX7_steps_216 : decode cX7_steps 216 = .ok (.getfield 44, 3) := by decide +kernel
theorem dX7_steps_219 : decode cX7_steps 219 = .ok (.iload_n 3, 1) := by decide +kernel
theorem dX7_steps_220 : decode cX7_steps 220 = .ok (.iaload, 1) := by decide +kernel
theorem dX7_steps_221 : decode cX7_steps 221 = .ok (.aload_n 0, 1) := by decide +kernel
theorem dX7_steps_222 : decode cX7_steps 222 = .ok (.getfield 41, 3) := by decide +kernel
theorem dX7_steps_225 : decode cX7_steps 225 = .ok (.iload_n 3, 1) := by decide +kernel
theorem dX7_steps_226 : decode cX7_steps 226 = .ok (.iaload, 1) := by decide +kernel
theorem dX7_steps_227 : decode cX7_steps 227 = .ok (.if_icmp .eq 7, 3) := by decide +kernel
theorem dX7_steps_230 : decode cX7_steps 230 = .ok (.iconst 1, 1) := by decide +kernel
theorem dX7_steps_231 : decode cX7_steps 231 = .ok (.goto 4, 3) := by decide +kernel
theorem dX7_steps_234 : decode cX7_steps 234 = .ok (.iconst 0, 1) := by decide +kernel
theorem dX7_steps_235 : decode cX7_steps 235 = .ok (.istore_n 2, 1) := by decide +kernel
theorem dX7_steps_236 : decode cX7_steps 236 = .ok (.aload_n 0, 1) := by decide +kernel
theorem dX7_steps_237 : decode cX7_steps 237 = .ok (.getfield 41, 3) := by decide +kernel
theorem dX7_steps_240 : decode cX7_steps 240 = .ok (.iload_n 3, 1) := by decide +kernel
theorem dX7_steps_241 : decode cX7_steps 241 = .ok (.aload_n 0, 1) := by decide +kernel
theorem dX7_steps_242 : decode cX7_steps 242 = .ok (.getfield 44, 3) := by decide +kernel
theorem dX7_steps_245 : decode cX7_steps 245 = .ok (.iload_n 3, 1) := by decide +kernel
theorem dX7_steps_246 : decode cX7_steps 246 = .ok (.iaload, 1) := by decide +kernel
theorem dX7_steps_247 : decode cX7_steps 247 = .ok (.iastore, 1) := by decide +kernel
theorem dX7_steps_248 : decode cX7_steps 248 = .ok (.iinc 3 1, 3) := by decide +kernel
theorem dX7_steps_251 : decode cX7_steps 251 = .ok (.goto (-45), 3) := by decide +kernel
theorem dX7_steps_254 : decode cX7_steps 254 = .ok (.iload_n 2, 1) := by decide +kernel
theorem dX7_steps_255 : decode cX7_steps 255 = .ok (.ireturn, 1) := by decide +kernel
theorem jX7_steps_X7 : ∀ w ∈ wsX70, w ∈ wsX7_steps := by decide +kernel
abbrev w_X7_steps (cI cO : ClassId) (aN : Nat → Nat)  : ((CS)) → va_W := fun u => (wN cI aN u)
set_option maxRecDepth 100000 in
set_option maxHeartbeats 8000000 in
theorem mX7_steps (l : Launch) (D : va_G) (cI cO : ClassId) (tA tS : Nat) (aN : Nat → Nat) (zN : CS)  (sz : Nat) {post : Int32 → ((CS)) → Prop} (h : qX7_steps post zN) : Met l yX7_steps wsX7_steps ({ frames := 2, cells := 0, slots := 0, locals := 48 } : Room) (xPre D cI cO tA tS [.ref (aN 0)] (wN cI aN zN) sz) (va_Qi post (xB D cI cO (va_A (wN cI aN zN) sz) (w_X7_steps cI cO aN)) (va_A (wN cI aN zN) sz)) 0 0 (va_A (wN cI aN zN) sz) := by
  refine xMet D cI cO tA tS (fun A => va_Qi post (xB D cI cO A (w_X7_steps cI cO aN)) A) (cc := cX7_steps) (maxL := 6) (ret := (some .boolean)) (by decide) rfl (Nat.le_of_ble_eq_true rfl) ?_
  intro p e s m below meth c A ls hx hb hr hts hown hlocks hin hml hA hS hP hK hD hE hl
  have hown : s.vm.findClass RX7 = some m.cls := hown
  have hl : lv_has ls 6 [(0, .ref (aN 0))] := hl
  have g235 : ∀ (k206 : (Int32) → (Int32) → (Int32) → (CS) → Prop), (∀ (y1 : Int32) (y2 : Int32) (y3 : Int32) (zN : CS) (H : Heap) (locs : List Loc) (ls : Array Slot), k206 y1 y2 y3 zN → va_P D vwCl (wN cI aN zN) H → va_D A (wN cI aN zN) → va_S A s.heap H locs → lv_has ls 6 [(3, .int y3), (2, .int y2), (1, .int y1), (0, .ref (aN 0))] → W p l e ({ frames := 2, cells := 0, slots := 0, locals := 48 } : Room) s m ([.ref (aN 0)] : List Value).toArray below meth c H locs 0 0 (MQ below (va_Qi post (xB D cI cO A (w_X7_steps cI cO aN)) A) ([.ref (aN 0)] : List Value).toArray s 0 0 A) (F0 m 206 ls [])) → ∀ (y1 : Int32) (y2 : Int32) (y3 : Int32) (w0 : Int32) (zN : CS) (H : Heap) (locs : List Loc) (ls : Array Slot), qX7_steps_235 post k206 y1 y2 y3 w0 zN → va_P D vwCl (wN cI aN zN) H → va_D A (wN cI aN zN) → va_S A s.heap H locs → lv_has ls 6 [(3, .int y3), (2, .int y2), (1, .int y1), (0, .ref (aN 0))] → W p l e ({ frames := 2, cells := 0, slots := 0, locals := 48 } : Room) s m ([.ref (aN 0)] : List Value).toArray below meth c H locs 0 0 (MQ below (va_Qi post (xB D cI cO A (w_X7_steps cI cO aN)) A) ([.ref (aN 0)] : List Value).toArray s 0 0 A) (F0 m 235 ls [.int w0]) := by
    intro k206 hk206 y1 y2 y3 w0 zN H locs ls h hP hD hS hl
    refine lv_istore_n (lv' := [(2, .int w0), (3, .int y3), (1, .int y1), (0, .ref (aN 0))]) hx hb dX7_steps_235 rfl hl (by decide) rfl (fun ls hl => ?_)
    refine lv_aload_n hx hb dX7_steps_236 rfl (lv_at hl 3 rfl) ?_
    refine va_get (D := D) (ci := 7) (v := .ref (aN 10)) (C := RX7) (T := TX7) (N := 14) hx hb hts jX7_steps_X7 hown hK hP 0 rfl rfl 12 (by decide) (hts (.fieldLink RX7 41 "BrotherAutomataModel" "many" "[I") (List.mem_of_getElem? (i := 3) rfl)) (fun _ h9 => h9) rfl dX7_steps_237 ?_
    refine lv_iload_n hx hb dX7_steps_240 rfl (lv_at hl 1 rfl) ?_
    refine lv_aload_n hx hb dX7_steps_241 rfl (lv_at hl 3 rfl) ?_
    refine va_get (D := D) (ci := 7) (v := .ref (aN 11)) (C := RX7) (T := TX7) (N := 14) hx hb hts jX7_steps_X7 hown hK hP 0 rfl rfl 13 (by decide) (hts (.fieldLink RX7 44 "BrotherAutomataModel" "more" "[I") (List.mem_of_getElem? (i := 2) rfl)) (fun _ h9 => h9) rfl dX7_steps_242 ?_
    refine lv_iload_n hx hb dX7_steps_245 rfl (lv_at hl 1 rfl) ?_
    obtain ⟨hi, h⟩ := h
    refine va_iald hx hb hK hP 11 0 rfl rfl hi dX7_steps_246 ?_
    obtain ⟨hi, h⟩ := h
    refine va_iast hx hb hK hP hD hS 10 0 rfl rfl hi dX7_steps_247 (fun H locs hP hD hS => ?_)
    have hP : va_P D vwCl (wN cI aN (st zN 9 y3.toNatClampNeg ((zN 10) y3.toNatClampNeg))) H := hP
    have hD : va_D A (wN cI aN (st zN 9 y3.toNatClampNeg ((zN 10) y3.toNatClampNeg))) := hD
    refine lv_iinc (v := (y3 + (1 : Int32))) (lv' := [(3, .int (y3 + (1 : Int32))), (2, .int w0), (1, .int y1), (0, .ref (aN 0))]) hx hb dX7_steps_248 hl (k := 1) rfl rfl (by decide) rfl (fun ls hl => ?_)
    refine lv_goto (tgt := 206) hx hb dX7_steps_251 (by decide) ?_
    exact hk206 y1 w0 (y3 + (1 : Int32)) (st zN 9 y3.toNatClampNeg ((zN 10) y3.toNatClampNeg)) _ _ _ h hP hD hS hl
  have g230 : ∀ (k206 : (Int32) → (Int32) → (Int32) → (CS) → Prop), (∀ (y1 : Int32) (y2 : Int32) (y3 : Int32) (zN : CS) (H : Heap) (locs : List Loc) (ls : Array Slot), k206 y1 y2 y3 zN → va_P D vwCl (wN cI aN zN) H → va_D A (wN cI aN zN) → va_S A s.heap H locs → lv_has ls 6 [(3, .int y3), (2, .int y2), (1, .int y1), (0, .ref (aN 0))] → W p l e ({ frames := 2, cells := 0, slots := 0, locals := 48 } : Room) s m ([.ref (aN 0)] : List Value).toArray below meth c H locs 0 0 (MQ below (va_Qi post (xB D cI cO A (w_X7_steps cI cO aN)) A) ([.ref (aN 0)] : List Value).toArray s 0 0 A) (F0 m 206 ls [])) → ∀ (y1 : Int32) (y2 : Int32) (y3 : Int32) (zN : CS) (H : Heap) (locs : List Loc) (ls : Array Slot), qX7_steps_230 post k206 y1 y2 y3 zN → va_P D vwCl (wN cI aN zN) H → va_D A (wN cI aN zN) → va_S A s.heap H locs → lv_has ls 6 [(3, .int y3), (2, .int y2), (1, .int y1), (0, .ref (aN 0))] → W p l e ({ frames := 2, cells := 0, slots := 0, locals := 48 } : Room) s m ([.ref (aN 0)] : List Value).toArray below meth c H locs 0 0 (MQ below (va_Qi post (xB D cI cO A (w_X7_steps cI cO aN)) A) ([.ref (aN 0)] : List Value).toArray s 0 0 A) (F0 m 230 ls []) := by
    intro k206 hk206 y1 y2 y3 zN H locs ls h hP hD hS hl
    refine lv_iconst (v := 1) hx hb dX7_steps_230 (by decide) ?_
    refine lv_goto (tgt := 235) hx hb dX7_steps_231 (by decide) ?_
    exact g235 k206 hk206 y1 y2 y3 (1 : Int32) zN _ _ _ h hP hD hS hl
  have g206 : ∀ (n : Nat) (y1 : Int32) (y2 : Int32) (y3 : Int32) (zN : CS) (H : Heap) (locs : List Loc) (ls : Array Slot), qX7_steps_206 post n y1 y2 y3 zN → va_P D vwCl (wN cI aN zN) H → va_D A (wN cI aN zN) → va_S A s.heap H locs → lv_has ls 6 [(3, .int y3), (2, .int y2), (1, .int y1), (0, .ref (aN 0))] → W p l e ({ frames := 2, cells := 0, slots := 0, locals := 48 } : Room) s m ([.ref (aN 0)] : List Value).toArray below meth c H locs 0 0 (MQ below (va_Qi post (xB D cI cO A (w_X7_steps cI cO aN)) A) ([.ref (aN 0)] : List Value).toArray s 0 0 A) (F0 m 206 ls []) := by
    intro n
    induction n with
    | zero => intro y1 y2 y3 zN H locs ls h; exact False.elim h
    | succ n hk206 =>
      intro y1 y2 y3 zN H locs ls h hP hD hS hl
      have h : qX7_steps_206b post (qX7_steps_206 post n) y1 y2 y3 zN := h
      refine lv_iload_n hx hb dX7_steps_206 rfl (lv_at hl 0 rfl) ?_
      refine lv_iload_n hx hb dX7_steps_207 rfl (lv_at hl 2 rfl) ?_
      obtain ⟨hh1, hh2⟩ := h
      refine lv_icmp_ge (tgt := 254) hx hb dX7_steps_208 (by decide) (fun hc => ?_) (fun hc => ?_)
      · have h := hh1 hc
        refine lv_iload_n hx hb dX7_steps_254 rfl (lv_at hl 1 rfl) ?_
        obtain ⟨hn, h⟩ := h
        exact xzret (w := (w_X7_steps cI cO aN)) (zN) hx hb hr hlocks hn h hP hK hD hS dX7_steps_255
      · have h := hh2 hc
        refine lv_iload_n hx hb dX7_steps_211 rfl (lv_at hl 1 rfl) ?_
        obtain ⟨hh1, hh2⟩ := h
        refine lv_if_ne (tgt := 230) hx hb dX7_steps_212 (by decide) (fun hc => ?_) (fun hc => ?_)
        · have h := hh2 hc
          exact g230 (qX7_steps_206 post n) hk206 y1 y2 y3 zN _ _ _ h hP hD hS hl
        · have h := hh1 hc
          refine lv_aload_n hx hb dX7_steps_215 rfl (lv_at hl 3 rfl) ?_
          refine va_get (D := D) (ci := 7) (v := .ref (aN 11)) (C := RX7) (T := TX7) (N := 14) hx hb hts jX7_steps_X7 hown hK hP 0 rfl rfl 13 (by decide) (hts (.fieldLink RX7 44 "BrotherAutomataModel" "more" "[I") (List.mem_of_getElem? (i := 2) rfl)) (fun _ h9 => h9) rfl dX7_steps_216 ?_
          refine lv_iload_n hx hb dX7_steps_219 rfl (lv_at hl 0 rfl) ?_
          obtain ⟨hi, h⟩ := h
          refine va_iald hx hb hK hP 11 0 rfl rfl hi dX7_steps_220 ?_
          refine lv_aload_n hx hb dX7_steps_221 rfl (lv_at hl 3 rfl) ?_
          refine va_get (D := D) (ci := 7) (v := .ref (aN 10)) (C := RX7) (T := TX7) (N := 14) hx hb hts jX7_steps_X7 hown hK hP 0 rfl rfl 12 (by decide) (hts (.fieldLink RX7 41 "BrotherAutomataModel" "many" "[I") (List.mem_of_getElem? (i := 3) rfl)) (fun _ h9 => h9) rfl dX7_steps_222 ?_
          refine lv_iload_n hx hb dX7_steps_225 rfl (lv_at hl 0 rfl) ?_
          obtain ⟨hi, h⟩ := h
          refine va_iald hx hb hK hP 10 0 rfl rfl hi dX7_steps_226 ?_
          obtain ⟨hh1, hh2⟩ := h
          refine lv_icmp_eq (tgt := 234) hx hb dX7_steps_227 (by decide) (fun hc => ?_) (fun hc => ?_)
          · have h := hh1 hc
            refine lv_iconst (v := 0) hx hb dX7_steps_234 (by decide) ?_
            exact g235 (qX7_steps_206 post n) hk206 y1 y2 y3 (0 : Int32) zN _ _ _ h hP hD hS hl
          · have h := hh2 hc
            exact g230 (qX7_steps_206 post n) hk206 y1 y2 y3 zN _ _ _ h hP hD hS hl
  have g196 : ∀ (k55 : (Int32) → (Int32) → (CS) → Prop), (∀ (y1 : Int32) (y2 : Int32) (zN : CS) (H : Heap) (locs : List Loc) (ls : Array Slot), k55 y1 y2 zN → va_P D vwCl (wN cI aN zN) H → va_D A (wN cI aN zN) → va_S A s.heap H locs → lv_has ls 6 [(2, .int y2), (1, .int y1), (0, .ref (aN 0))] → W p l e ({ frames := 2, cells := 0, slots := 0, locals := 48 } : Room) s m ([.ref (aN 0)] : List Value).toArray below meth c H locs 0 0 (MQ below (va_Qi post (xB D cI cO A (w_X7_steps cI cO aN)) A) ([.ref (aN 0)] : List Value).toArray s 0 0 A) (F0 m 55 ls [])) → ∀ (y1 : Int32) (y2 : Int32) (zN : CS) (H : Heap) (locs : List Loc) (ls : Array Slot), qX7_steps_196 post k55 y1 y2 zN → va_P D vwCl (wN cI aN zN) H → va_D A (wN cI aN zN) → va_S A s.heap H locs → lv_has ls 6 [(2, .int y2), (1, .int y1), (0, .ref (aN 0))] → W p l e ({ frames := 2, cells := 0, slots := 0, locals := 48 } : Room) s m ([.ref (aN 0)] : List Value).toArray below meth c H locs 0 0 (MQ below (va_Qi post (xB D cI cO A (w_X7_steps cI cO aN)) A) ([.ref (aN 0)] : List Value).toArray s 0 0 A) (F0 m 196 ls []) := by
    intro k55 hk55 y1 y2 zN H locs ls h hP hD hS hl
    refine lv_iinc (v := (y2 + (1 : Int32))) (lv' := [(2, .int (y2 + (1 : Int32))), (1, .int y1), (0, .ref (aN 0))]) hx hb dX7_steps_196 hl (k := 0) rfl rfl (by decide) rfl (fun ls hl => ?_)
    refine lv_goto (tgt := 55) hx hb dX7_steps_199 (by decide) ?_
    exact hk55 y1 (y2 + (1 : Int32)) zN _ _ _ h hP hD hS hl
  have g184 : ∀ (k55 : (Int32) → (Int32) → (CS) → Prop), (∀ (y1 : Int32) (y2 : Int32) (zN : CS) (H : Heap) (locs : List Loc) (ls : Array Slot), k55 y1 y2 zN → va_P D vwCl (wN cI aN zN) H → va_D A (wN cI aN zN) → va_S A s.heap H locs → lv_has ls 6 [(2, .int y2), (1, .int y1), (0, .ref (aN 0))] → W p l e ({ frames := 2, cells := 0, slots := 0, locals := 48 } : Room) s m ([.ref (aN 0)] : List Value).toArray below meth c H locs 0 0 (MQ below (va_Qi post (xB D cI cO A (w_X7_steps cI cO aN)) A) ([.ref (aN 0)] : List Value).toArray s 0 0 A) (F0 m 55 ls [])) → ∀ (k92 : (Int32) → (Int32) → (Int32) → (CS) → Prop), (∀ (y1 : Int32) (y2 : Int32) (y3 : Int32) (zN : CS) (H : Heap) (locs : List Loc) (ls : Array Slot), k92 y1 y2 y3 zN → va_P D vwCl (wN cI aN zN) H → va_D A (wN cI aN zN) → va_S A s.heap H locs → lv_has ls 6 [(3, .int y3), (2, .int y2), (1, .int y1), (0, .ref (aN 0))] → W p l e ({ frames := 2, cells := 0, slots := 0, locals := 48 } : Room) s m ([.ref (aN 0)] : List Value).toArray below meth c H locs 0 0 (MQ below (va_Qi post (xB D cI cO A (w_X7_steps cI cO aN)) A) ([.ref (aN 0)] : List Value).toArray s 0 0 A) (F0 m 92 ls [])) → ∀ (k118 : (Int32) → (Int32) → (Int32) → (Int32) → (CS) → Prop), (∀ (y1 : Int32) (y2 : Int32) (y3 : Int32) (y4 : Int32) (zN : CS) (H : Heap) (locs : List Loc) (ls : Array Slot), k118 y1 y2 y3 y4 zN → va_P D vwCl (wN cI aN zN) H → va_D A (wN cI aN zN) → va_S A s.heap H locs → lv_has ls 6 [(4, .int y4), (3, .int y3), (2, .int y2), (1, .int y1), (0, .ref (aN 0))] → W p l e ({ frames := 2, cells := 0, slots := 0, locals := 48 } : Room) s m ([.ref (aN 0)] : List Value).toArray below meth c H locs 0 0 (MQ below (va_Qi post (xB D cI cO A (w_X7_steps cI cO aN)) A) ([.ref (aN 0)] : List Value).toArray s 0 0 A) (F0 m 118 ls [])) → ∀ (y1 : Int32) (y2 : Int32) (y3 : Int32) (y4 : Int32) (y5 : Int32) (zN : CS) (H : Heap) (locs : List Loc) (ls : Array Slot), qX7_steps_184 post k55 k92 k118 y1 y2 y3 y4 y5 zN → va_P D vwCl (wN cI aN zN) H → va_D A (wN cI aN zN) → va_S A s.heap H locs → lv_has ls 6 [(5, .int y5), (4, .int y4), (3, .int y3), (2, .int y2), (1, .int y1), (0, .ref (aN 0))] → W p l e ({ frames := 2, cells := 0, slots := 0, locals := 48 } : Room) s m ([.ref (aN 0)] : List Value).toArray below meth c H locs 0 0 (MQ below (va_Qi post (xB D cI cO A (w_X7_steps cI cO aN)) A) ([.ref (aN 0)] : List Value).toArray s 0 0 A) (F0 m 184 ls []) := by
    intro k55 hk55 k92 hk92 k118 hk118 y1 y2 y3 y4 y5 zN H locs ls h hP hD hS hl
    refine lv_iinc (v := (y4 + (1 : Int32))) (lv' := [(4, .int (y4 + (1 : Int32))), (5, .int y5), (3, .int y3), (2, .int y2), (1, .int y1), (0, .ref (aN 0))]) hx hb dX7_steps_184 hl (k := 1) rfl rfl (by decide) rfl (fun ls hl => ?_)
    refine lv_goto (tgt := 118) hx hb dX7_steps_187 (by decide) ?_
    exact hk118 y1 y2 y3 (y4 + (1 : Int32)) zN _ _ _ h hP hD hS (lv_sub hl [0, 2, 3, 4, 5] rfl)
  have g162 : ∀ (k55 : (Int32) → (Int32) → (CS) → Prop), (∀ (y1 : Int32) (y2 : Int32) (zN : CS) (H : Heap) (locs : List Loc) (ls : Array Slot), k55 y1 y2 zN → va_P D vwCl (wN cI aN zN) H → va_D A (wN cI aN zN) → va_S A s.heap H locs → lv_has ls 6 [(2, .int y2), (1, .int y1), (0, .ref (aN 0))] → W p l e ({ frames := 2, cells := 0, slots := 0, locals := 48 } : Room) s m ([.ref (aN 0)] : List Value).toArray below meth c H locs 0 0 (MQ below (va_Qi post (xB D cI cO A (w_X7_steps cI cO aN)) A) ([.ref (aN 0)] : List Value).toArray s 0 0 A) (F0 m 55 ls [])) → ∀ (k92 : (Int32) → (Int32) → (Int32) → (CS) → Prop), (∀ (y1 : Int32) (y2 : Int32) (y3 : Int32) (zN : CS) (H : Heap) (locs : List Loc) (ls : Array Slot), k92 y1 y2 y3 zN → va_P D vwCl (wN cI aN zN) H → va_D A (wN cI aN zN) → va_S A s.heap H locs → lv_has ls 6 [(3, .int y3), (2, .int y2), (1, .int y1), (0, .ref (aN 0))] → W p l e ({ frames := 2, cells := 0, slots := 0, locals := 48 } : Room) s m ([.ref (aN 0)] : List Value).toArray below meth c H locs 0 0 (MQ below (va_Qi post (xB D cI cO A (w_X7_steps cI cO aN)) A) ([.ref (aN 0)] : List Value).toArray s 0 0 A) (F0 m 92 ls [])) → ∀ (k118 : (Int32) → (Int32) → (Int32) → (Int32) → (CS) → Prop), (∀ (y1 : Int32) (y2 : Int32) (y3 : Int32) (y4 : Int32) (zN : CS) (H : Heap) (locs : List Loc) (ls : Array Slot), k118 y1 y2 y3 y4 zN → va_P D vwCl (wN cI aN zN) H → va_D A (wN cI aN zN) → va_S A s.heap H locs → lv_has ls 6 [(4, .int y4), (3, .int y3), (2, .int y2), (1, .int y1), (0, .ref (aN 0))] → W p l e ({ frames := 2, cells := 0, slots := 0, locals := 48 } : Room) s m ([.ref (aN 0)] : List Value).toArray below meth c H locs 0 0 (MQ below (va_Qi post (xB D cI cO A (w_X7_steps cI cO aN)) A) ([.ref (aN 0)] : List Value).toArray s 0 0 A) (F0 m 118 ls [])) → ∀ (y1 : Int32) (y2 : Int32) (y3 : Int32) (y4 : Int32) (w0 : Int32) (zN : CS) (H : Heap) (locs : List Loc) (ls : Array Slot), qX7_steps_162 post k55 k92 k118 y1 y2 y3 y4 w0 zN → va_P D vwCl (wN cI aN zN) H → va_D A (wN cI aN zN) → va_S A s.heap H locs → lv_has ls 6 [(4, .int y4), (3, .int y3), (2, .int y2), (1, .int y1), (0, .ref (aN 0))] → W p l e ({ frames := 2, cells := 0, slots := 0, locals := 48 } : Room) s m ([.ref (aN 0)] : List Value).toArray below meth c H locs 0 0 (MQ below (va_Qi post (xB D cI cO A (w_X7_steps cI cO aN)) A) ([.ref (aN 0)] : List Value).toArray s 0 0 A) (F0 m 162 ls [.int w0]) := by
    intro k55 hk55 k92 hk92 k118 hk118 y1 y2 y3 y4 w0 zN H locs ls h hP hD hS hl
    refine lv_istore (lv' := [(5, .int w0), (4, .int y4), (3, .int y3), (2, .int y2), (1, .int y1), (0, .ref (aN 0))]) hx hb dX7_steps_162 hl (by decide) rfl (fun ls hl => ?_)
    refine lv_iload hx hb dX7_steps_164 (lv_at hl 0 rfl) ?_
    obtain ⟨hh1, hh2⟩ := h
    refine lv_if_le (tgt := 184) hx hb dX7_steps_166 (by decide) (fun hc => ?_) (fun hc => ?_)
    · have h := hh1 hc
      exact g184 k55 hk55 k92 hk92 k118 hk118 y1 y2 y3 y4 w0 zN _ _ _ h hP hD hS hl
    · have h := hh2 hc
      refine lv_aload_n hx hb dX7_steps_169 rfl (lv_at hl 5 rfl) ?_
      refine lv_aload_n hx hb dX7_steps_170 rfl (lv_at hl 5 rfl) ?_
      refine lv_iload_n hx hb dX7_steps_171 rfl (lv_at hl 2 rfl) ?_
      refine lv_iload_n hx hb dX7_steps_172 rfl (lv_at hl 3 rfl) ?_
      refine lv_iload hx hb dX7_steps_173 (lv_at hl 1 rfl) ?_
      refine lv_iconst (v := 0) hx hb dX7_steps_175 (by decide) ?_
      refine xcalli (wr := ([] : va_W)) (w2 := fun (u176 : Unit) => (wN cI aN zN)) (va_runV (As := [.int y3, .int y2, .int y4, .int (0 : Int32)]) (rest := [.ref (aN 0)]) ⟨hx, hb, hml, hown, hts⟩ (mX7_leads l D cI cO tA tS aN zN y3 y2 y4 (0 : Int32) _ h) (cwV 4 hts gX7_steps_X7_leads rfl rfl rfl (by decide +kernel) ⟨Nat.le_of_ble_eq_true rfl, Nat.le_of_ble_eq_true rfl⟩) (xpreV hP hD hS hA hK hE [0, 1, 2, 3, 4, 5, 6, 7, 8, 9, 10, 11] rfl rfl 7 0 rfl rfl) rfl rfl hl.1 rfl (lv_room (Nat.le_of_ble_eq_true rfl)) dX7_steps_176 ⟨Nat.le_refl 0, Nat.le_refl 0⟩) hP hD hS hA [0, 1, 2, 3, 4, 5, 6, 7, 8, 9, 10, 11] [] [0, 1, 2, 3, 4, 5, 6, 7, 8, 9, 10, 11] rfl rfl rfl (by decide) rfl (fun _ => rfl) (fun r176 u176 H locs h hP hD hS => ?_)
      refine lv_iload hx hb dX7_steps_179 (lv_at hl 0 rfl) ?_
      refine xcallv (wr := ([] : va_W)) (w2 := fun (u181 : (CS)) => (wN cI aN u181)) (va_runV (As := [.int r176, .int w0]) (rest := []) ⟨hx, hb, hml, hown, hts⟩ (mX7_puts l D cI cO tA tS aN zN r176 w0 _ h) (cwV 2 hts gX7_steps_X7_puts rfl rfl rfl (by decide +kernel) ⟨Nat.le_of_ble_eq_true rfl, Nat.le_of_ble_eq_true rfl⟩) (xpreV hP hD hS hA hK hE [0, 1, 2, 3, 4, 5, 6, 7, 8, 9, 10, 11] rfl rfl 7 0 rfl rfl) rfl rfl hl.1 rfl (lv_room (Nat.le_of_ble_eq_true rfl)) dX7_steps_181 ⟨Nat.le_refl 0, Nat.le_refl 0⟩) hP hD hS hA [0, 1, 2, 3, 4, 5, 6, 7, 8, 9, 10, 11] [] [0, 1, 2, 3, 4, 5, 6, 7, 8, 9, 10, 11] rfl rfl rfl (by decide) rfl (fun _ => rfl) (fun u181 H locs h hP hD hS => ?_)
      exact g184 k55 hk55 k92 hk92 k118 hk118 y1 y2 y3 y4 w0 u181 _ _ _ h hP hD hS hl
  have g118 : ∀ (k55 : (Int32) → (Int32) → (CS) → Prop), (∀ (y1 : Int32) (y2 : Int32) (zN : CS) (H : Heap) (locs : List Loc) (ls : Array Slot), k55 y1 y2 zN → va_P D vwCl (wN cI aN zN) H → va_D A (wN cI aN zN) → va_S A s.heap H locs → lv_has ls 6 [(2, .int y2), (1, .int y1), (0, .ref (aN 0))] → W p l e ({ frames := 2, cells := 0, slots := 0, locals := 48 } : Room) s m ([.ref (aN 0)] : List Value).toArray below meth c H locs 0 0 (MQ below (va_Qi post (xB D cI cO A (w_X7_steps cI cO aN)) A) ([.ref (aN 0)] : List Value).toArray s 0 0 A) (F0 m 55 ls [])) → ∀ (k92 : (Int32) → (Int32) → (Int32) → (CS) → Prop), (∀ (y1 : Int32) (y2 : Int32) (y3 : Int32) (zN : CS) (H : Heap) (locs : List Loc) (ls : Array Slot), k92 y1 y2 y3 zN → va_P D vwCl (wN cI aN zN) H → va_D A (wN cI aN zN) → va_S A s.heap H locs → lv_has ls 6 [(3, .int y3), (2, .int y2), (1, .int y1), (0, .ref (aN 0))] → W p l e ({ frames := 2, cells := 0, slots := 0, locals := 48 } : Room) s m ([.ref (aN 0)] : List Value).toArray below meth c H locs 0 0 (MQ below (va_Qi post (xB D cI cO A (w_X7_steps cI cO aN)) A) ([.ref (aN 0)] : List Value).toArray s 0 0 A) (F0 m 92 ls [])) → ∀ (n : Nat) (y1 : Int32) (y2 : Int32) (y3 : Int32) (y4 : Int32) (zN : CS) (H : Heap) (locs : List Loc) (ls : Array Slot), qX7_steps_118 post k55 k92 n y1 y2 y3 y4 zN → va_P D vwCl (wN cI aN zN) H → va_D A (wN cI aN zN) → va_S A s.heap H locs → lv_has ls 6 [(4, .int y4), (3, .int y3), (2, .int y2), (1, .int y1), (0, .ref (aN 0))] → W p l e ({ frames := 2, cells := 0, slots := 0, locals := 48 } : Room) s m ([.ref (aN 0)] : List Value).toArray below meth c H locs 0 0 (MQ below (va_Qi post (xB D cI cO A (w_X7_steps cI cO aN)) A) ([.ref (aN 0)] : List Value).toArray s 0 0 A) (F0 m 118 ls []) := by
    intro k55 hk55 k92 hk92 n
    induction n with
    | zero => intro y1 y2 y3 y4 zN H locs ls h; exact False.elim h
    | succ n hk118 =>
      intro y1 y2 y3 y4 zN H locs ls h hP hD hS hl
      have h : qX7_steps_118b post k55 k92 (qX7_steps_118 post k55 k92 n) y1 y2 y3 y4 zN := h
      refine lv_iload hx hb dX7_steps_118 (lv_at hl 0 rfl) ?_
      refine lv_iload_n hx hb dX7_steps_120 rfl (lv_at hl 3 rfl) ?_
      obtain ⟨hh1, hh2⟩ := h
      refine lv_icmp_ge (tgt := 190) hx hb dX7_steps_121 (by decide) (fun hc => ?_) (fun hc => ?_)
      · have h := hh1 hc
        refine lv_iinc (v := (y3 + (1 : Int32))) (lv' := [(3, .int (y3 + (1 : Int32))), (4, .int y4), (2, .int y2), (1, .int y1), (0, .ref (aN 0))]) hx hb dX7_steps_190 hl (k := 1) rfl rfl (by decide) rfl (fun ls hl => ?_)
        refine lv_goto (tgt := 92) hx hb dX7_steps_193 (by decide) ?_
        exact hk92 y1 y2 (y3 + (1 : Int32)) zN _ _ _ h hP hD hS (lv_sub hl [0, 2, 3, 4] rfl)
      · have h := hh2 hc
        refine lv_iload_n hx hb dX7_steps_124 rfl (lv_at hl 2 rfl) ?_
        refine lv_iload hx hb dX7_steps_125 (lv_at hl 0 rfl) ?_
        obtain ⟨hh1, hh2⟩ := h
        refine lv_icmp_ne (tgt := 148) hx hb dX7_steps_127 (by decide) (fun hc => ?_) (fun hc => ?_)
        · have h := hh2 hc
          refine lv_aload_n hx hb dX7_steps_148 rfl (lv_at hl 4 rfl) ?_
          refine va_get (D := D) (ci := 7) (v := .ref (aN 10)) (C := RX7) (T := TX7) (N := 14) hx hb hts jX7_steps_X7 hown hK hP 0 rfl rfl 12 (by decide) (hts (.fieldLink RX7 41 "BrotherAutomataModel" "many" "[I") (List.mem_of_getElem? (i := 3) rfl)) (fun _ h9 => h9) rfl dX7_steps_149 ?_
          refine lv_iload_n hx hb dX7_steps_152 rfl (lv_at hl 2 rfl) ?_
          obtain ⟨hi, h⟩ := h
          refine va_iald hx hb hK hP 10 0 rfl rfl hi dX7_steps_153 ?_
          refine lv_aload_n hx hb dX7_steps_154 rfl (lv_at hl 4 rfl) ?_
          refine va_get (D := D) (ci := 7) (v := .ref (aN 10)) (C := RX7) (T := TX7) (N := 14) hx hb hts jX7_steps_X7 hown hK hP 0 rfl rfl 12 (by decide) (hts (.fieldLink RX7 41 "BrotherAutomataModel" "many" "[I") (List.mem_of_getElem? (i := 3) rfl)) (fun _ h9 => h9) rfl dX7_steps_155 ?_
          refine lv_iload hx hb dX7_steps_158 (lv_at hl 0 rfl) ?_
          obtain ⟨hi, h⟩ := h
          refine va_iald hx hb hK hP 10 0 rfl rfl hi dX7_steps_160 ?_
          refine lv_imul hx hb dX7_steps_161 ?_
          exact g162 k55 hk55 k92 hk92 (qX7_steps_118 post k55 k92 n) hk118 y1 y2 y3 y4 (((zN 9) y2.toNatClampNeg) * ((zN 9) y4.toNatClampNeg)) zN _ _ _ h hP hD hS hl
        · have h := hh1 hc
          refine lv_aload_n hx hb dX7_steps_130 rfl (lv_at hl 4 rfl) ?_
          refine va_get (D := D) (ci := 7) (v := .ref (aN 10)) (C := RX7) (T := TX7) (N := 14) hx hb hts jX7_steps_X7 hown hK hP 0 rfl rfl 12 (by decide) (hts (.fieldLink RX7 41 "BrotherAutomataModel" "many" "[I") (List.mem_of_getElem? (i := 3) rfl)) (fun _ h9 => h9) rfl dX7_steps_131 ?_
          refine lv_iload_n hx hb dX7_steps_134 rfl (lv_at hl 2 rfl) ?_
          obtain ⟨hi, h⟩ := h
          refine va_iald hx hb hK hP 10 0 rfl rfl hi dX7_steps_135 ?_
          refine lv_aload_n hx hb dX7_steps_136 rfl (lv_at hl 4 rfl) ?_
          refine va_get (D := D) (ci := 7) (v := .ref (aN 10)) (C := RX7) (T := TX7) (N := 14) hx hb hts jX7_steps_X7 hown hK hP 0 rfl rfl 12 (by decide) (hts (.fieldLink RX7 41 "BrotherAutomataModel" "many" "[I") (List.mem_of_getElem? (i := 3) rfl)) (fun _ h9 => h9) rfl dX7_steps_137 ?_
          refine lv_iload_n hx hb dX7_steps_140 rfl (lv_at hl 2 rfl) ?_
          obtain ⟨hi, h⟩ := h
          refine va_iald hx hb hK hP 10 0 rfl rfl hi dX7_steps_141 ?_
          refine lv_iconst (v := 1) hx hb dX7_steps_142 (by decide) ?_
          refine lv_isub hx hb dX7_steps_143 ?_
          refine lv_imul hx hb dX7_steps_144 ?_
          refine lv_goto (tgt := 162) hx hb dX7_steps_145 (by decide) ?_
          exact g162 k55 hk55 k92 hk92 (qX7_steps_118 post k55 k92 n) hk118 y1 y2 y3 y4 (((zN 9) y2.toNatClampNeg) * (((zN 9) y2.toNatClampNeg) - (1 : Int32))) zN _ _ _ h hP hD hS hl
  have g92 : ∀ (k55 : (Int32) → (Int32) → (CS) → Prop), (∀ (y1 : Int32) (y2 : Int32) (zN : CS) (H : Heap) (locs : List Loc) (ls : Array Slot), k55 y1 y2 zN → va_P D vwCl (wN cI aN zN) H → va_D A (wN cI aN zN) → va_S A s.heap H locs → lv_has ls 6 [(2, .int y2), (1, .int y1), (0, .ref (aN 0))] → W p l e ({ frames := 2, cells := 0, slots := 0, locals := 48 } : Room) s m ([.ref (aN 0)] : List Value).toArray below meth c H locs 0 0 (MQ below (va_Qi post (xB D cI cO A (w_X7_steps cI cO aN)) A) ([.ref (aN 0)] : List Value).toArray s 0 0 A) (F0 m 55 ls [])) → ∀ (n : Nat) (y1 : Int32) (y2 : Int32) (y3 : Int32) (zN : CS) (H : Heap) (locs : List Loc) (ls : Array Slot), qX7_steps_92 post k55 n y1 y2 y3 zN → va_P D vwCl (wN cI aN zN) H → va_D A (wN cI aN zN) → va_S A s.heap H locs → lv_has ls 6 [(3, .int y3), (2, .int y2), (1, .int y1), (0, .ref (aN 0))] → W p l e ({ frames := 2, cells := 0, slots := 0, locals := 48 } : Room) s m ([.ref (aN 0)] : List Value).toArray below meth c H locs 0 0 (MQ below (va_Qi post (xB D cI cO A (w_X7_steps cI cO aN)) A) ([.ref (aN 0)] : List Value).toArray s 0 0 A) (F0 m 92 ls []) := by
    intro k55 hk55 n
    induction n with
    | zero => intro y1 y2 y3 zN H locs ls h; exact False.elim h
    | succ n hk92 =>
      intro y1 y2 y3 zN H locs ls h hP hD hS hl
      have h : qX7_steps_92b post k55 (qX7_steps_92 post k55 n) y1 y2 y3 zN := h
      refine lv_iload_n hx hb dX7_steps_92 rfl (lv_at hl 0 rfl) ?_
      refine lv_iconst (v := 5) hx hb dX7_steps_93 (by decide) ?_
      obtain ⟨hh1, hh2⟩ := h
      refine lv_icmp_ge (tgt := 196) hx hb dX7_steps_94 (by decide) (fun hc => ?_) (fun hc => ?_)
      · have h := hh1 hc
        exact g196 k55 hk55 y1 y2 zN _ _ _ h hP hD hS (lv_sub hl [1, 2, 3] rfl)
      · have h := hh2 hc
        refine lv_aload_n hx hb dX7_steps_97 rfl (lv_at hl 3 rfl) ?_
        refine lv_aload_n hx hb dX7_steps_98 rfl (lv_at hl 3 rfl) ?_
        refine lv_iload_n hx hb dX7_steps_99 rfl (lv_at hl 0 rfl) ?_
        refine lv_iload_n hx hb dX7_steps_100 rfl (lv_at hl 1 rfl) ?_
        refine lv_iload_n hx hb dX7_steps_101 rfl (lv_at hl 1 rfl) ?_
        refine lv_iconst (v := 1) hx hb dX7_steps_102 (by decide) ?_
        refine xcalli (wr := ([] : va_W)) (w2 := fun (u103 : Unit) => (wN cI aN zN)) (va_runV (As := [.int y3, .int y2, .int y2, .int (1 : Int32)]) (rest := [.ref (aN 0)]) ⟨hx, hb, hml, hown, hts⟩ (mX7_leads l D cI cO tA tS aN zN y3 y2 y2 (1 : Int32) _ h) (cwV 4 hts gX7_steps_X7_leads rfl rfl rfl (by decide +kernel) ⟨Nat.le_of_ble_eq_true rfl, Nat.le_of_ble_eq_true rfl⟩) (xpreV hP hD hS hA hK hE [0, 1, 2, 3, 4, 5, 6, 7, 8, 9, 10, 11] rfl rfl 7 0 rfl rfl) rfl rfl hl.1 rfl (lv_room (Nat.le_of_ble_eq_true rfl)) dX7_steps_103 ⟨Nat.le_refl 0, Nat.le_refl 0⟩) hP hD hS hA [0, 1, 2, 3, 4, 5, 6, 7, 8, 9, 10, 11] [] [0, 1, 2, 3, 4, 5, 6, 7, 8, 9, 10, 11] rfl rfl rfl (by decide) rfl (fun _ => rfl) (fun r103 u103 H locs h hP hD hS => ?_)
        refine lv_aload_n hx hb dX7_steps_106 rfl (lv_at hl 3 rfl) ?_
        refine va_get (D := D) (ci := 7) (v := .ref (aN 10)) (C := RX7) (T := TX7) (N := 14) hx hb hts jX7_steps_X7 hown hK hP 0 rfl rfl 12 (by decide) (hts (.fieldLink RX7 41 "BrotherAutomataModel" "many" "[I") (List.mem_of_getElem? (i := 3) rfl)) (fun _ h9 => h9) rfl dX7_steps_107 ?_
        refine lv_iload_n hx hb dX7_steps_110 rfl (lv_at hl 1 rfl) ?_
        obtain ⟨hi, h⟩ := h
        refine va_iald hx hb hK hP 10 0 rfl rfl hi dX7_steps_111 ?_
        refine xcallv (wr := ([] : va_W)) (w2 := fun (u112 : (CS)) => (wN cI aN u112)) (va_runV (As := [.int r103, .int ((zN 9) y2.toNatClampNeg)]) (rest := []) ⟨hx, hb, hml, hown, hts⟩ (mX7_puts l D cI cO tA tS aN zN r103 ((zN 9) y2.toNatClampNeg) _ h) (cwV 2 hts gX7_steps_X7_puts rfl rfl rfl (by decide +kernel) ⟨Nat.le_of_ble_eq_true rfl, Nat.le_of_ble_eq_true rfl⟩) (xpreV hP hD hS hA hK hE [0, 1, 2, 3, 4, 5, 6, 7, 8, 9, 10, 11] rfl rfl 7 0 rfl rfl) rfl rfl hl.1 rfl (lv_room (Nat.le_of_ble_eq_true rfl)) dX7_steps_112 ⟨Nat.le_refl 0, Nat.le_refl 0⟩) hP hD hS hA [0, 1, 2, 3, 4, 5, 6, 7, 8, 9, 10, 11] [] [0, 1, 2, 3, 4, 5, 6, 7, 8, 9, 10, 11] rfl rfl rfl (by decide) rfl (fun _ => rfl) (fun u112 H locs h hP hD hS => ?_)
        refine lv_iconst (v := 0) hx hb dX7_steps_115 (by decide) ?_
        refine lv_istore (lv' := [(4, .int (0 : Int32)), (3, .int y3), (2, .int y2), (1, .int y1), (0, .ref (aN 0))]) hx hb dX7_steps_116 hl (by decide) rfl (fun ls hl => ?_)
        obtain ⟨n0, h⟩ := h
        exact g118 k55 hk55 (qX7_steps_92 post k55 n) hk92 n0 y1 y2 y3 (0 : Int32) u112 _ _ _ h hP hD hS hl
  have g55 : ∀ (n : Nat) (y1 : Int32) (y2 : Int32) (zN : CS) (H : Heap) (locs : List Loc) (ls : Array Slot), qX7_steps_55 post n y1 y2 zN → va_P D vwCl (wN cI aN zN) H → va_D A (wN cI aN zN) → va_S A s.heap H locs → lv_has ls 6 [(2, .int y2), (1, .int y1), (0, .ref (aN 0))] → W p l e ({ frames := 2, cells := 0, slots := 0, locals := 48 } : Room) s m ([.ref (aN 0)] : List Value).toArray below meth c H locs 0 0 (MQ below (va_Qi post (xB D cI cO A (w_X7_steps cI cO aN)) A) ([.ref (aN 0)] : List Value).toArray s 0 0 A) (F0 m 55 ls []) := by
    intro n
    induction n with
    | zero => intro y1 y2 zN H locs ls h; exact False.elim h
    | succ n hk55 =>
      intro y1 y2 zN H locs ls h hP hD hS hl
      have h : qX7_steps_55b post (qX7_steps_55 post n) y1 y2 zN := h
      refine lv_iload_n hx hb dX7_steps_55 rfl (lv_at hl 0 rfl) ?_
      refine lv_iload_n hx hb dX7_steps_56 rfl (lv_at hl 1 rfl) ?_
      obtain ⟨hh1, hh2⟩ := h
      refine lv_icmp_ge (tgt := 202) hx hb dX7_steps_57 (by decide) (fun hc => ?_) (fun hc => ?_)
      · have h := hh1 hc
        refine lv_iconst (v := 0) hx hb dX7_steps_202 (by decide) ?_
        refine lv_istore_n (lv' := [(2, .int (0 : Int32)), (1, .int y1), (0, .ref (aN 0))]) hx hb dX7_steps_203 rfl hl (by decide) rfl (fun ls hl => ?_)
        refine lv_iconst (v := 0) hx hb dX7_steps_204 (by decide) ?_
        refine lv_istore_n (lv' := [(3, .int (0 : Int32)), (2, .int (0 : Int32)), (1, .int y1), (0, .ref (aN 0))]) hx hb dX7_steps_205 rfl hl (by decide) rfl (fun ls hl => ?_)
        obtain ⟨n0, h⟩ := h
        exact g206 n0 y1 (0 : Int32) (0 : Int32) zN _ _ _ h hP hD hS hl
      · have h := hh2 hc
        refine lv_aload_n hx hb dX7_steps_60 rfl (lv_at hl 2 rfl) ?_
        refine va_get (D := D) (ci := 7) (v := .ref (aN 10)) (C := RX7) (T := TX7) (N := 14) hx hb hts jX7_steps_X7 hown hK hP 0 rfl rfl 12 (by decide) (hts (.fieldLink RX7 41 "BrotherAutomataModel" "many" "[I") (List.mem_of_getElem? (i := 3) rfl)) (fun _ h9 => h9) rfl dX7_steps_61 ?_
        refine lv_iload_n hx hb dX7_steps_64 rfl (lv_at hl 0 rfl) ?_
        obtain ⟨hi, h⟩ := h
        refine va_iald hx hb hK hP 10 0 rfl rfl hi dX7_steps_65 ?_
        obtain ⟨hh1, hh2⟩ := h
        refine lv_if_ne (tgt := 72) hx hb dX7_steps_66 (by decide) (fun hc => ?_) (fun hc => ?_)
        · have h := hh2 hc
          refine lv_aload_n hx hb dX7_steps_72 rfl (lv_at hl 2 rfl) ?_
          refine lv_aload_n hx hb dX7_steps_73 rfl (lv_at hl 2 rfl) ?_
          refine lv_iconst (v := 2) hx hb dX7_steps_74 (by decide) ?_
          refine lv_iload_n hx hb dX7_steps_75 rfl (lv_at hl 0 rfl) ?_
          refine lv_iconst (v := 0) hx hb dX7_steps_76 (by decide) ?_
          refine lv_iconst (v := 1) hx hb dX7_steps_77 (by decide) ?_
          refine xcalli (wr := ([] : va_W)) (w2 := fun (u78 : Unit) => (wN cI aN zN)) (va_runV (As := [.int (2 : Int32), .int y2, .int (0 : Int32), .int (1 : Int32)]) (rest := [.ref (aN 0)]) ⟨hx, hb, hml, hown, hts⟩ (mX7_leads l D cI cO tA tS aN zN (2 : Int32) y2 (0 : Int32) (1 : Int32) _ h) (cwV 4 hts gX7_steps_X7_leads rfl rfl rfl (by decide +kernel) ⟨Nat.le_of_ble_eq_true rfl, Nat.le_of_ble_eq_true rfl⟩) (xpreV hP hD hS hA hK hE [0, 1, 2, 3, 4, 5, 6, 7, 8, 9, 10, 11] rfl rfl 7 0 rfl rfl) rfl rfl hl.1 rfl (lv_room (Nat.le_of_ble_eq_true rfl)) dX7_steps_78 ⟨Nat.le_refl 0, Nat.le_refl 0⟩) hP hD hS hA [0, 1, 2, 3, 4, 5, 6, 7, 8, 9, 10, 11] [] [0, 1, 2, 3, 4, 5, 6, 7, 8, 9, 10, 11] rfl rfl rfl (by decide) rfl (fun _ => rfl) (fun r78 u78 H locs h hP hD hS => ?_)
          refine lv_aload_n hx hb dX7_steps_81 rfl (lv_at hl 2 rfl) ?_
          refine va_get (D := D) (ci := 7) (v := .ref (aN 10)) (C := RX7) (T := TX7) (N := 14) hx hb hts jX7_steps_X7 hown hK hP 0 rfl rfl 12 (by decide) (hts (.fieldLink RX7 41 "BrotherAutomataModel" "many" "[I") (List.mem_of_getElem? (i := 3) rfl)) (fun _ h9 => h9) rfl dX7_steps_82 ?_
          refine lv_iload_n hx hb dX7_steps_85 rfl (lv_at hl 0 rfl) ?_
          obtain ⟨hi, h⟩ := h
          refine va_iald hx hb hK hP 10 0 rfl rfl hi dX7_steps_86 ?_
          refine xcallv (wr := ([] : va_W)) (w2 := fun (u87 : (CS)) => (wN cI aN u87)) (va_runV (As := [.int r78, .int ((zN 9) y2.toNatClampNeg)]) (rest := []) ⟨hx, hb, hml, hown, hts⟩ (mX7_puts l D cI cO tA tS aN zN r78 ((zN 9) y2.toNatClampNeg) _ h) (cwV 2 hts gX7_steps_X7_puts rfl rfl rfl (by decide +kernel) ⟨Nat.le_of_ble_eq_true rfl, Nat.le_of_ble_eq_true rfl⟩) (xpreV hP hD hS hA hK hE [0, 1, 2, 3, 4, 5, 6, 7, 8, 9, 10, 11] rfl rfl 7 0 rfl rfl) rfl rfl hl.1 rfl (lv_room (Nat.le_of_ble_eq_true rfl)) dX7_steps_87 ⟨Nat.le_refl 0, Nat.le_refl 0⟩) hP hD hS hA [0, 1, 2, 3, 4, 5, 6, 7, 8, 9, 10, 11] [] [0, 1, 2, 3, 4, 5, 6, 7, 8, 9, 10, 11] rfl rfl rfl (by decide) rfl (fun _ => rfl) (fun u87 H locs h hP hD hS => ?_)
          refine lv_iconst (v := 3) hx hb dX7_steps_90 (by decide) ?_
          refine lv_istore_n (lv' := [(3, .int (3 : Int32)), (2, .int y2), (1, .int y1), (0, .ref (aN 0))]) hx hb dX7_steps_91 rfl hl (by decide) rfl (fun ls hl => ?_)
          obtain ⟨n0, h⟩ := h
          exact g92 (qX7_steps_55 post n) hk55 n0 y1 y2 (3 : Int32) u87 _ _ _ h hP hD hS hl
        · have h := hh1 hc
          refine lv_goto (tgt := 196) hx hb dX7_steps_69 (by decide) ?_
          exact g196 (qX7_steps_55 post n) hk55 y1 y2 zN _ _ _ h hP hD hS hl
  have g9 : ∀ (n : Nat) (y1 : Int32) (y2 : Int32) (zN : CS) (H : Heap) (locs : List Loc) (ls : Array Slot), qX7_steps_9 post n y1 y2 zN → va_P D vwCl (wN cI aN zN) H → va_D A (wN cI aN zN) → va_S A s.heap H locs → lv_has ls 6 [(2, .int y2), (1, .int y1), (0, .ref (aN 0))] → W p l e ({ frames := 2, cells := 0, slots := 0, locals := 48 } : Room) s m ([.ref (aN 0)] : List Value).toArray below meth c H locs 0 0 (MQ below (va_Qi post (xB D cI cO A (w_X7_steps cI cO aN)) A) ([.ref (aN 0)] : List Value).toArray s 0 0 A) (F0 m 9 ls []) := by
    intro n
    induction n with
    | zero => intro y1 y2 zN H locs ls h; exact False.elim h
    | succ n hk9 =>
      intro y1 y2 zN H locs ls h hP hD hS hl
      have h : qX7_steps_9b post (qX7_steps_9 post n) y1 y2 zN := h
      refine lv_iload_n hx hb dX7_steps_9 rfl (lv_at hl 0 rfl) ?_
      refine lv_iload_n hx hb dX7_steps_10 rfl (lv_at hl 1 rfl) ?_
      obtain ⟨hh1, hh2⟩ := h
      refine lv_icmp_ge (tgt := 27) hx hb dX7_steps_11 (by decide) (fun hc => ?_) (fun hc => ?_)
      · have h := hh1 hc
        refine lv_aload_n hx hb dX7_steps_27 rfl (lv_at hl 2 rfl) ?_
        refine lv_aload_n hx hb dX7_steps_28 rfl (lv_at hl 2 rfl) ?_
        refine lv_iconst (v := 0) hx hb dX7_steps_29 (by decide) ?_
        refine lv_iconst (v := 0) hx hb dX7_steps_30 (by decide) ?_
        refine lv_iconst (v := 0) hx hb dX7_steps_31 (by decide) ?_
        refine lv_iconst (v := 1) hx hb dX7_steps_32 (by decide) ?_
        refine xcalli (wr := ([] : va_W)) (w2 := fun (u33 : Unit) => (wN cI aN zN)) (va_runV (As := [.int (0 : Int32), .int (0 : Int32), .int (0 : Int32), .int (1 : Int32)]) (rest := [.ref (aN 0)]) ⟨hx, hb, hml, hown, hts⟩ (mX7_leads l D cI cO tA tS aN zN (0 : Int32) (0 : Int32) (0 : Int32) (1 : Int32) _ h) (cwV 4 hts gX7_steps_X7_leads rfl rfl rfl (by decide +kernel) ⟨Nat.le_of_ble_eq_true rfl, Nat.le_of_ble_eq_true rfl⟩) (xpreV hP hD hS hA hK hE [0, 1, 2, 3, 4, 5, 6, 7, 8, 9, 10, 11] rfl rfl 7 0 rfl rfl) rfl rfl hl.1 rfl (lv_room (Nat.le_of_ble_eq_true rfl)) dX7_steps_33 ⟨Nat.le_refl 0, Nat.le_refl 0⟩) hP hD hS hA [0, 1, 2, 3, 4, 5, 6, 7, 8, 9, 10, 11] [] [0, 1, 2, 3, 4, 5, 6, 7, 8, 9, 10, 11] rfl rfl rfl (by decide) rfl (fun _ => rfl) (fun r33 u33 H locs h hP hD hS => ?_)
        refine lv_iconst (v := 1) hx hb dX7_steps_36 (by decide) ?_
        refine xcallv (wr := ([] : va_W)) (w2 := fun (u37 : (CS)) => (wN cI aN u37)) (va_runV (As := [.int r33, .int (1 : Int32)]) (rest := []) ⟨hx, hb, hml, hown, hts⟩ (mX7_puts l D cI cO tA tS aN zN r33 (1 : Int32) _ h) (cwV 2 hts gX7_steps_X7_puts rfl rfl rfl (by decide +kernel) ⟨Nat.le_of_ble_eq_true rfl, Nat.le_of_ble_eq_true rfl⟩) (xpreV hP hD hS hA hK hE [0, 1, 2, 3, 4, 5, 6, 7, 8, 9, 10, 11] rfl rfl 7 0 rfl rfl) rfl rfl hl.1 rfl (lv_room (Nat.le_of_ble_eq_true rfl)) dX7_steps_37 ⟨Nat.le_refl 0, Nat.le_refl 0⟩) hP hD hS hA [0, 1, 2, 3, 4, 5, 6, 7, 8, 9, 10, 11] [] [0, 1, 2, 3, 4, 5, 6, 7, 8, 9, 10, 11] rfl rfl rfl (by decide) rfl (fun _ => rfl) (fun u37 H locs h hP hD hS => ?_)
        refine lv_aload_n hx hb dX7_steps_40 rfl (lv_at hl 2 rfl) ?_
        refine lv_aload_n hx hb dX7_steps_41 rfl (lv_at hl 2 rfl) ?_
        refine lv_iconst (v := 1) hx hb dX7_steps_42 (by decide) ?_
        refine lv_iconst (v := 0) hx hb dX7_steps_43 (by decide) ?_
        refine lv_iconst (v := 0) hx hb dX7_steps_44 (by decide) ?_
        refine lv_iconst (v := 1) hx hb dX7_steps_45 (by decide) ?_
        refine xcalli (wr := ([] : va_W)) (w2 := fun (u46 : Unit) => (wN cI aN u37)) (va_runV (As := [.int (1 : Int32), .int (0 : Int32), .int (0 : Int32), .int (1 : Int32)]) (rest := [.ref (aN 0)]) ⟨hx, hb, hml, hown, hts⟩ (mX7_leads l D cI cO tA tS aN u37 (1 : Int32) (0 : Int32) (0 : Int32) (1 : Int32) _ h) (cwV 4 hts gX7_steps_X7_leads rfl rfl rfl (by decide +kernel) ⟨Nat.le_of_ble_eq_true rfl, Nat.le_of_ble_eq_true rfl⟩) (xpreV hP hD hS hA hK hE [0, 1, 2, 3, 4, 5, 6, 7, 8, 9, 10, 11] rfl rfl 7 0 rfl rfl) rfl rfl hl.1 rfl (lv_room (Nat.le_of_ble_eq_true rfl)) dX7_steps_46 ⟨Nat.le_refl 0, Nat.le_refl 0⟩) hP hD hS hA [0, 1, 2, 3, 4, 5, 6, 7, 8, 9, 10, 11] [] [0, 1, 2, 3, 4, 5, 6, 7, 8, 9, 10, 11] rfl rfl rfl (by decide) rfl (fun _ => rfl) (fun r46 u46 H locs h hP hD hS => ?_)
        refine lv_iconst (v := 1) hx hb dX7_steps_49 (by decide) ?_
        refine xcallv (wr := ([] : va_W)) (w2 := fun (u50 : (CS)) => (wN cI aN u50)) (va_runV (As := [.int r46, .int (1 : Int32)]) (rest := []) ⟨hx, hb, hml, hown, hts⟩ (mX7_puts l D cI cO tA tS aN u37 r46 (1 : Int32) _ h) (cwV 2 hts gX7_steps_X7_puts rfl rfl rfl (by decide +kernel) ⟨Nat.le_of_ble_eq_true rfl, Nat.le_of_ble_eq_true rfl⟩) (xpreV hP hD hS hA hK hE [0, 1, 2, 3, 4, 5, 6, 7, 8, 9, 10, 11] rfl rfl 7 0 rfl rfl) rfl rfl hl.1 rfl (lv_room (Nat.le_of_ble_eq_true rfl)) dX7_steps_50 ⟨Nat.le_refl 0, Nat.le_refl 0⟩) hP hD hS hA [0, 1, 2, 3, 4, 5, 6, 7, 8, 9, 10, 11] [] [0, 1, 2, 3, 4, 5, 6, 7, 8, 9, 10, 11] rfl rfl rfl (by decide) rfl (fun _ => rfl) (fun u50 H locs h hP hD hS => ?_)
        refine lv_iconst (v := 0) hx hb dX7_steps_53 (by decide) ?_
        refine lv_istore_n (lv' := [(2, .int (0 : Int32)), (1, .int y1), (0, .ref (aN 0))]) hx hb dX7_steps_54 rfl hl (by decide) rfl (fun ls hl => ?_)
        obtain ⟨n0, h⟩ := h
        exact g55 n0 y1 (0 : Int32) u50 _ _ _ h hP hD hS hl
      · have h := hh2 hc
        refine lv_aload_n hx hb dX7_steps_14 rfl (lv_at hl 2 rfl) ?_
        refine va_get (D := D) (ci := 7) (v := .ref (aN 11)) (C := RX7) (T := TX7) (N := 14) hx hb hts jX7_steps_X7 hown hK hP 0 rfl rfl 13 (by decide) (hts (.fieldLink RX7 44 "BrotherAutomataModel" "more" "[I") (List.mem_of_getElem? (i := 2) rfl)) (fun _ h9 => h9) rfl dX7_steps_15 ?_
        refine lv_iload_n hx hb dX7_steps_18 rfl (lv_at hl 0 rfl) ?_
        refine lv_iconst (v := 0) hx hb dX7_steps_19 (by decide) ?_
        obtain ⟨hi, h⟩ := h
        refine va_iast hx hb hK hP hD hS 11 0 rfl rfl hi dX7_steps_20 (fun H locs hP hD hS => ?_)
        have hP : va_P D vwCl (wN cI aN (st zN 10 y2.toNatClampNeg (0 : Int32))) H := hP
        have hD : va_D A (wN cI aN (st zN 10 y2.toNatClampNeg (0 : Int32))) := hD
        refine lv_iinc (v := (y2 + (1 : Int32))) (lv' := [(2, .int (y2 + (1 : Int32))), (1, .int y1), (0, .ref (aN 0))]) hx hb dX7_steps_21 hl (k := 0) rfl rfl (by decide) rfl (fun ls hl => ?_)
        refine lv_goto (tgt := 9) hx hb dX7_steps_24 (by decide) ?_
        exact hk9 y1 (y2 + (1 : Int32)) (st zN 10 y2.toNatClampNeg (0 : Int32)) _ _ _ h hP hD hS hl
  refine lv_iconst (v := 1) hx hb dX7_steps_0 (by decide) ?_
  refine lv_aload_n hx hb dX7_steps_1 rfl (lv_at hl 0 rfl) ?_
  refine va_get (D := D) (ci := 7) (v := .int (zN 11 1)) (C := RX7) (T := TX7) (N := 14) hx hb hts jX7_steps_X7 hown hK hP 0 rfl rfl 8 (by decide) (hts (.fieldLink RX7 31 "BrotherAutomataModel" "states" "I") (List.mem_of_getElem? (i := 1) rfl)) (fun _ h9 => h9) rfl dX7_steps_2 ?_
  refine lv_ishl hx hb dX7_steps_5 ?_
  refine lv_istore_n (lv' := [(1, .int ((1 : Int32) <<< ((zN 11 1) &&& 31))), (0, .ref (aN 0))]) hx hb dX7_steps_6 rfl hl (by decide) rfl (fun ls hl => ?_)
  refine lv_iconst (v := 0) hx hb dX7_steps_7 (by decide) ?_
  refine lv_istore_n (lv' := [(2, .int (0 : Int32)), (1, .int ((1 : Int32) <<< ((zN 11 1) &&& 31))), (0, .ref (aN 0))]) hx hb dX7_steps_8 rfl hl (by decide) rfl (fun ls hl => ?_)
  obtain ⟨n0, h⟩ := h
  exact g9 n0 ((1 : Int32) <<< ((zN 11 1) &&& 31)) (0 : Int32) zN _ _ _ h hP hD hS hl
theorem dX7_starts_0 : decode cX7_starts 0 = .ok (.iconst 0, 1) := by decide +kernel
theorem dX7_starts_1 : decode cX7_starts 1 = .ok (.istore_n 1, 1) := by decide +kernel
theorem dX7_starts_2 : decode cX7_starts 2 = .ok (.iload_n 1, 1) := by decide +kernel
theorem dX7_starts_3 : decode cX7_starts 3 = .ok (.bipush 64, 2) := by decide +kernel
theorem dX7_starts_5 : decode cX7_starts 5 = .ok (.if_icmp .ge 16, 3) := by decide +kernel
theorem dX7_starts_8 : decode cX7_starts 8 = .ok (.aload_n 0, 1) := by decide +kernel
theorem dX7_starts_9 : decode cX7_starts 9 = .ok (.getfield 41, 3) := by decide +kernel
theorem dX7_starts_12 : decode cX7_starts 12 = .ok (.iload_n 1, 1) := by decide +kernel
theorem dX7_starts_13 : decode cX7_starts 13 = .ok (.iconst 0, 1) := by decide +kernel
theorem dX7_starts_14 : decode cX7_starts 14 = .ok (.iastore, 1) := by decide +kernel
theorem dX7_starts_15 : decode cX7_starts 15 = .ok (.iinc 1 1, 3) := by decide +kernel
theorem dX7_starts_18 : decode cX7_starts 18 = .ok (.goto (-16), 3) := by decide +kernel
theorem dX7_starts_21 : decode cX7_starts 21 = .ok (.return_, 1) := by decide +kernel
theorem jX7_starts_X7 : ∀ w ∈ wsX70, w ∈ wsX7_starts := by decide +kernel
abbrev w_X7_starts (cI cO : ClassId) (aN : Nat → Nat)  : ((CS)) → va_W := fun u => (wN cI aN u)
set_option maxRecDepth 100000 in
set_option maxHeartbeats 8000000 in
theorem mX7_starts (l : Launch) (D : va_G) (cI cO : ClassId) (tA tS : Nat) (aN : Nat → Nat) (zN : CS)  (sz : Nat) {post : ((CS)) → Prop} (h : qX7_starts post zN) : Met l yX7_starts wsX7_starts ({ frames := 0, cells := 0, slots := 0, locals := 0 } : Room) (xPre D cI cO tA tS [.ref (aN 0)] (wN cI aN zN) sz) (va_Qv post (xB D cI cO (va_A (wN cI aN zN) sz) (w_X7_starts cI cO aN)) (va_A (wN cI aN zN) sz)) 0 0 (va_A (wN cI aN zN) sz) := by
  refine xMet D cI cO tA tS (fun A => va_Qv post (xB D cI cO A (w_X7_starts cI cO aN)) A) (cc := cX7_starts) (maxL := 2) (ret := none) (by decide) rfl (Nat.le_of_ble_eq_true rfl) ?_
  intro p e s m below meth c A ls hx hb hr hts hown hlocks hin hml hA hS hP hK hD hE hl
  have hown : s.vm.findClass RX7 = some m.cls := hown
  have hl : lv_has ls 2 [(0, .ref (aN 0))] := hl
  have g2 : ∀ (n : Nat) (y1 : Int32) (zN : CS) (H : Heap) (locs : List Loc) (ls : Array Slot), qX7_starts_2 post n y1 zN → va_P D vwCl (wN cI aN zN) H → va_D A (wN cI aN zN) → va_S A s.heap H locs → lv_has ls 2 [(1, .int y1), (0, .ref (aN 0))] → W p l e ({ frames := 0, cells := 0, slots := 0, locals := 0 } : Room) s m ([.ref (aN 0)] : List Value).toArray below meth c H locs 0 0 (MQ below (va_Qv post (xB D cI cO A (w_X7_starts cI cO aN)) A) ([.ref (aN 0)] : List Value).toArray s 0 0 A) (F0 m 2 ls []) := by
    intro n
    induction n with
    | zero => intro y1 zN H locs ls h; exact False.elim h
    | succ n hk2 =>
      intro y1 zN H locs ls h hP hD hS hl
      have h : qX7_starts_2b post (qX7_starts_2 post n) y1 zN := h
      refine lv_iload_n hx hb dX7_starts_2 rfl (lv_at hl 0 rfl) ?_
      refine lv_bipush (v := 64) hx hb dX7_starts_3 (by decide) ?_
      obtain ⟨hh1, hh2⟩ := h
      refine lv_icmp_ge (tgt := 21) hx hb dX7_starts_5 (by decide) (fun hc => ?_) (fun hc => ?_)
      · have h := hh1 hc
        exact xvret (w := (w_X7_starts cI cO aN)) (zN) hx hb hr hlocks h hP hK hD hS dX7_starts_21
      · have h := hh2 hc
        refine lv_aload_n hx hb dX7_starts_8 rfl (lv_at hl 1 rfl) ?_
        refine va_get (D := D) (ci := 7) (v := .ref (aN 10)) (C := RX7) (T := TX7) (N := 14) hx hb hts jX7_starts_X7 hown hK hP 0 rfl rfl 12 (by decide) (hts (.fieldLink RX7 41 "BrotherAutomataModel" "many" "[I") (List.mem_of_getElem? (i := 1) rfl)) (fun _ h9 => h9) rfl dX7_starts_9 ?_
        refine lv_iload_n hx hb dX7_starts_12 rfl (lv_at hl 0 rfl) ?_
        refine lv_iconst (v := 0) hx hb dX7_starts_13 (by decide) ?_
        obtain ⟨hi, h⟩ := h
        refine va_iast hx hb hK hP hD hS 10 0 rfl rfl hi dX7_starts_14 (fun H locs hP hD hS => ?_)
        have hP : va_P D vwCl (wN cI aN (st zN 9 y1.toNatClampNeg (0 : Int32))) H := hP
        have hD : va_D A (wN cI aN (st zN 9 y1.toNatClampNeg (0 : Int32))) := hD
        refine lv_iinc (v := (y1 + (1 : Int32))) (lv' := [(1, .int (y1 + (1 : Int32))), (0, .ref (aN 0))]) hx hb dX7_starts_15 hl (k := 0) rfl rfl (by decide) rfl (fun ls hl => ?_)
        refine lv_goto (tgt := 2) hx hb dX7_starts_18 (by decide) ?_
        exact hk2 (y1 + (1 : Int32)) (st zN 9 y1.toNatClampNeg (0 : Int32)) _ _ _ h hP hD hS hl
  refine lv_iconst (v := 0) hx hb dX7_starts_0 (by decide) ?_
  refine lv_istore_n (lv' := [(1, .int (0 : Int32)), (0, .ref (aN 0))]) hx hb dX7_starts_1 rfl hl (by decide) rfl (fun ls hl => ?_)
  obtain ⟨n0, h⟩ := h
  exact g2 n0 (0 : Int32) zN _ _ _ h hP hD hS hl
set_option maxRecDepth 20000 in
theorem ggX7_counts_X7_starts : GoodIn wsX7_counts wsX7_starts := goodIn_r _ [5, 6, 31, 32, 33, 34, 35, 36, 37, 38, 39, 40, 41, 42, 43, 44] (by decide +kernel) (by decide +kernel)
set_option maxRecDepth 20000 in
theorem gX7_counts_X7_starts : GoodIn wsX7_counts (wsV RX7 111 RX7 yX7_starts wsX7_starts) := goodIn_app (goodIn_of _ (by decide +kernel)) ggX7_counts_X7_starts
set_option maxRecDepth 20000 in
theorem ggX7_counts_X7_steps : GoodIn wsX7_counts wsX7_steps := goodIn_r _ [10, 11, 12, 6, 13, 14, 15, 4, 16, 17, 18, 19, 20, 21, 22, 23, 24, 25, 26, 27, 28, 29, 30, 31, 32, 33, 34, 35, 36, 37, 38, 39, 40, 41, 42, 43, 44] (by decide +kernel) (by decide +kernel)
set_option maxRecDepth 20000 in
theorem gX7_counts_X7_steps : GoodIn wsX7_counts (wsV RX7 114 RX7 yX7_steps wsX7_steps) := goodIn_app (goodIn_of _ (by decide +kernel)) ggX7_counts_X7_steps
theorem dX7_counts_0 : decode cX7_counts 0 = .ok (.aload_n 0, 1) := by decide +kernel
theorem dX7_counts_1 : decode cX7_counts 1 = .ok (.invokevirtual 111, 3) := by decide +kernel
theorem dX7_counts_4 : decode cX7_counts 4 = .ok (.iconst 1, 1) := by decide +kernel
theorem dX7_counts_5 : decode cX7_counts 5 = .ok (.istore_n 1, 1) := by decide +kernel
theorem dX7_counts_6 : decode cX7_counts 6 = .ok (.iload_n 1, 1) := by decide +kernel
theorem dX7_counts_7 : decode cX7_counts 7 = .ok (.ifCond .eq 11, 3) := by decide +kernel
theorem dX7_counts_10 : decode cX7_counts 10 = .ok (.aload_n 0, 1) := by decide +kernel
theorem dX7_counts_11 : decode cX7_counts 11 = .ok (.invokevirtual 114, 3) := by decide +kernel
theorem dX7_counts_14 : decode cX7_counts 14 = .ok (.istore_n 1, 1) := by decide +kernel
theorem dX7_counts_15 : decode cX7_counts 15 = .ok (.goto (-9), 3) := by decide +kernel
theorem dX7_counts_18 : decode cX7_counts 18 = .ok (.return_, 1) := by decide +kernel
abbrev w_X7_counts (cI cO : ClassId) (aN : Nat → Nat)  : ((CS)) → va_W := fun u => (wN cI aN u)
set_option maxRecDepth 100000 in
set_option maxHeartbeats 8000000 in
theorem mX7_counts (l : Launch) (D : va_G) (cI cO : ClassId) (tA tS : Nat) (aN : Nat → Nat) (zN : CS)  (sz : Nat) {post : ((CS)) → Prop} (h : qX7_counts post zN) : Met l yX7_counts wsX7_counts ({ frames := 3, cells := 0, slots := 0, locals := 73 } : Room) (xPre D cI cO tA tS [.ref (aN 0)] (wN cI aN zN) sz) (va_Qv post (xB D cI cO (va_A (wN cI aN zN) sz) (w_X7_counts cI cO aN)) (va_A (wN cI aN zN) sz)) 0 0 (va_A (wN cI aN zN) sz) := by
  refine xMet D cI cO tA tS (fun A => va_Qv post (xB D cI cO A (w_X7_counts cI cO aN)) A) (cc := cX7_counts) (maxL := 2) (ret := none) (by decide) rfl (Nat.le_of_ble_eq_true rfl) ?_
  intro p e s m below meth c A ls hx hb hr hts hown hlocks hin hml hA hS hP hK hD hE hl
  have hown : s.vm.findClass RX7 = some m.cls := hown
  have hl : lv_has ls 2 [(0, .ref (aN 0))] := hl
  have g6 : ∀ (n : Nat) (y1 : Int32) (zN : CS) (H : Heap) (locs : List Loc) (ls : Array Slot), qX7_counts_6 post n y1 zN → va_P D vwCl (wN cI aN zN) H → va_D A (wN cI aN zN) → va_S A s.heap H locs → lv_has ls 2 [(1, .int y1), (0, .ref (aN 0))] → W p l e ({ frames := 3, cells := 0, slots := 0, locals := 73 } : Room) s m ([.ref (aN 0)] : List Value).toArray below meth c H locs 0 0 (MQ below (va_Qv post (xB D cI cO A (w_X7_counts cI cO aN)) A) ([.ref (aN 0)] : List Value).toArray s 0 0 A) (F0 m 6 ls []) := by
    intro n
    induction n with
    | zero => intro y1 zN H locs ls h; exact False.elim h
    | succ n hk6 =>
      intro y1 zN H locs ls h hP hD hS hl
      have h : qX7_counts_6b post (qX7_counts_6 post n) y1 zN := h
      refine lv_iload_n hx hb dX7_counts_6 rfl (lv_at hl 0 rfl) ?_
      obtain ⟨hh1, hh2⟩ := h
      refine lv_if_eq (tgt := 18) hx hb dX7_counts_7 (by decide) (fun hc => ?_) (fun hc => ?_)
      · have h := hh1 hc
        exact xvret (w := (w_X7_counts cI cO aN)) (zN) hx hb hr hlocks h hP hK hD hS dX7_counts_18
      · have h := hh2 hc
        refine lv_aload_n hx hb dX7_counts_10 rfl (lv_at hl 1 rfl) ?_
        refine xcalli (wr := ([] : va_W)) (w2 := fun (u11 : (CS)) => (wN cI aN u11)) (va_runV (As := []) (rest := []) ⟨hx, hb, hml, hown, hts⟩ (mX7_steps l D cI cO tA tS aN zN _ h) (cwV 0 hts gX7_counts_X7_steps rfl rfl rfl (by decide +kernel) ⟨Nat.le_of_ble_eq_true rfl, Nat.le_of_ble_eq_true rfl⟩) (xpreV hP hD hS hA hK hE [0, 1, 2, 3, 4, 5, 6, 7, 8, 9, 10, 11] rfl rfl 7 0 rfl rfl) rfl rfl hl.1 rfl (lv_room (Nat.le_of_ble_eq_true rfl)) dX7_counts_11 ⟨Nat.le_refl 0, Nat.le_refl 0⟩) hP hD hS hA [0, 1, 2, 3, 4, 5, 6, 7, 8, 9, 10, 11] [] [0, 1, 2, 3, 4, 5, 6, 7, 8, 9, 10, 11] rfl rfl rfl (by decide) rfl (fun _ => rfl) (fun r11 u11 H locs h hP hD hS => ?_)
        refine lv_istore_n (lv' := [(1, .int r11), (0, .ref (aN 0))]) hx hb dX7_counts_14 rfl hl (by decide) rfl (fun ls hl => ?_)
        refine lv_goto (tgt := 6) hx hb dX7_counts_15 (by decide) ?_
        exact hk6 r11 u11 _ _ _ h hP hD hS hl
  refine lv_aload_n hx hb dX7_counts_0 rfl (lv_at hl 0 rfl) ?_
  refine xcallv (wr := ([] : va_W)) (w2 := fun (u1 : (CS)) => (wN cI aN u1)) (va_runV (As := []) (rest := []) ⟨hx, hb, hml, hown, hts⟩ (mX7_starts l D cI cO tA tS aN zN _ h) (cwV 0 hts gX7_counts_X7_starts rfl rfl rfl (by decide +kernel) ⟨Nat.le_of_ble_eq_true rfl, Nat.le_of_ble_eq_true rfl⟩) (xpreV hP hD hS hA hK hE [0, 1, 2, 3, 4, 5, 6, 7, 8, 9, 10, 11] rfl rfl 7 0 rfl rfl) rfl rfl hl.1 rfl (lv_room (Nat.le_of_ble_eq_true rfl)) dX7_counts_1 ⟨Nat.le_refl 0, Nat.le_refl 0⟩) hP hD hS hA [0, 1, 2, 3, 4, 5, 6, 7, 8, 9, 10, 11] [] [0, 1, 2, 3, 4, 5, 6, 7, 8, 9, 10, 11] rfl rfl rfl (by decide) rfl (fun _ => rfl) (fun u1 H locs h hP hD hS => ?_)
  refine lv_iconst (v := 1) hx hb dX7_counts_4 (by decide) ?_
  refine lv_istore_n (lv' := [(1, .int (1 : Int32)), (0, .ref (aN 0))]) hx hb dX7_counts_5 rfl hl (by decide) rfl (fun ls hl => ?_)
  obtain ⟨n0, h⟩ := h
  exact g6 n0 (1 : Int32) u1 _ _ _ h hP hD hS hl
set_option maxRecDepth 20000 in
theorem ggX7_treesOfSet_X7_in : GoodIn wsX7_treesOfSet wsX7_in := goodIn_r _ [6] (by decide +kernel) (by decide +kernel)
set_option maxRecDepth 20000 in
theorem gX7_treesOfSet_X7_in : GoodIn wsX7_treesOfSet (va_wsS RX7 58 yX7_in wsX7_in) := goodIn_app (goodIn_of _ (by decide +kernel)) ggX7_treesOfSet_X7_in
set_option maxRecDepth 20000 in
theorem ggX7_treesOfSet_X7_counts : GoodIn wsX7_treesOfSet wsX7_counts := goodIn_r _ [10, 11, 12, 13, 5, 14, 2, 15, 16, 17, 18, 1, 19, 20, 21, 22, 23, 24, 25, 26, 27, 28, 29, 30, 31, 32, 33, 34, 35, 36, 37, 38, 39, 40, 41, 42, 43, 44, 45, 46, 47, 48, 49, 50, 51] (by decide +kernel) (by decide +kernel)
set_option maxRecDepth 20000 in
theorem gX7_treesOfSet_X7_counts : GoodIn wsX7_treesOfSet (wsV RX7 118 RX7 yX7_counts wsX7_counts) := goodIn_app (goodIn_of _ (by decide +kernel)) ggX7_treesOfSet_X7_counts
theorem dX7_treesOfSet_0 : decode cX7_treesOfSet 0 = .ok (.iload_n 1, 1) := by decide +kernel
theorem dX7_treesOfSet_1 : decode cX7_treesOfSet 1 = .ok (.iconst 0, 1) := by decide +kernel
theorem dX7_treesOfSet_2 : decode cX7_treesOfSet 2 = .ok (.iconst 1, 1) := by decide +kernel
theorem dX7_treesOfSet_3 : decode cX7_treesOfSet 3 = .ok (.aload_n 0, 1) := by decide +kernel
theorem dX7_treesOfSet_4 : decode cX7_treesOfSet 4 = .ok (.getfield 31, 3) := by decide +kernel
theorem dX7_treesOfSet_7 : decode cX7_treesOfSet 7 = .ok (.ishl, 1) := by decide +kernel
theorem dX7_treesOfSet_8 : decode cX7_treesOfSet 8 = .ok (.iconst 1, 1) := by decide +kernel
theorem dX7_treesOfSet_9 : decode cX7_treesOfSet 9 = .ok (.isub, 1) := by decide +kernel
theorem dX7_treesOfSet_10 : decode cX7_treesOfSet 10 = .ok (.invokestatic 58, 3) := by decide +kernel
theorem dX7_treesOfSet_13 : decode cX7_treesOfSet 13 = .ok (.ifCond .ne 5, 3) := by decide +kernel
theorem dX7_treesOfSet_16 : decode cX7_treesOfSet 16 = .ok (.iconst (-1), 1) := by decide +kernel
theorem dX7_treesOfSet_17 : decode cX7_treesOfSet 17 = .ok (.ireturn, 1) := by decide +kernel
theorem dX7_treesOfSet_18 : decode cX7_treesOfSet 18 = .ok (.aload_n 0, 1) := by decide +kernel
theorem dX7_treesOfSet_19 : decode cX7_treesOfSet 19 = .ok (.invokevirtual 118, 3) := by decide +kernel
theorem dX7_treesOfSet_22 : decode cX7_treesOfSet 22 = .ok (.aload_n 0, 1) := by decide +kernel
theorem dX7_treesOfSet_23 : decode cX7_treesOfSet 23 = .ok (.getfield 41, 3) := by decide +kernel
theorem dX7_treesOfSet_26 : decode cX7_treesOfSet 26 = .ok (.iload_n 1, 1) := by decide +kernel
theorem dX7_treesOfSet_27 : decode cX7_treesOfSet 27 = .ok (.iaload, 1) := by decide +kernel
theorem dX7_treesOfSet_28 : decode cX7_treesOfSet 28 = .ok (.ireturn, 1) := by decide +kernel
theorem jX7_treesOfSet_X7 : ∀ w ∈ wsX70, w ∈ wsX7_treesOfSet := by decide +kernel
abbrev w_X7_treesOfSet (cI cO : ClassId) (aN : Nat → Nat)  : ((CS)) → va_W := fun u => (wN cI aN u)
set_option maxRecDepth 100000 in
set_option maxHeartbeats 8000000 in
theorem mX7_treesOfSet (l : Launch) (D : va_G) (cI cO : ClassId) (tA tS : Nat) (aN : Nat → Nat) (zN : CS) (x1 : Int32) (sz : Nat) {post : Int32 → ((CS)) → Prop} (h : qX7_treesOfSet post x1 zN) : Met l yX7_treesOfSet wsX7_treesOfSet ({ frames := 4, cells := 0, slots := 0, locals := 94 } : Room) (xPre D cI cO tA tS [.ref (aN 0), .int x1] (wN cI aN zN) sz) (va_Qi post (xB D cI cO (va_A (wN cI aN zN) sz) (w_X7_treesOfSet cI cO aN)) (va_A (wN cI aN zN) sz)) 0 0 (va_A (wN cI aN zN) sz) := by
  refine xMet D cI cO tA tS (fun A => va_Qi post (xB D cI cO A (w_X7_treesOfSet cI cO aN)) A) (cc := cX7_treesOfSet) (maxL := 2) (ret := (some .int)) (by decide) rfl (Nat.le_of_ble_eq_true rfl) ?_
  intro p e s m below meth c A ls hx hb hr hts hown hlocks hin hml hA hS hP hK hD hE hl
  have hown : s.vm.findClass RX7 = some m.cls := hown
  have hl : lv_has ls 2 [(0, .ref (aN 0)), (1, .int x1)] := hl
  refine lv_iload_n hx hb dX7_treesOfSet_0 rfl (lv_at hl 1 rfl) ?_
  refine lv_iconst (v := 0) hx hb dX7_treesOfSet_1 (by decide) ?_
  refine lv_iconst (v := 1) hx hb dX7_treesOfSet_2 (by decide) ?_
  refine lv_aload_n hx hb dX7_treesOfSet_3 rfl (lv_at hl 0 rfl) ?_
  refine va_get (D := D) (ci := 7) (v := .int (zN 11 1)) (C := RX7) (T := TX7) (N := 14) hx hb hts jX7_treesOfSet_X7 hown hK hP 0 rfl rfl 8 (by decide) (hts (.fieldLink RX7 31 "BrotherAutomataModel" "states" "I") (List.mem_of_getElem? (i := 1) rfl)) (fun _ h9 => h9) rfl dX7_treesOfSet_4 ?_
  refine lv_ishl hx hb dX7_treesOfSet_7 ?_
  refine lv_iconst (v := 1) hx hb dX7_treesOfSet_8 (by decide) ?_
  refine lv_isub hx hb dX7_treesOfSet_9 ?_
  refine xcalli (wr := (wN cI aN zN)) (w2 := fun (u10 : Unit) => (wN cI aN zN)) (va_runS (As := [.int x1, .int (0 : Int32), .int (((1 : Int32) <<< ((zN 11 1) &&& 31)) - (1 : Int32))]) (rest := []) ⟨hx, hb, hml, hown, hts⟩ (mX7_in l D cI cO tA tS x1 (0 : Int32) (((1 : Int32) <<< ((zN 11 1) &&& 31)) - (1 : Int32)) _ h) (va_cwS 3 hts gX7_treesOfSet_X7_in rfl rfl rfl (by decide +kernel) ⟨Nat.le_of_ble_eq_true rfl, Nat.le_of_ble_eq_true rfl⟩) (xpreP hP hD hS hA hK hE [] rfl rfl) rfl rfl hl.1 rfl (lv_room (Nat.le_of_ble_eq_true rfl)) dX7_treesOfSet_10 ⟨Nat.le_refl 0, Nat.le_refl 0⟩) hP hD hS hA [] [0, 1, 2, 3, 4, 5, 6, 7, 8, 9, 10, 11] [0, 1, 2, 3, 4, 5, 6, 7, 8, 9, 10, 11] rfl rfl rfl (by decide) rfl (fun _ => rfl) (fun r10 u10 H locs h hP hD hS => ?_)
  obtain ⟨hh1, hh2⟩ := h
  refine lv_if_ne (tgt := 18) hx hb dX7_treesOfSet_13 (by decide) (fun hc => ?_) (fun hc => ?_)
  · have h := hh2 hc
    refine lv_aload_n hx hb dX7_treesOfSet_18 rfl (lv_at hl 0 rfl) ?_
    refine xcallv (wr := ([] : va_W)) (w2 := fun (u19 : (CS)) => (wN cI aN u19)) (va_runV (As := []) (rest := []) ⟨hx, hb, hml, hown, hts⟩ (mX7_counts l D cI cO tA tS aN zN _ h) (cwV 0 hts gX7_treesOfSet_X7_counts rfl rfl rfl (by decide +kernel) ⟨Nat.le_of_ble_eq_true rfl, Nat.le_of_ble_eq_true rfl⟩) (xpreV hP hD hS hA hK hE [0, 1, 2, 3, 4, 5, 6, 7, 8, 9, 10, 11] rfl rfl 7 0 rfl rfl) rfl rfl hl.1 rfl (lv_room (Nat.le_of_ble_eq_true rfl)) dX7_treesOfSet_19 ⟨Nat.le_refl 0, Nat.le_refl 0⟩) hP hD hS hA [0, 1, 2, 3, 4, 5, 6, 7, 8, 9, 10, 11] [] [0, 1, 2, 3, 4, 5, 6, 7, 8, 9, 10, 11] rfl rfl rfl (by decide) rfl (fun _ => rfl) (fun u19 H locs h hP hD hS => ?_)
    refine lv_aload_n hx hb dX7_treesOfSet_22 rfl (lv_at hl 0 rfl) ?_
    refine va_get (D := D) (ci := 7) (v := .ref (aN 10)) (C := RX7) (T := TX7) (N := 14) hx hb hts jX7_treesOfSet_X7 hown hK hP 0 rfl rfl 12 (by decide) (hts (.fieldLink RX7 41 "BrotherAutomataModel" "many" "[I") (List.mem_of_getElem? (i := 2) rfl)) (fun _ h9 => h9) rfl dX7_treesOfSet_23 ?_
    refine lv_iload_n hx hb dX7_treesOfSet_26 rfl (lv_at hl 1 rfl) ?_
    obtain ⟨hi, h⟩ := h
    refine va_iald hx hb hK hP 10 0 rfl rfl hi dX7_treesOfSet_27 ?_
    exact xiret (w := (w_X7_treesOfSet cI cO aN)) (u19) hx hb hr hlocks h hP hK hD hS dX7_treesOfSet_28
  · have h := hh1 hc
    refine lv_iconst (v := -1) hx hb dX7_treesOfSet_16 (by decide) ?_
    exact xiret (w := (w_X7_treesOfSet cI cO aN)) (zN) hx hb hr hlocks h hP hK hD hS dX7_treesOfSet_17
set_option maxRecDepth 20000 in
theorem ggX7_reachedSets_X7_counts : GoodIn wsX7_reachedSets wsX7_counts := goodIn_r _ [6, 7, 8, 9, 5, 10, 1, 11, 12, 13, 14, 15, 16, 17, 18, 19, 20, 21, 22, 23, 24, 25, 26, 27, 28, 29, 30, 31, 32, 33, 34, 35, 36, 37, 38, 39, 40, 41, 42, 43, 44, 45, 46, 47, 48] (by decide +kernel) (by decide +kernel)
set_option maxRecDepth 20000 in
theorem gX7_reachedSets_X7_counts : GoodIn wsX7_reachedSets (wsV RX7 118 RX7 yX7_counts wsX7_counts) := goodIn_app (goodIn_of _ (by decide +kernel)) ggX7_reachedSets_X7_counts
theorem dX7_reachedSets_0 : decode cX7_reachedSets 0 = .ok (.aload_n 0, 1) := by decide +kernel
theorem dX7_reachedSets_1 : decode cX7_reachedSets 1 = .ok (.invokevirtual 118, 3) := by decide +kernel
theorem dX7_reachedSets_4 : decode cX7_reachedSets 4 = .ok (.iconst 0, 1) := by decide +kernel
theorem dX7_reachedSets_5 : decode cX7_reachedSets 5 = .ok (.istore_n 1, 1) := by decide +kernel
theorem dX7_reachedSets_6 : decode cX7_reachedSets 6 = .ok (.iconst 0, 1) := by decide +kernel
theorem dX7_reachedSets_7 : decode cX7_reachedSets 7 = .ok (.istore_n 2, 1) := by decide +kernel
theorem dX7_reachedSets_8 : decode cX7_reachedSets 8 = .ok (.iload_n 2, 1) := by decide +kernel
theorem dX7_reachedSets_9 : decode cX7_reachedSets 9 = .ok (.bipush 64, 2) := by decide +kernel
theorem dX7_reachedSets_11 : decode cX7_reachedSets 11 = .ok (.if_icmp .ge 26, 3) := by decide +kernel
theorem dX7_reachedSets_14 : decode cX7_reachedSets 14 = .ok (.iload_n 1, 1) := by decide +kernel
theorem dX7_reachedSets_15 : decode cX7_reachedSets 15 = .ok (.aload_n 0, 1) := by decide +kernel
theorem dX7_reachedSets_16 : decode cX7_reachedSets 16 = .ok (.getfield 41, 3) := by decide +kernel
theorem dX7_reachedSets_19 : decode cX7_reachedSets 19 = .ok (.iload_n 2, 1) := by decide +kernel
theorem dX7_reachedSets_20 : decode cX7_reachedSets 20 = .ok (.iaload, 1) := by decide +kernel
theorem dX7_reachedSets_21 : decode cX7_reachedSets 21 = .ok (.ifCond .le 7, 3) := by decide +kernel
theorem dX7_reachedSets_24 : decode cX7_reachedSets 24 = .ok (.iconst 1, 1) := by decide +kernel
theorem dX7_reachedSets_25 : decode cX7_reachedSets 25 = .ok (.goto 4, 3) := by decide +kernel
theorem dX7_reachedSets_28 : decode cX7_reachedSets 28 = .ok (.iconst 0, 1) := by decide +kernel
theorem dX7_reachedSets_29 : decode cX7_reachedSets 29 = .ok (.iadd, 1) := by decide +kernel
theorem dX7_reachedSets_30 : decode cX7_reachedSets 30 = .ok (.istore_n 1, 1) := by decide +kernel
theorem dX7_reachedSets_31 : decode cX7_reachedSets 31 = .ok (.iinc 2 1, 3) := by decide +kernel
theorem dX7_reachedSets_34 : decode cX7_reachedSets 34 = .ok (.goto (-26), 3) := by decide +kernel
theorem dX7_reachedSets_37 : decode cX7_reachedSets 37 = .ok (.iload_n 1, 1) := by decide +kernel
theorem dX7_reachedSets_38 : decode cX7_reachedSets 38 = .ok (.ireturn, 1) := by decide +kernel
theorem jX7_reachedSets_X7 : ∀ w ∈ wsX70, w ∈ wsX7_reachedSets := by decide +kernel
abbrev w_X7_reachedSets (cI cO : ClassId) (aN : Nat → Nat)  : ((CS)) → va_W := fun u => (wN cI aN u)
set_option maxRecDepth 100000 in
set_option maxHeartbeats 8000000 in
theorem mX7_reachedSets (l : Launch) (D : va_G) (cI cO : ClassId) (tA tS : Nat) (aN : Nat → Nat) (zN : CS)  (sz : Nat) {post : Int32 → ((CS)) → Prop} (h : qX7_reachedSets post zN) : Met l yX7_reachedSets wsX7_reachedSets ({ frames := 4, cells := 0, slots := 0, locals := 94 } : Room) (xPre D cI cO tA tS [.ref (aN 0)] (wN cI aN zN) sz) (va_Qi post (xB D cI cO (va_A (wN cI aN zN) sz) (w_X7_reachedSets cI cO aN)) (va_A (wN cI aN zN) sz)) 0 0 (va_A (wN cI aN zN) sz) := by
  refine xMet D cI cO tA tS (fun A => va_Qi post (xB D cI cO A (w_X7_reachedSets cI cO aN)) A) (cc := cX7_reachedSets) (maxL := 3) (ret := (some .int)) (by decide) rfl (Nat.le_of_ble_eq_true rfl) ?_
  intro p e s m below meth c A ls hx hb hr hts hown hlocks hin hml hA hS hP hK hD hE hl
  have hown : s.vm.findClass RX7 = some m.cls := hown
  have hl : lv_has ls 3 [(0, .ref (aN 0))] := hl
  have g29 : ∀ (k8 : (Int32) → (Int32) → (CS) → Prop), (∀ (y1 : Int32) (y2 : Int32) (zN : CS) (H : Heap) (locs : List Loc) (ls : Array Slot), k8 y1 y2 zN → va_P D vwCl (wN cI aN zN) H → va_D A (wN cI aN zN) → va_S A s.heap H locs → lv_has ls 3 [(2, .int y2), (1, .int y1), (0, .ref (aN 0))] → W p l e ({ frames := 4, cells := 0, slots := 0, locals := 94 } : Room) s m ([.ref (aN 0)] : List Value).toArray below meth c H locs 0 0 (MQ below (va_Qi post (xB D cI cO A (w_X7_reachedSets cI cO aN)) A) ([.ref (aN 0)] : List Value).toArray s 0 0 A) (F0 m 8 ls [])) → ∀ (y1 : Int32) (y2 : Int32) (w0 : Int32) (w1 : Int32) (zN : CS) (H : Heap) (locs : List Loc) (ls : Array Slot), qX7_reachedSets_29 post k8 y1 y2 w0 w1 zN → va_P D vwCl (wN cI aN zN) H → va_D A (wN cI aN zN) → va_S A s.heap H locs → lv_has ls 3 [(2, .int y2), (1, .int y1), (0, .ref (aN 0))] → W p l e ({ frames := 4, cells := 0, slots := 0, locals := 94 } : Room) s m ([.ref (aN 0)] : List Value).toArray below meth c H locs 0 0 (MQ below (va_Qi post (xB D cI cO A (w_X7_reachedSets cI cO aN)) A) ([.ref (aN 0)] : List Value).toArray s 0 0 A) (F0 m 29 ls [.int w1, .int w0]) := by
    intro k8 hk8 y1 y2 w0 w1 zN H locs ls h hP hD hS hl
    refine lv_iadd hx hb dX7_reachedSets_29 ?_
    refine lv_istore_n (lv' := [(1, .int (w0 + w1)), (2, .int y2), (0, .ref (aN 0))]) hx hb dX7_reachedSets_30 rfl hl (by decide) rfl (fun ls hl => ?_)
    refine lv_iinc (v := (y2 + (1 : Int32))) (lv' := [(2, .int (y2 + (1 : Int32))), (1, .int (w0 + w1)), (0, .ref (aN 0))]) hx hb dX7_reachedSets_31 hl (k := 1) rfl rfl (by decide) rfl (fun ls hl => ?_)
    refine lv_goto (tgt := 8) hx hb dX7_reachedSets_34 (by decide) ?_
    exact hk8 (w0 + w1) (y2 + (1 : Int32)) zN _ _ _ h hP hD hS hl
  have g8 : ∀ (n : Nat) (y1 : Int32) (y2 : Int32) (zN : CS) (H : Heap) (locs : List Loc) (ls : Array Slot), qX7_reachedSets_8 post n y1 y2 zN → va_P D vwCl (wN cI aN zN) H → va_D A (wN cI aN zN) → va_S A s.heap H locs → lv_has ls 3 [(2, .int y2), (1, .int y1), (0, .ref (aN 0))] → W p l e ({ frames := 4, cells := 0, slots := 0, locals := 94 } : Room) s m ([.ref (aN 0)] : List Value).toArray below meth c H locs 0 0 (MQ below (va_Qi post (xB D cI cO A (w_X7_reachedSets cI cO aN)) A) ([.ref (aN 0)] : List Value).toArray s 0 0 A) (F0 m 8 ls []) := by
    intro n
    induction n with
    | zero => intro y1 y2 zN H locs ls h; exact False.elim h
    | succ n hk8 =>
      intro y1 y2 zN H locs ls h hP hD hS hl
      have h : qX7_reachedSets_8b post (qX7_reachedSets_8 post n) y1 y2 zN := h
      refine lv_iload_n hx hb dX7_reachedSets_8 rfl (lv_at hl 0 rfl) ?_
      refine lv_bipush (v := 64) hx hb dX7_reachedSets_9 (by decide) ?_
      obtain ⟨hh1, hh2⟩ := h
      refine lv_icmp_ge (tgt := 37) hx hb dX7_reachedSets_11 (by decide) (fun hc => ?_) (fun hc => ?_)
      · have h := hh1 hc
        refine lv_iload_n hx hb dX7_reachedSets_37 rfl (lv_at hl 1 rfl) ?_
        exact xiret (w := (w_X7_reachedSets cI cO aN)) (zN) hx hb hr hlocks h hP hK hD hS dX7_reachedSets_38
      · have h := hh2 hc
        refine lv_iload_n hx hb dX7_reachedSets_14 rfl (lv_at hl 1 rfl) ?_
        refine lv_aload_n hx hb dX7_reachedSets_15 rfl (lv_at hl 2 rfl) ?_
        refine va_get (D := D) (ci := 7) (v := .ref (aN 10)) (C := RX7) (T := TX7) (N := 14) hx hb hts jX7_reachedSets_X7 hown hK hP 0 rfl rfl 12 (by decide) (hts (.fieldLink RX7 41 "BrotherAutomataModel" "many" "[I") (List.mem_of_getElem? (i := 1) rfl)) (fun _ h9 => h9) rfl dX7_reachedSets_16 ?_
        refine lv_iload_n hx hb dX7_reachedSets_19 rfl (lv_at hl 0 rfl) ?_
        obtain ⟨hi, h⟩ := h
        refine va_iald hx hb hK hP 10 0 rfl rfl hi dX7_reachedSets_20 ?_
        obtain ⟨hh1, hh2⟩ := h
        refine lv_if_le (tgt := 28) hx hb dX7_reachedSets_21 (by decide) (fun hc => ?_) (fun hc => ?_)
        · have h := hh1 hc
          refine lv_iconst (v := 0) hx hb dX7_reachedSets_28 (by decide) ?_
          exact g29 (qX7_reachedSets_8 post n) hk8 y1 y2 y1 (0 : Int32) zN _ _ _ h hP hD hS hl
        · have h := hh2 hc
          refine lv_iconst (v := 1) hx hb dX7_reachedSets_24 (by decide) ?_
          refine lv_goto (tgt := 29) hx hb dX7_reachedSets_25 (by decide) ?_
          exact g29 (qX7_reachedSets_8 post n) hk8 y1 y2 y1 (1 : Int32) zN _ _ _ h hP hD hS hl
  refine lv_aload_n hx hb dX7_reachedSets_0 rfl (lv_at hl 0 rfl) ?_
  refine xcallv (wr := ([] : va_W)) (w2 := fun (u1 : (CS)) => (wN cI aN u1)) (va_runV (As := []) (rest := []) ⟨hx, hb, hml, hown, hts⟩ (mX7_counts l D cI cO tA tS aN zN _ h) (cwV 0 hts gX7_reachedSets_X7_counts rfl rfl rfl (by decide +kernel) ⟨Nat.le_of_ble_eq_true rfl, Nat.le_of_ble_eq_true rfl⟩) (xpreV hP hD hS hA hK hE [0, 1, 2, 3, 4, 5, 6, 7, 8, 9, 10, 11] rfl rfl 7 0 rfl rfl) rfl rfl hl.1 rfl (lv_room (Nat.le_of_ble_eq_true rfl)) dX7_reachedSets_1 ⟨Nat.le_refl 0, Nat.le_refl 0⟩) hP hD hS hA [0, 1, 2, 3, 4, 5, 6, 7, 8, 9, 10, 11] [] [0, 1, 2, 3, 4, 5, 6, 7, 8, 9, 10, 11] rfl rfl rfl (by decide) rfl (fun _ => rfl) (fun u1 H locs h hP hD hS => ?_)
  refine lv_iconst (v := 0) hx hb dX7_reachedSets_4 (by decide) ?_
  refine lv_istore_n (lv' := [(1, .int (0 : Int32)), (0, .ref (aN 0))]) hx hb dX7_reachedSets_5 rfl hl (by decide) rfl (fun ls hl => ?_)
  refine lv_iconst (v := 0) hx hb dX7_reachedSets_6 (by decide) ?_
  refine lv_istore_n (lv' := [(2, .int (0 : Int32)), (1, .int (0 : Int32)), (0, .ref (aN 0))]) hx hb dX7_reachedSets_7 rfl hl (by decide) rfl (fun ls hl => ?_)
  obtain ⟨n0, h⟩ := h
  exact g8 n0 (0 : Int32) (0 : Int32) u1 _ _ _ h hP hD hS hl
set_option maxRecDepth 20000 in
theorem ggX7_reached_X7_counts : GoodIn wsX7_reached wsX7_counts := goodIn_r _ [6, 7, 8, 9, 5, 10, 1, 11, 12, 13, 14, 15, 16, 17, 18, 19, 20, 21, 22, 23, 24, 25, 26, 27, 28, 29, 30, 31, 32, 33, 34, 35, 36, 37, 38, 39, 40, 41, 42, 43, 44, 45, 46, 47, 48] (by decide +kernel) (by decide +kernel)
set_option maxRecDepth 20000 in
theorem gX7_reached_X7_counts : GoodIn wsX7_reached (wsV RX7 118 RX7 yX7_counts wsX7_counts) := goodIn_app (goodIn_of _ (by decide +kernel)) ggX7_reached_X7_counts
theorem dX7_reached_0 : decode cX7_reached 0 = .ok (.aload_n 0, 1) := by decide +kernel
theorem dX7_reached_1 : decode cX7_reached 1 = .ok (.invokevirtual 118, 3) := by decide +kernel
theorem dX7_reached_4 : decode cX7_reached 4 = .ok (.iconst 0, 1) := by decide +kernel
theorem dX7_reached_5 : decode cX7_reached 5 = .ok (.istore_n 1, 1) := by decide +kernel
theorem dX7_reached_6 : decode cX7_reached 6 = .ok (.iconst 0, 1) := by decide +kernel
theorem dX7_reached_7 : decode cX7_reached 7 = .ok (.istore_n 2, 1) := by decide +kernel
theorem dX7_reached_8 : decode cX7_reached 8 = .ok (.iload_n 2, 1) := by decide +kernel
theorem dX7_reached_9 : decode cX7_reached 9 = .ok (.bipush 64, 2) := by decide +kernel
theorem dX7_reached_11 : decode cX7_reached 11 = .ok (.if_icmp .ge 26, 3) := by decide +kernel
theorem dX7_reached_14 : decode cX7_reached 14 = .ok (.iload_n 1, 1) := by decide +kernel
theorem dX7_reached_15 : decode cX7_reached 15 = .ok (.aload_n 0, 1) := by decide +kernel
theorem dX7_reached_16 : decode cX7_reached 16 = .ok (.getfield 41, 3) := by decide +kernel
theorem dX7_reached_19 : decode cX7_reached 19 = .ok (.iload_n 2, 1) := by decide +kernel
theorem dX7_reached_20 : decode cX7_reached 20 = .ok (.iaload, 1) := by decide +kernel
theorem dX7_reached_21 : decode cX7_reached 21 = .ok (.ifCond .le 7, 3) := by decide +kernel
theorem dX7_reached_24 : decode cX7_reached 24 = .ok (.iload_n 2, 1) := by decide +kernel
theorem dX7_reached_25 : decode cX7_reached 25 = .ok (.goto 4, 3) := by decide +kernel
theorem dX7_reached_28 : decode cX7_reached 28 = .ok (.iconst 0, 1) := by decide +kernel
theorem dX7_reached_29 : decode cX7_reached 29 = .ok (.ior, 1) := by decide +kernel
theorem dX7_reached_30 : decode cX7_reached 30 = .ok (.istore_n 1, 1) := by decide +kernel
theorem dX7_reached_31 : decode cX7_reached 31 = .ok (.iinc 2 1, 3) := by decide +kernel
theorem dX7_reached_34 : decode cX7_reached 34 = .ok (.goto (-26), 3) := by decide +kernel
theorem dX7_reached_37 : decode cX7_reached 37 = .ok (.iload_n 1, 1) := by decide +kernel
theorem dX7_reached_38 : decode cX7_reached 38 = .ok (.ireturn, 1) := by decide +kernel
theorem jX7_reached_X7 : ∀ w ∈ wsX70, w ∈ wsX7_reached := by decide +kernel
abbrev w_X7_reached (cI cO : ClassId) (aN : Nat → Nat)  : ((CS)) → va_W := fun u => (wN cI aN u)
set_option maxRecDepth 100000 in
set_option maxHeartbeats 8000000 in
theorem mX7_reached (l : Launch) (D : va_G) (cI cO : ClassId) (tA tS : Nat) (aN : Nat → Nat) (zN : CS)  (sz : Nat) {post : Int32 → ((CS)) → Prop} (h : qX7_reached post zN) : Met l yX7_reached wsX7_reached ({ frames := 4, cells := 0, slots := 0, locals := 94 } : Room) (xPre D cI cO tA tS [.ref (aN 0)] (wN cI aN zN) sz) (va_Qi post (xB D cI cO (va_A (wN cI aN zN) sz) (w_X7_reached cI cO aN)) (va_A (wN cI aN zN) sz)) 0 0 (va_A (wN cI aN zN) sz) := by
  refine xMet D cI cO tA tS (fun A => va_Qi post (xB D cI cO A (w_X7_reached cI cO aN)) A) (cc := cX7_reached) (maxL := 3) (ret := (some .int)) (by decide) rfl (Nat.le_of_ble_eq_true rfl) ?_
  intro p e s m below meth c A ls hx hb hr hts hown hlocks hin hml hA hS hP hK hD hE hl
  have hown : s.vm.findClass RX7 = some m.cls := hown
  have hl : lv_has ls 3 [(0, .ref (aN 0))] := hl
  have g29 : ∀ (k8 : (Int32) → (Int32) → (CS) → Prop), (∀ (y1 : Int32) (y2 : Int32) (zN : CS) (H : Heap) (locs : List Loc) (ls : Array Slot), k8 y1 y2 zN → va_P D vwCl (wN cI aN zN) H → va_D A (wN cI aN zN) → va_S A s.heap H locs → lv_has ls 3 [(2, .int y2), (1, .int y1), (0, .ref (aN 0))] → W p l e ({ frames := 4, cells := 0, slots := 0, locals := 94 } : Room) s m ([.ref (aN 0)] : List Value).toArray below meth c H locs 0 0 (MQ below (va_Qi post (xB D cI cO A (w_X7_reached cI cO aN)) A) ([.ref (aN 0)] : List Value).toArray s 0 0 A) (F0 m 8 ls [])) → ∀ (y1 : Int32) (y2 : Int32) (w0 : Int32) (w1 : Int32) (zN : CS) (H : Heap) (locs : List Loc) (ls : Array Slot), qX7_reached_29 post k8 y1 y2 w0 w1 zN → va_P D vwCl (wN cI aN zN) H → va_D A (wN cI aN zN) → va_S A s.heap H locs → lv_has ls 3 [(2, .int y2), (1, .int y1), (0, .ref (aN 0))] → W p l e ({ frames := 4, cells := 0, slots := 0, locals := 94 } : Room) s m ([.ref (aN 0)] : List Value).toArray below meth c H locs 0 0 (MQ below (va_Qi post (xB D cI cO A (w_X7_reached cI cO aN)) A) ([.ref (aN 0)] : List Value).toArray s 0 0 A) (F0 m 29 ls [.int w1, .int w0]) := by
    intro k8 hk8 y1 y2 w0 w1 zN H locs ls h hP hD hS hl
    refine lv_ior hx hb dX7_reached_29 ?_
    refine lv_istore_n (lv' := [(1, .int (w0 ||| w1)), (2, .int y2), (0, .ref (aN 0))]) hx hb dX7_reached_30 rfl hl (by decide) rfl (fun ls hl => ?_)
    refine lv_iinc (v := (y2 + (1 : Int32))) (lv' := [(2, .int (y2 + (1 : Int32))), (1, .int (w0 ||| w1)), (0, .ref (aN 0))]) hx hb dX7_reached_31 hl (k := 1) rfl rfl (by decide) rfl (fun ls hl => ?_)
    refine lv_goto (tgt := 8) hx hb dX7_reached_34 (by decide) ?_
    exact hk8 (w0 ||| w1) (y2 + (1 : Int32)) zN _ _ _ h hP hD hS hl
  have g8 : ∀ (n : Nat) (y1 : Int32) (y2 : Int32) (zN : CS) (H : Heap) (locs : List Loc) (ls : Array Slot), qX7_reached_8 post n y1 y2 zN → va_P D vwCl (wN cI aN zN) H → va_D A (wN cI aN zN) → va_S A s.heap H locs → lv_has ls 3 [(2, .int y2), (1, .int y1), (0, .ref (aN 0))] → W p l e ({ frames := 4, cells := 0, slots := 0, locals := 94 } : Room) s m ([.ref (aN 0)] : List Value).toArray below meth c H locs 0 0 (MQ below (va_Qi post (xB D cI cO A (w_X7_reached cI cO aN)) A) ([.ref (aN 0)] : List Value).toArray s 0 0 A) (F0 m 8 ls []) := by
    intro n
    induction n with
    | zero => intro y1 y2 zN H locs ls h; exact False.elim h
    | succ n hk8 =>
      intro y1 y2 zN H locs ls h hP hD hS hl
      have h : qX7_reached_8b post (qX7_reached_8 post n) y1 y2 zN := h
      refine lv_iload_n hx hb dX7_reached_8 rfl (lv_at hl 0 rfl) ?_
      refine lv_bipush (v := 64) hx hb dX7_reached_9 (by decide) ?_
      obtain ⟨hh1, hh2⟩ := h
      refine lv_icmp_ge (tgt := 37) hx hb dX7_reached_11 (by decide) (fun hc => ?_) (fun hc => ?_)
      · have h := hh1 hc
        refine lv_iload_n hx hb dX7_reached_37 rfl (lv_at hl 1 rfl) ?_
        exact xiret (w := (w_X7_reached cI cO aN)) (zN) hx hb hr hlocks h hP hK hD hS dX7_reached_38
      · have h := hh2 hc
        refine lv_iload_n hx hb dX7_reached_14 rfl (lv_at hl 1 rfl) ?_
        refine lv_aload_n hx hb dX7_reached_15 rfl (lv_at hl 2 rfl) ?_
        refine va_get (D := D) (ci := 7) (v := .ref (aN 10)) (C := RX7) (T := TX7) (N := 14) hx hb hts jX7_reached_X7 hown hK hP 0 rfl rfl 12 (by decide) (hts (.fieldLink RX7 41 "BrotherAutomataModel" "many" "[I") (List.mem_of_getElem? (i := 1) rfl)) (fun _ h9 => h9) rfl dX7_reached_16 ?_
        refine lv_iload_n hx hb dX7_reached_19 rfl (lv_at hl 0 rfl) ?_
        obtain ⟨hi, h⟩ := h
        refine va_iald hx hb hK hP 10 0 rfl rfl hi dX7_reached_20 ?_
        obtain ⟨hh1, hh2⟩ := h
        refine lv_if_le (tgt := 28) hx hb dX7_reached_21 (by decide) (fun hc => ?_) (fun hc => ?_)
        · have h := hh1 hc
          refine lv_iconst (v := 0) hx hb dX7_reached_28 (by decide) ?_
          exact g29 (qX7_reached_8 post n) hk8 y1 y2 y1 (0 : Int32) zN _ _ _ h hP hD hS hl
        · have h := hh2 hc
          refine lv_iload_n hx hb dX7_reached_24 rfl (lv_at hl 0 rfl) ?_
          refine lv_goto (tgt := 29) hx hb dX7_reached_25 (by decide) ?_
          exact g29 (qX7_reached_8 post n) hk8 y1 y2 y1 y2 zN _ _ _ h hP hD hS hl
  refine lv_aload_n hx hb dX7_reached_0 rfl (lv_at hl 0 rfl) ?_
  refine xcallv (wr := ([] : va_W)) (w2 := fun (u1 : (CS)) => (wN cI aN u1)) (va_runV (As := []) (rest := []) ⟨hx, hb, hml, hown, hts⟩ (mX7_counts l D cI cO tA tS aN zN _ h) (cwV 0 hts gX7_reached_X7_counts rfl rfl rfl (by decide +kernel) ⟨Nat.le_of_ble_eq_true rfl, Nat.le_of_ble_eq_true rfl⟩) (xpreV hP hD hS hA hK hE [0, 1, 2, 3, 4, 5, 6, 7, 8, 9, 10, 11] rfl rfl 7 0 rfl rfl) rfl rfl hl.1 rfl (lv_room (Nat.le_of_ble_eq_true rfl)) dX7_reached_1 ⟨Nat.le_refl 0, Nat.le_refl 0⟩) hP hD hS hA [0, 1, 2, 3, 4, 5, 6, 7, 8, 9, 10, 11] [] [0, 1, 2, 3, 4, 5, 6, 7, 8, 9, 10, 11] rfl rfl rfl (by decide) rfl (fun _ => rfl) (fun u1 H locs h hP hD hS => ?_)
  refine lv_iconst (v := 0) hx hb dX7_reached_4 (by decide) ?_
  refine lv_istore_n (lv' := [(1, .int (0 : Int32)), (0, .ref (aN 0))]) hx hb dX7_reached_5 rfl hl (by decide) rfl (fun ls hl => ?_)
  refine lv_iconst (v := 0) hx hb dX7_reached_6 (by decide) ?_
  refine lv_istore_n (lv' := [(2, .int (0 : Int32)), (1, .int (0 : Int32)), (0, .ref (aN 0))]) hx hb dX7_reached_7 rfl hl (by decide) rfl (fun ls hl => ?_)
  obtain ⟨n0, h⟩ := h
  exact g8 n0 (0 : Int32) (0 : Int32) u1 _ _ _ h hP hD hS hl
set_option maxRecDepth 20000 in
theorem ggX7_isReachable_X7_isState : GoodIn wsX7_isReachable wsX7_isState := goodIn_r _ [5, 6, 7, 8, 4, 9, 46, 47, 48, 49, 50, 51, 52, 53, 54, 55, 56, 57, 58, 59] (by decide +kernel) (by decide +kernel)
set_option maxRecDepth 20000 in
theorem gX7_isReachable_X7_isState : GoodIn wsX7_isReachable (wsV RX7 65 RX7 yX7_isState wsX7_isState) := goodIn_app (goodIn_of _ (by decide +kernel)) ggX7_isReachable_X7_isState
set_option maxRecDepth 20000 in
theorem ggX7_isReachable_X7_reached : GoodIn wsX7_isReachable wsX7_reached := goodIn_r _ [13, 14, 15, 16, 17, 4, 18, 19, 20, 21, 22, 23, 24, 25, 26, 6, 27, 28, 29, 30, 31, 32, 33, 34, 35, 36, 37, 38, 39, 40, 41, 42, 43, 44, 45, 46, 47, 48, 49, 50, 51, 52, 53, 54, 55, 56, 57, 58, 59] (by decide +kernel) (by decide +kernel)
set_option maxRecDepth 20000 in
theorem gX7_isReachable_X7_reached : GoodIn wsX7_isReachable (wsV RX7 121 RX7 yX7_reached wsX7_reached) := goodIn_app (goodIn_of _ (by decide +kernel)) ggX7_isReachable_X7_reached
set_option maxRecDepth 20000 in
theorem ggX7_isReachable_X7_has : GoodIn wsX7_isReachable wsX7_has := goodIn_r _ [38] (by decide +kernel) (by decide +kernel)
set_option maxRecDepth 20000 in
theorem gX7_isReachable_X7_has : GoodIn wsX7_isReachable (va_wsS RX7 72 yX7_has wsX7_has) := goodIn_app (goodIn_of _ (by decide +kernel)) ggX7_isReachable_X7_has
theorem dX7_isReachable_0 : decode cX7_isReachable 0 = .ok (.aload_n 0, 1) := by decide +kernel
theorem dX7_isReachable_1 : decode cX7_isReachable 1 = .ok (.iload_n 1, 1) := by decide +kernel
theorem dX7_isReachable_2 : decode cX7_isReachable 2 = .ok (.invokevirtual 65, 3) := by decide +kernel
theorem dX7_isReachable_5 : decode cX7_isReachable 5 = .ok (.ifCond .eq 22, 3) := by decide +kernel
theorem dX7_isReachable_8 : decode cX7_isReachable 8 = .ok (.aload_n 0, 1) := by decide +kernel
theorem dX7_isReachable_9 : decode cX7_isReachable 9 = .ok (.invokevirtual 121, 3) := by decide +kernel
theorem dX7_isReachable_12 : decode cX7_isReachable 12 = .ok (.iload_n 1, 1) := by decide +kernel
theorem dX7_isReachable_13 : decode cX7_isReachable 13 = .ok (.invokestatic 72, 3) := by decide +kernel
theorem dX7_isReachable_16 : decode cX7_isReachable 16 = .ok (.ifCond .eq 7, 3) := by decide +kernel
theorem dX7_isReachable_19 : decode cX7_isReachable 19 = .ok (.iconst 1, 1) := by decide +kernel
theorem dX7_isReachable_20 : decode cX7_isReachable 20 = .ok (.goto 8, 3) := by decide +kernel
theorem dX7_isReachable_23 : decode cX7_isReachable 23 = .ok (.iconst 0, 1) := by decide +kernel
theorem dX7_isReachable_24 : decode cX7_isReachable 24 = .ok (.goto 4, 3) := by decide +kernel
theorem dX7_isReachable_27 : decode cX7_isReachable 27 = .ok (.iconst (-1), 1) := by decide +kernel
theorem dX7_isReachable_28 : decode cX7_isReachable 28 = .ok (.ireturn, 1) := by decide +kernel
abbrev w_X7_isReachable (cI cO : ClassId) (aN : Nat → Nat)  : ((CS)) → va_W := fun u => (wN cI aN u)
set_option maxRecDepth 100000 in
set_option maxHeartbeats 8000000 in
theorem mX7_isReachable (l : Launch) (D : va_G) (cI cO : ClassId) (tA tS : Nat) (aN : Nat → Nat) (zN : CS) (x1 : Int32) (sz : Nat) {post : Int32 → ((CS)) → Prop} (h : qX7_isReachable post x1 zN) : Met l yX7_isReachable wsX7_isReachable ({ frames := 5, cells := 0, slots := 0, locals := 116 } : Room) (xPre D cI cO tA tS [.ref (aN 0), .int x1] (wN cI aN zN) sz) (va_Qi post (xB D cI cO (va_A (wN cI aN zN) sz) (w_X7_isReachable cI cO aN)) (va_A (wN cI aN zN) sz)) 0 0 (va_A (wN cI aN zN) sz) := by
  refine xMet D cI cO tA tS (fun A => va_Qi post (xB D cI cO A (w_X7_isReachable cI cO aN)) A) (cc := cX7_isReachable) (maxL := 2) (ret := (some .int)) (by decide) rfl (Nat.le_of_ble_eq_true rfl) ?_
  intro p e s m below meth c A ls hx hb hr hts hown hlocks hin hml hA hS hP hK hD hE hl
  have hown : s.vm.findClass RX7 = some m.cls := hown
  have hl : lv_has ls 2 [(0, .ref (aN 0)), (1, .int x1)] := hl
  refine lv_aload_n hx hb dX7_isReachable_0 rfl (lv_at hl 0 rfl) ?_
  refine lv_iload_n hx hb dX7_isReachable_1 rfl (lv_at hl 1 rfl) ?_
  refine xcalli (wr := ([] : va_W)) (w2 := fun (u2 : Unit) => (wN cI aN zN)) (va_runV (As := [.int x1]) (rest := []) ⟨hx, hb, hml, hown, hts⟩ (mX7_isState l D cI cO tA tS aN zN x1 _ h) (cwV 1 hts gX7_isReachable_X7_isState rfl rfl rfl (by decide +kernel) ⟨Nat.le_of_ble_eq_true rfl, Nat.le_of_ble_eq_true rfl⟩) (xpreV hP hD hS hA hK hE [0, 1, 2, 3, 4, 5, 6, 7, 8, 9, 10, 11] rfl rfl 7 0 rfl rfl) rfl rfl hl.1 rfl (lv_room (Nat.le_of_ble_eq_true rfl)) dX7_isReachable_2 ⟨Nat.le_refl 0, Nat.le_refl 0⟩) hP hD hS hA [0, 1, 2, 3, 4, 5, 6, 7, 8, 9, 10, 11] [] [0, 1, 2, 3, 4, 5, 6, 7, 8, 9, 10, 11] rfl rfl rfl (by decide) rfl (fun _ => rfl) (fun r2 u2 H locs h hP hD hS => ?_)
  obtain ⟨hh1, hh2⟩ := h
  refine lv_if_eq (tgt := 27) hx hb dX7_isReachable_5 (by decide) (fun hc => ?_) (fun hc => ?_)
  · have h := hh1 hc
    refine lv_iconst (v := -1) hx hb dX7_isReachable_27 (by decide) ?_
    exact xiret (w := (w_X7_isReachable cI cO aN)) (zN) hx hb hr hlocks h hP hK hD hS dX7_isReachable_28
  · have h := hh2 hc
    refine lv_aload_n hx hb dX7_isReachable_8 rfl (lv_at hl 0 rfl) ?_
    refine xcalli (wr := ([] : va_W)) (w2 := fun (u9 : (CS)) => (wN cI aN u9)) (va_runV (As := []) (rest := []) ⟨hx, hb, hml, hown, hts⟩ (mX7_reached l D cI cO tA tS aN zN _ h) (cwV 0 hts gX7_isReachable_X7_reached rfl rfl rfl (by decide +kernel) ⟨Nat.le_of_ble_eq_true rfl, Nat.le_of_ble_eq_true rfl⟩) (xpreV hP hD hS hA hK hE [0, 1, 2, 3, 4, 5, 6, 7, 8, 9, 10, 11] rfl rfl 7 0 rfl rfl) rfl rfl hl.1 rfl (lv_room (Nat.le_of_ble_eq_true rfl)) dX7_isReachable_9 ⟨Nat.le_refl 0, Nat.le_refl 0⟩) hP hD hS hA [0, 1, 2, 3, 4, 5, 6, 7, 8, 9, 10, 11] [] [0, 1, 2, 3, 4, 5, 6, 7, 8, 9, 10, 11] rfl rfl rfl (by decide) rfl (fun _ => rfl) (fun r9 u9 H locs h hP hD hS => ?_)
    refine lv_iload_n hx hb dX7_isReachable_12 rfl (lv_at hl 1 rfl) ?_
    refine xcalli (wr := (wN cI aN u9)) (w2 := fun (u13 : Unit) => (wN cI aN u9)) (va_runS (As := [.int r9, .int x1]) (rest := []) ⟨hx, hb, hml, hown, hts⟩ (mX7_has l D cI cO tA tS r9 x1 _ h) (va_cwS 2 hts gX7_isReachable_X7_has rfl rfl rfl (by decide +kernel) ⟨Nat.le_of_ble_eq_true rfl, Nat.le_of_ble_eq_true rfl⟩) (xpreP hP hD hS hA hK hE [] rfl rfl) rfl rfl hl.1 rfl (lv_room (Nat.le_of_ble_eq_true rfl)) dX7_isReachable_13 ⟨Nat.le_refl 0, Nat.le_refl 0⟩) hP hD hS hA [] [0, 1, 2, 3, 4, 5, 6, 7, 8, 9, 10, 11] [0, 1, 2, 3, 4, 5, 6, 7, 8, 9, 10, 11] rfl rfl rfl (by decide) rfl (fun _ => rfl) (fun r13 u13 H locs h hP hD hS => ?_)
    obtain ⟨hh1, hh2⟩ := h
    refine lv_if_eq (tgt := 23) hx hb dX7_isReachable_16 (by decide) (fun hc => ?_) (fun hc => ?_)
    · have h := hh1 hc
      refine lv_iconst (v := 0) hx hb dX7_isReachable_23 (by decide) ?_
      refine lv_goto (tgt := 28) hx hb dX7_isReachable_24 (by decide) ?_
      exact xiret (w := (w_X7_isReachable cI cO aN)) (u9) hx hb hr hlocks h hP hK hD hS dX7_isReachable_28
    · have h := hh2 hc
      refine lv_iconst (v := 1) hx hb dX7_isReachable_19 (by decide) ?_
      refine lv_goto (tgt := 28) hx hb dX7_isReachable_20 (by decide) ?_
      exact xiret (w := (w_X7_isReachable cI cO aN)) (u9) hx hb hr hlocks h hP hK hD hS dX7_isReachable_28
