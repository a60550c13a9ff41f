theorem dX7_ruleCount_0 : decode cX7_ruleCount 0 = .ok (.aload_n 0, 1) := by decide +kernel
theorem dX7_ruleCount_1 : decode cX7_ruleCount 1 = .ok (.getfield 35, 3) := by decide +kernel
theorem dX7_ruleCount_4 : decode cX7_ruleCount 4 = .ok (.bipush 80, 2) := by decide +kernel
theorem dX7_ruleCount_6 : decode cX7_ruleCount 6 = .ok (.iaload, 1) := by decide +kernel
theorem dX7_ruleCount_7 : decode cX7_ruleCount 7 = .ok (.ireturn, 1) := by decide +kernel
theorem jX7_ruleCount_X7 : ∀ w ∈ wsX70, w ∈ wsX7_ruleCount := by decide +kernel
abbrev w_X7_ruleCount (cI cO : ClassId) (aN : Nat → Nat) (zN : CS) : (Unit) → va_W := fun u => (wN cI aN zN)
set_option maxRecDepth 100000 in
set_option maxHeartbeats 8000000 in
theorem mX7_ruleCount (l : Launch) (D : va_G) (cI cO : ClassId) (tA tS : Nat) (aN : Nat → Nat) (zN : CS)  (sz : Nat) {post : Int32 → (Unit) → Prop} (h : qX7_ruleCount post zN) : Met l yX7_ruleCount wsX7_ruleCount ({ frames := 0, cells := 0, slots := 0, locals := 0 } : Room) (xPre D cI cO tA tS [.ref (aN 0)] (wN cI aN zN) sz) (va_Qi post (xB D cI cO (va_A (wN cI aN zN) sz) (w_X7_ruleCount cI cO aN zN)) (va_A (wN cI aN zN) sz)) 0 0 (va_A (wN cI aN zN) sz) := by
  refine xMet D cI cO tA tS (fun A => va_Qi post (xB D cI cO A (w_X7_ruleCount cI cO aN zN)) A) (cc := cX7_ruleCount) (maxL := 1) (ret := (some .int)) (by decide) rfl (Nat.le_of_ble_eq_true rfl) ?_
  intro p e s m below meth c A ls hx hb hr hts hown hlocks hin hml hA hS hP hK hD hE hl
  have hown : s.vm.findClass RX7 = some m.cls := hown
  have hl : lv_has ls 1 [(0, .ref (aN 0))] := hl
  refine lv_aload_n hx hb dX7_ruleCount_0 rfl (lv_at hl 0 rfl) ?_
  refine va_get (D := D) (ci := 7) (v := .ref (aN 8)) (C := RX7) (T := TX7) (N := 14) hx hb hts jX7_ruleCount_X7 hown hK hP 0 rfl rfl 9 (by decide) (hts (.fieldLink RX7 35 "BrotherAutomataModel" "now" "[I") (List.mem_of_getElem? (i := 1) rfl)) (fun _ h9 => h9) rfl dX7_ruleCount_1 ?_
  refine lv_bipush (v := 80) hx hb dX7_ruleCount_4 (by decide) ?_
  obtain ⟨hi, h⟩ := h
  refine va_iald hx hb hK hP 8 0 rfl rfl hi dX7_ruleCount_6 ?_
  exact xiret (w := (w_X7_ruleCount cI cO aN zN)) () hx hb hr hlocks h hP hK hD hS dX7_ruleCount_7
theorem dX7_finalStates_0 : decode cX7_finalStates 0 = .ok (.aload_n 0, 1) := by decide +kernel
theorem dX7_finalStates_1 : decode cX7_finalStates 1 = .ok (.getfield 35, 3) := by decide +kernel
theorem dX7_finalStates_4 : decode cX7_finalStates 4 = .ok (.bipush 81, 2) := by decide +kernel
theorem dX7_finalStates_6 : decode cX7_finalStates 6 = .ok (.iaload, 1) := by decide +kernel
theorem dX7_finalStates_7 : decode cX7_finalStates 7 = .ok (.ireturn, 1) := by decide +kernel
theorem jX7_finalStates_X7 : ∀ w ∈ wsX70, w ∈ wsX7_finalStates := by decide +kernel
abbrev w_X7_finalStates (cI cO : ClassId) (aN : Nat → Nat) (zN : CS) : (Unit) → va_W := fun u => (wN cI aN zN)
set_option maxRecDepth 100000 in
set_option maxHeartbeats 8000000 in
theorem mX7_finalStates (l : Launch) (D : va_G) (cI cO : ClassId) (tA tS : Nat) (aN : Nat → Nat) (zN : CS)  (sz : Nat) {post : Int32 → (Unit) → Prop} (h : qX7_finalStates post zN) : Met l yX7_finalStates wsX7_finalStates ({ frames := 0, cells := 0, slots := 0, locals := 0 } : Room) (xPre D cI cO tA tS [.ref (aN 0)] (wN cI aN zN) sz) (va_Qi post (xB D cI cO (va_A (wN cI aN zN) sz) (w_X7_finalStates cI cO aN zN)) (va_A (wN cI aN zN) sz)) 0 0 (va_A (wN cI aN zN) sz) := by
  refine xMet D cI cO tA tS (fun A => va_Qi post (xB D cI cO A (w_X7_finalStates cI cO aN zN)) A) (cc := cX7_finalStates) (maxL := 1) (ret := (some .int)) (by decide) rfl (Nat.le_of_ble_eq_true rfl) ?_
  intro p e s m below meth c A ls hx hb hr hts hown hlocks hin hml hA hS hP hK hD hE hl
  have hown : s.vm.findClass RX7 = some m.cls := hown
  have hl : lv_has ls 1 [(0, .ref (aN 0))] := hl
  refine lv_aload_n hx hb dX7_finalStates_0 rfl (lv_at hl 0 rfl) ?_
  refine va_get (D := D) (ci := 7) (v := .ref (aN 8)) (C := RX7) (T := TX7) (N := 14) hx hb hts jX7_finalStates_X7 hown hK hP 0 rfl rfl 9 (by decide) (hts (.fieldLink RX7 35 "BrotherAutomataModel" "now" "[I") (List.mem_of_getElem? (i := 1) rfl)) (fun _ h9 => h9) rfl dX7_finalStates_1 ?_
  refine lv_bipush (v := 81) hx hb dX7_finalStates_4 (by decide) ?_
  obtain ⟨hi, h⟩ := h
  refine va_iald hx hb hK hP 8 0 rfl rfl hi dX7_finalStates_6 ?_
  exact xiret (w := (w_X7_finalStates cI cO aN zN)) () hx hb hr hlocks h hP hK hD hS dX7_finalStates_7
set_option maxRecDepth 20000 in
theorem ggX7_isSize_X7_in : GoodIn wsX7_isSize wsX7_in := goodIn_r _ [4] (by decide +kernel) (by decide +kernel)
set_option maxRecDepth 20000 in
theorem gX7_isSize_X7_in : GoodIn wsX7_isSize (va_wsS RX7 58 yX7_in wsX7_in) := goodIn_app (goodIn_of _ (by decide +kernel)) ggX7_isSize_X7_in
theorem dX7_isSize_0 : decode cX7_isSize 0 = .ok (.iload_n 0, 1) := by decide +kernel
theorem dX7_isSize_1 : decode cX7_isSize 1 = .ok (.iconst 1, 1) := by decide +kernel
theorem dX7_isSize_2 : decode cX7_isSize 2 = .ok (.bipush 7, 2) := by decide +kernel
theorem dX7_isSize_4 : decode cX7_isSize 4 = .ok (.invokestatic 58, 3) := by decide +kernel
theorem dX7_isSize_7 : decode cX7_isSize 7 = .ok (.ireturn, 1) := by decide +kernel
abbrev w_X7_isSize (cI cO : ClassId)   : (Unit) → va_W := fun u => ([] : va_W)
set_option maxRecDepth 100000 in
set_option maxHeartbeats 8000000 in
theorem mX7_isSize (l : Launch) (D : va_G) (cI cO : ClassId) (tA tS : Nat)   (x0 : Int32) (sz : Nat) {post : Int32 → (Unit) → Prop} (h : qX7_isSize post x0) : Met l yX7_isSize wsX7_isSize ({ frames := 1, cells := 0, slots := 0, locals := 22 } : Room) (xPre D cI cO tA tS [.int x0] ([] : va_W) sz) (va_Qi post (xB D cI cO (va_A ([] : va_W) sz) (w_X7_isSize cI cO)) (va_A ([] : va_W) sz)) 0 0 (va_A ([] : va_W) sz) := by
  refine xMet D cI cO tA tS (fun A => va_Qi post (xB D cI cO A (w_X7_isSize cI cO)) A) (cc := cX7_isSize) (maxL := 1) (ret := (some .boolean)) (by decide) rfl (Nat.le_of_ble_eq_true rfl) ?_
  intro p e s m below meth c A ls hx hb hr hts hown hlocks hin hml hA hS hP hK hD hE hl
  have hown : s.vm.findClass RX7 = some m.cls := hown
  have hl : lv_has ls 1 [(0, .int x0)] := hl
  refine lv_iload_n hx hb dX7_isSize_0 rfl (lv_at hl 0 rfl) ?_
  refine lv_iconst (v := 1) hx hb dX7_isSize_1 (by decide) ?_
  refine lv_bipush (v := 7) hx hb dX7_isSize_2 (by decide) ?_
  refine xcalli (wr := ([] : va_W)) (w2 := fun (u4 : Unit) => ([] : va_W)) (va_runS (As := [.int x0, .int (1 : Int32), .int (7 : Int32)]) (rest := []) ⟨hx, hb, hml, hown, hts⟩ (mX7_in l D cI cO tA tS x0 (1 : Int32) (7 : Int32) _ h) (va_cwS 3 hts gX7_isSize_X7_in rfl rfl rfl (by decide +kernel) ⟨Nat.le_of_ble_eq_true rfl, Nat.le_of_ble_eq_true rfl⟩) (xpreP hP hD hS hA hK hE [] rfl rfl) rfl rfl hl.1 rfl (lv_room (Nat.le_of_ble_eq_true rfl)) dX7_isSize_4 ⟨Nat.le_refl 0, Nat.le_refl 0⟩) hP hD hS hA [] [] [] rfl rfl rfl (by decide) rfl (fun _ => rfl) (fun r4 u4 H locs h hP hD hS => ?_)
  obtain ⟨hn, h⟩ := h
  exact xzret (w := (w_X7_isSize cI cO)) () hx hb hr hlocks hn h hP hK hD hS dX7_isSize_7
set_option maxRecDepth 20000 in
theorem ggX7_isTree_X7_in : GoodIn wsX7_isTree wsX7_in := goodIn_r _ [4] (by decide +kernel) (by decide +kernel)
set_option maxRecDepth 20000 in
theorem gX7_isTree_X7_in : GoodIn wsX7_isTree (va_wsS RX7 58 yX7_in wsX7_in) := goodIn_app (goodIn_of _ (by decide +kernel)) ggX7_isTree_X7_in
theorem dX7_isTree_0 : decode cX7_isTree 0 = .ok (.iload_n 0, 1) := by decide +kernel
theorem dX7_isTree_1 : decode cX7_isTree 1 = .ok (.iconst 0, 1) := by decide +kernel
theorem dX7_isTree_2 : decode cX7_isTree 2 = .ok (.sipush 2277, 3) := by decide +kernel
theorem dX7_isTree_5 : decode cX7_isTree 5 = .ok (.invokestatic 58, 3) := by decide +kernel
theorem dX7_isTree_8 : decode cX7_isTree 8 = .ok (.ireturn, 1) := by decide +kernel
abbrev w_X7_isTree (cI cO : ClassId)   : (Unit) → va_W := fun u => ([] : va_W)
set_option maxRecDepth 100000 in
set_option maxHeartbeats 8000000 in
theorem mX7_isTree (l : Launch) (D : va_G) (cI cO : ClassId) (tA tS : Nat)   (x0 : Int32) (sz : Nat) {post : Int32 → (Unit) → Prop} (h : qX7_isTree post x0) : Met l yX7_isTree wsX7_isTree ({ frames := 1, cells := 0, slots := 0, locals := 22 } : Room) (xPre D cI cO tA tS [.int x0] ([] : va_W) sz) (va_Qi post (xB D cI cO (va_A ([] : va_W) sz) (w_X7_isTree cI cO)) (va_A ([] : va_W) sz)) 0 0 (va_A ([] : va_W) sz) := by
  refine xMet D cI cO tA tS (fun A => va_Qi post (xB D cI cO A (w_X7_isTree cI cO)) A) (cc := cX7_isTree) (maxL := 1) (ret := (some .boolean)) (by decide) rfl (Nat.le_of_ble_eq_true rfl) ?_
  intro p e s m below meth c A ls hx hb hr hts hown hlocks hin hml hA hS hP hK hD hE hl
  have hown : s.vm.findClass RX7 = some m.cls := hown
  have hl : lv_has ls 1 [(0, .int x0)] := hl
  refine lv_iload_n hx hb dX7_isTree_0 rfl (lv_at hl 0 rfl) ?_
  refine lv_iconst (v := 0) hx hb dX7_isTree_1 (by decide) ?_
  refine lv_sipush (v := 2277) hx hb dX7_isTree_2 (by decide) ?_
  refine xcalli (wr := ([] : va_W)) (w2 := fun (u5 : Unit) => ([] : va_W)) (va_runS (As := [.int x0, .int (0 : Int32), .int (2277 : Int32)]) (rest := []) ⟨hx, hb, hml, hown, hts⟩ (mX7_in l D cI cO tA tS x0 (0 : Int32) (2277 : Int32) _ h) (va_cwS 3 hts gX7_isTree_X7_in rfl rfl rfl (by decide +kernel) ⟨Nat.le_of_ble_eq_true rfl, Nat.le_of_ble_eq_true rfl⟩) (xpreP hP hD hS hA hK hE [] rfl rfl) rfl rfl hl.1 rfl (lv_room (Nat.le_of_ble_eq_true rfl)) dX7_isTree_5 ⟨Nat.le_refl 0, Nat.le_refl 0⟩) hP hD hS hA [] [] [] rfl rfl rfl (by decide) rfl (fun _ => rfl) (fun r5 u5 H locs h hP hD hS => ?_)
  obtain ⟨hn, h⟩ := h
  exact xzret (w := (w_X7_isTree cI cO)) () hx hb hr hlocks hn h hP hK hD hS dX7_isTree_8
set_option maxRecDepth 20000 in
theorem ggX7_treeCount_X7_isSize : GoodIn wsX7_treeCount wsX7_isSize := goodIn_r _ [5, 6, 7, 4, 8] (by decide +kernel) (by decide +kernel)
set_option maxRecDepth 20000 in
theorem gX7_treeCount_X7_isSize : GoodIn wsX7_treeCount (va_wsS RX7 84 yX7_isSize wsX7_isSize) := goodIn_app (goodIn_of _ (by decide +kernel)) ggX7_treeCount_X7_isSize
theorem dX7_treeCount_0 : decode cX7_treeCount 0 = .ok (.iload_n 1, 1) := by decide +kernel
theorem dX7_treeCount_1 : decode cX7_treeCount 1 = .ok (.invokestatic 84, 3) := by decide +kernel
theorem dX7_treeCount_4 : decode cX7_treeCount 4 = .ok (.ifCond .eq 21, 3) := by decide +kernel
theorem dX7_treeCount_7 : decode cX7_treeCount 7 = .ok (.aload_n 0, 1) := by decide +kernel
theorem dX7_treeCount_8 : decode cX7_treeCount 8 = .ok (.getfield 25, 3) := by decide +kernel
theorem dX7_treeCount_11 : decode cX7_treeCount 11 = .ok (.iload_n 1, 1) := by decide +kernel
theorem dX7_treeCount_12 : decode cX7_treeCount 12 = .ok (.iconst 1, 1) := by decide +kernel
theorem dX7_treeCount_13 : decode cX7_treeCount 13 = .ok (.iadd, 1) := by decide +kernel
theorem dX7_treeCount_14 : decode cX7_treeCount 14 = .ok (.iaload, 1) := by decide +kernel
theorem dX7_treeCount_15 : decode cX7_treeCount 15 = .ok (.aload_n 0, 1) := by decide +kernel
theorem dX7_treeCount_16 : decode cX7_treeCount 16 = .ok (.getfield 25, 3) := by decide +kernel
theorem dX7_treeCount_19 : decode cX7_treeCount 19 = .ok (.iload_n 1, 1) := by decide +kernel
theorem dX7_treeCount_20 : decode cX7_treeCount 20 = .ok (.iaload, 1) := by decide +kernel
theorem dX7_treeCount_21 : decode cX7_treeCount 21 = .ok (.isub, 1) := by decide +kernel
theorem dX7_treeCount_22 : decode cX7_treeCount 22 = .ok (.goto 4, 3) := by decide +kernel
theorem dX7_treeCount_25 : decode cX7_treeCount 25 = .ok (.iconst (-1), 1) := by decide +kernel
theorem dX7_treeCount_26 : decode cX7_treeCount 26 = .ok (.ireturn, 1) := by decide +kernel
theorem jX7_treeCount_X7 : ∀ w ∈ wsX70, w ∈ wsX7_treeCount := by decide +kernel
abbrev w_X7_treeCount (cI cO : ClassId) (aN : Nat → Nat) (zN : CS) : (Unit) → va_W := fun u => (wN cI aN zN)
set_option maxRecDepth 100000 in
set_option maxHeartbeats 8000000 in
theorem mX7_treeCount (l : Launch) (D : va_G) (cI cO : ClassId) (tA tS : Nat) (aN : Nat → Nat) (zN : CS) (x1 : Int32) (sz : Nat) {post : Int32 → (Unit) → Prop} (h : qX7_treeCount post x1 zN) : Met l yX7_treeCount wsX7_treeCount ({ frames := 2, cells := 0, slots := 0, locals := 42 } : Room) (xPre D cI cO tA tS [.ref (aN 0), .int x1] (wN cI aN zN) sz) (va_Qi post (xB D cI cO (va_A (wN cI aN zN) sz) (w_X7_treeCount cI cO aN zN)) (va_A (wN cI aN zN) sz)) 0 0 (va_A (wN cI aN zN) sz) := by
  refine xMet D cI cO tA tS (fun A => va_Qi post (xB D cI cO A (w_X7_treeCount cI cO aN zN)) A) (cc := cX7_treeCount) (maxL := 2) (ret := (some .int)) (by decide) rfl (Nat.le_of_ble_eq_true rfl) ?_
  intro p e s m below meth c A ls hx hb hr hts hown hlocks hin hml hA hS hP hK hD hE hl
  have hown : s.vm.findClass RX7 = some m.cls := hown
  have hl : lv_has ls 2 [(0, .ref (aN 0)), (1, .int x1)] := hl
  refine lv_iload_n hx hb dX7_treeCount_0 rfl (lv_at hl 1 rfl) ?_
  refine xcalli (wr := (wN cI aN zN)) (w2 := fun (u1 : Unit) => (wN cI aN zN)) (va_runS (As := [.int x1]) (rest := []) ⟨hx, hb, hml, hown, hts⟩ (mX7_isSize l D cI cO tA tS x1 _ h) (va_cwS 1 hts gX7_treeCount_X7_isSize rfl rfl rfl (by decide +kernel) ⟨Nat.le_of_ble_eq_true rfl, Nat.le_of_ble_eq_true rfl⟩) (xpreP hP hD hS hA hK hE [] rfl rfl) rfl rfl hl.1 rfl (lv_room (Nat.le_of_ble_eq_true rfl)) dX7_treeCount_1 ⟨Nat.le_refl 0, Nat.le_refl 0⟩) hP hD hS hA [] [0, 1, 2, 3, 4, 5, 6, 7, 8, 9, 10, 11] [0, 1, 2, 3, 4, 5, 6, 7, 8, 9, 10, 11] rfl rfl rfl (by decide) rfl (fun _ => rfl) (fun r1 u1 H locs h hP hD hS => ?_)
  obtain ⟨hh1, hh2⟩ := h
  refine lv_if_eq (tgt := 25) hx hb dX7_treeCount_4 (by decide) (fun hc => ?_) (fun hc => ?_)
  · have h := hh1 hc
    refine lv_iconst (v := -1) hx hb dX7_treeCount_25 (by decide) ?_
    exact xiret (w := (w_X7_treeCount cI cO aN zN)) () hx hb hr hlocks h hP hK hD hS dX7_treeCount_26
  · have h := hh2 hc
    refine lv_aload_n hx hb dX7_treeCount_7 rfl (lv_at hl 0 rfl) ?_
    refine va_get (D := D) (ci := 7) (v := .ref (aN 6)) (C := RX7) (T := TX7) (N := 14) hx hb hts jX7_treeCount_X7 hown hK hP 0 rfl rfl 6 (by decide) (hts (.fieldLink RX7 25 "BrotherAutomataModel" "begin" "[I") (List.mem_of_getElem? (i := 1) rfl)) (fun _ h9 => h9) rfl dX7_treeCount_8 ?_
    refine lv_iload_n hx hb dX7_treeCount_11 rfl (lv_at hl 1 rfl) ?_
    refine lv_iconst (v := 1) hx hb dX7_treeCount_12 (by decide) ?_
    refine lv_iadd hx hb dX7_treeCount_13 ?_
    obtain ⟨hi, h⟩ := h
    refine va_iald hx hb hK hP 6 0 rfl rfl hi dX7_treeCount_14 ?_
    refine lv_aload_n hx hb dX7_treeCount_15 rfl (lv_at hl 0 rfl) ?_
    refine va_get (D := D) (ci := 7) (v := .ref (aN 6)) (C := RX7) (T := TX7) (N := 14) hx hb hts jX7_treeCount_X7 hown hK hP 0 rfl rfl 6 (by decide) (hts (.fieldLink RX7 25 "BrotherAutomataModel" "begin" "[I") (List.mem_of_getElem? (i := 1) rfl)) (fun _ h9 => h9) rfl dX7_treeCount_16 ?_
    refine lv_iload_n hx hb dX7_treeCount_19 rfl (lv_at hl 1 rfl) ?_
    obtain ⟨hi, h⟩ := h
    refine va_iald hx hb hK hP 6 0 rfl rfl hi dX7_treeCount_20 ?_
    refine lv_isub hx hb dX7_treeCount_21 ?_
    refine lv_goto (tgt := 26) hx hb dX7_treeCount_22 (by decide) ?_
    exact xiret (w := (w_X7_treeCount cI cO aN zN)) () hx hb hr hlocks h hP hK hD hS dX7_treeCount_26
set_option maxRecDepth 20000 in
theorem ggX7_treeOf_X7_in : GoodIn wsX7_treeOf wsX7_in := goodIn_r _ [9] (by decide +kernel) (by decide +kernel)
set_option maxRecDepth 20000 in
theorem gX7_treeOf_X7_in : GoodIn wsX7_treeOf (va_wsS RX7 58 yX7_in wsX7_in) := goodIn_app (goodIn_of _ (by decide +kernel)) ggX7_treeOf_X7_in
set_option maxRecDepth 20000 in
theorem ggX7_treeOf_X7_arity : GoodIn wsX7_treeOf wsX7_arity := goodIn_r _ [12] (by decide +kernel) (by decide +kernel)
set_option maxRecDepth 20000 in
theorem gX7_treeOf_X7_arity : GoodIn wsX7_treeOf (va_wsS RX7 76 yX7_arity wsX7_arity) := goodIn_app (goodIn_of _ (by decide +kernel)) ggX7_treeOf_X7_arity
set_option maxRecDepth 20000 in
theorem ggX7_treeOf_X7_isTree : GoodIn wsX7_treeOf wsX7_isTree := goodIn_r _ [15, 6, 7, 8, 9] (by decide +kernel) (by decide +kernel)
set_option maxRecDepth 20000 in
theorem gX7_treeOf_X7_isTree : GoodIn wsX7_treeOf (va_wsS RX7 87 yX7_isTree wsX7_isTree) := goodIn_app (goodIn_of _ (by decide +kernel)) ggX7_treeOf_X7_isTree
theorem dX7_treeOf_0 : decode cX7_treeOf 0 = .ok (.iload_n 1, 1) := by decide +kernel
theorem dX7_treeOf_1 : decode cX7_treeOf 1 = .ok (.iconst 0, 1) := by decide +kernel
theorem dX7_treeOf_2 : decode cX7_treeOf 2 = .ok (.iconst 4, 1) := by decide +kernel
theorem dX7_treeOf_3 : decode cX7_treeOf 3 = .ok (.invokestatic 58, 3) := by decide +kernel
theorem dX7_treeOf_6 : decode cX7_treeOf 6 = .ok (.ifCond .eq 50, 3) := by decide +kernel
theorem dX7_treeOf_9 : decode cX7_treeOf 9 = .ok (.iload_n 1, 1) := by decide +kernel
theorem dX7_treeOf_10 : decode cX7_treeOf 10 = .ok (.invokestatic 76, 3) := by decide +kernel
theorem dX7_treeOf_13 : decode cX7_treeOf 13 = .ok (.ifCond .le 13, 3) := by decide +kernel
theorem dX7_treeOf_16 : decode cX7_treeOf 16 = .ok (.iload_n 2, 1) := by decide +kernel
theorem dX7_treeOf_17 : decode cX7_treeOf 17 = .ok (.invokestatic 87, 3) := by decide +kernel
theorem dX7_treeOf_20 : decode cX7_treeOf 20 = .ok (.ifCond .eq 36, 3) := by decide +kernel
theorem dX7_treeOf_23 : decode cX7_treeOf 23 = .ok (.goto 7, 3) := by decide +kernel
theorem dX7_treeOf_26 : decode cX7_treeOf 26 = .ok (.iload_n 2, 1) := by decide +kernel
theorem dX7_treeOf_27 : decode cX7_treeOf 27 = .ok (.ifCond .ne 29, 3) := by decide +kernel
theorem dX7_treeOf_30 : decode cX7_treeOf 30 = .ok (.iload_n 1, 1) := by decide +kernel
theorem dX7_treeOf_31 : decode cX7_treeOf 31 = .ok (.invokestatic 76, 3) := by decide +kernel
theorem dX7_treeOf_34 : decode cX7_treeOf 34 = .ok (.iconst 1, 1) := by decide +kernel
theorem dX7_treeOf_35 : decode cX7_treeOf 35 = .ok (.if_icmp .le 13, 3) := by decide +kernel
theorem dX7_treeOf_38 : decode cX7_treeOf 38 = .ok (.iload_n 3, 1) := by decide +kernel
theorem dX7_treeOf_39 : decode cX7_treeOf 39 = .ok (.invokestatic 87, 3) := by decide +kernel
theorem dX7_treeOf_42 : decode cX7_treeOf 42 = .ok (.ifCond .eq 14, 3) := by decide +kernel
theorem dX7_treeOf_45 : decode cX7_treeOf 45 = .ok (.goto 7, 3) := by decide +kernel
theorem dX7_treeOf_48 : decode cX7_treeOf 48 = .ok (.iload_n 3, 1) := by decide +kernel
theorem dX7_treeOf_49 : decode cX7_treeOf 49 = .ok (.ifCond .ne 7, 3) := by decide +kernel
theorem dX7_treeOf_52 : decode cX7_treeOf 52 = .ok (.iconst 1, 1) := by decide +kernel
theorem dX7_treeOf_53 : decode cX7_treeOf 53 = .ok (.goto 4, 3) := by decide +kernel
theorem dX7_treeOf_56 : decode cX7_treeOf 56 = .ok (.iconst 0, 1) := by decide +kernel
theorem dX7_treeOf_57 : decode cX7_treeOf 57 = .ok (.istore 4, 2) := by decide +kernel
theorem dX7_treeOf_59 : decode cX7_treeOf 59 = .ok (.iload 4, 2) := by decide +kernel
theorem dX7_treeOf_61 : decode cX7_treeOf 61 = .ok (.ifCond .ne 5, 3) := by decide +kernel
theorem dX7_treeOf_64 : decode cX7_treeOf 64 = .ok (.iconst (-1), 1) := by decide +kernel
theorem dX7_treeOf_65 : decode cX7_treeOf 65 = .ok (.ireturn, 1) := by decide +kernel
theorem dX7_treeOf_66 : decode cX7_treeOf 66 = .ok (.iconst 1, 1) := by decide +kernel
theorem dX7_treeOf_67 : decode cX7_treeOf 67 = .ok (.iload_n 1, 1) := by decide +kernel
theorem dX7_treeOf_68 : decode cX7_treeOf 68 = .ok (.invokestatic 76, 3) := by decide +kernel
theorem dX7_treeOf_71 : decode cX7_treeOf 71 = .ok (.ifCond .le 12, 3) := by decide +kernel
theorem dX7_treeOf_74 : decode cX7_treeOf 74 = .ok (.aload_n 0, 1) := by decide +kernel
theorem dX7_treeOf_75 : decode cX7_treeOf 75 = .ok (.getfield 19, 3) := by decide +kernel
theorem dX7_treeOf_78 : decode cX7_treeOf 78 = .ok (.iload_n 2, 1) := by decide +kernel
theorem dX7_treeOf_79 : decode cX7_treeOf 79 = .ok (.iaload, 1) := by decide +kernel
theorem dX7_treeOf_80 : decode cX7_treeOf 80 = .ok (.goto 4, 3) := by decide +kernel
theorem dX7_treeOf_83 : decode cX7_treeOf 83 = .ok (.iconst 0, 1) := by decide +kernel
theorem dX7_treeOf_84 : decode cX7_treeOf 84 = .ok (.iadd, 1) := by decide +kernel
theorem dX7_treeOf_85 : decode cX7_treeOf 85 = .ok (.iload_n 1, 1) := by decide +kernel
theorem dX7_treeOf_86 : decode cX7_treeOf 86 = .ok (.invokestatic 76, 3) := by decide +kernel
theorem dX7_treeOf_89 : decode cX7_treeOf 89 = .ok (.iconst 1, 1) := by decide +kernel
theorem dX7_treeOf_90 : decode cX7_treeOf 90 = .ok (.if_icmp .le 12, 3) := by decide +kernel
theorem dX7_treeOf_93 : decode cX7_treeOf 93 = .ok (.aload_n 0, 1) := by decide +kernel
theorem dX7_treeOf_94 : decode cX7_treeOf 94 = .ok (.getfield 19, 3) := by decide +kernel
theorem dX7_treeOf_97 : decode cX7_treeOf 97 = .ok (.iload_n 3, 1) := by decide +kernel
theorem dX7_treeOf_98 : decode cX7_treeOf 98 = .ok (.iaload, 1) := by decide +kernel
theorem dX7_treeOf_99 : decode cX7_treeOf 99 = .ok (.goto 4, 3) := by decide +kernel
theorem dX7_treeOf_102 : decode cX7_treeOf 102 = .ok (.iconst 0, 1) := by decide +kernel
theorem dX7_treeOf_103 : decode cX7_treeOf 103 = .ok (.iadd, 1) := by decide +kernel
theorem dX7_treeOf_104 : decode cX7_treeOf 104 = .ok (.istore 5, 2) := by decide +kernel
theorem dX7_treeOf_106 : decode cX7_treeOf 106 = .ok (.iload 5, 2) := by decide +kernel
theorem dX7_treeOf_108 : decode cX7_treeOf 108 = .ok (.bipush 7, 2) := by decide +kernel
theorem dX7_treeOf_110 : decode cX7_treeOf 110 = .ok (.if_icmp .le 6, 3) := by decide +kernel
theorem dX7_treeOf_113 : decode cX7_treeOf 113 = .ok (.bipush (-2), 2) := by decide +kernel
theorem dX7_treeOf_115 : decode cX7_treeOf 115 = .ok (.ireturn, 1) := by decide +kernel
theorem dX7_treeOf_116 : decode cX7_treeOf 116 = .ok (.aload_n 0, 1) := by decide +kernel
theorem dX7_treeOf_117 : decode cX7_treeOf 117 = .ok (.getfield 25, 3) := by decide +kernel
theorem dX7_treeOf_120 : decode cX7_treeOf 120 = .ok (.iload 5, 2) := by decide +kernel
theorem dX7_treeOf_122 : decode cX7_treeOf 122 = .ok (.iaload, 1) := by decide +kernel
theorem dX7_treeOf_123 : decode cX7_treeOf 123 = .ok (.istore 6, 2) := by decide +kernel
theorem dX7_treeOf_125 : decode cX7_treeOf 125 = .ok (.aload_n 0, 1) := by decide +kernel
theorem dX7_treeOf_126 : decode cX7_treeOf 126 = .ok (.getfield 7, 3) := by decide +kernel
theorem dX7_treeOf_129 : decode cX7_treeOf 129 = .ok (.iload 6, 2) := by decide +kernel
theorem dX7_treeOf_131 : decode cX7_treeOf 131 = .ok (.iaload, 1) := by decide +kernel
theorem dX7_treeOf_132 : decode cX7_treeOf 132 = .ok (.iload_n 1, 1) := by decide +kernel
theorem dX7_treeOf_133 : decode cX7_treeOf 133 = .ok (.if_icmp .ne 25, 3) := by decide +kernel
theorem dX7_treeOf_136 : decode cX7_treeOf 136 = .ok (.aload_n 0, 1) := by decide +kernel
theorem dX7_treeOf_137 : decode cX7_treeOf 137 = .ok (.getfield 13, 3) := by decide +kernel
theorem dX7_treeOf_140 : decode cX7_treeOf 140 = .ok (.iload 6, 2) := by decide +kernel
theorem dX7_treeOf_142 : decode cX7_treeOf 142 = .ok (.iaload, 1) := by decide +kernel
theorem dX7_treeOf_143 : decode cX7_treeOf 143 = .ok (.iload_n 2, 1) := by decide +kernel
theorem dX7_treeOf_144 : decode cX7_treeOf 144 = .ok (.if_icmp .ne 14, 3) := by decide +kernel
theorem dX7_treeOf_147 : decode cX7_treeOf 147 = .ok (.aload_n 0, 1) := by decide +kernel
theorem dX7_treeOf_148 : decode cX7_treeOf 148 = .ok (.getfield 16, 3) := by decide +kernel
theorem dX7_treeOf_151 : decode cX7_treeOf 151 = .ok (.iload 6, 2) := by decide +kernel
theorem dX7_treeOf_153 : decode cX7_treeOf 153 = .ok (.iaload, 1) := by decide +kernel
theorem dX7_treeOf_154 : decode cX7_treeOf 154 = .ok (.iload_n 3, 1) := by decide +kernel
theorem dX7_treeOf_155 : decode cX7_treeOf 155 = .ok (.if_icmp .eq 9, 3) := by decide +kernel
theorem dX7_treeOf_158 : decode cX7_treeOf 158 = .ok (.iinc 6 1, 3) := by decide +kernel
theorem dX7_treeOf_161 : decode cX7_treeOf 161 = .ok (.goto (-36), 3) := by decide +kernel
theorem dX7_treeOf_164 : decode cX7_treeOf 164 = .ok (.iload 6, 2) := by decide +kernel
theorem dX7_treeOf_166 : decode cX7_treeOf 166 = .ok (.ireturn, 1) := by decide +kernel
theorem jX7_treeOf_X7 : ∀ w ∈ wsX70, w ∈ wsX7_treeOf := by decide +kernel
abbrev w_X7_treeOf (cI cO : ClassId) (aN : Nat → Nat) (zN : CS) : (Unit) → va_W := fun u => (wN cI aN zN)
set_option maxRecDepth 100000 in
set_option maxHeartbeats 8000000 in
theorem mX7_treeOf (l : Launch) (D : va_G) (cI cO : ClassId) (tA tS : Nat) (aN : Nat → Nat) (zN : CS) (x1 : Int32) (x2 : Int32) (x3 : Int32) (sz : Nat) {post : Int32 → (Unit) → Prop} (h : qX7_treeOf post x1 x2 x3 zN) : Met l yX7_treeOf wsX7_treeOf ({ frames := 2, cells := 0, slots := 0, locals := 42 } : Room) (xPre D cI cO tA tS [.ref (aN 0), .int x1, .int x2, .int x3] (wN cI aN zN) sz) (va_Qi post (xB D cI cO (va_A (wN cI aN zN) sz) (w_X7_treeOf cI cO aN zN)) (va_A (wN cI aN zN) sz)) 0 0 (va_A (wN cI aN zN) sz) := by
  refine xMet D cI cO tA tS (fun A => va_Qi post (xB D cI cO A (w_X7_treeOf cI cO aN zN)) A) (cc := cX7_treeOf) (maxL := 7) (ret := (some .int)) (by decide) rfl (Nat.le_of_ble_eq_true rfl) ?_
  intro p e s m below meth c A ls hx hb hr hts hown hlocks hin hml hA hS hP hK hD hE hl
  have hown : s.vm.findClass RX7 = some m.cls := hown
  have hl : lv_has ls 7 [(0, .ref (aN 0)), (1, .int x1), (2, .int x2), (3, .int x3)] := hl
  have g158 : ∀ (k125 : (Int32) → (Int32) → (Int32) → Prop), (∀ (y4 : Int32) (y5 : Int32) (y6 : Int32) (H : Heap) (locs : List Loc) (ls : Array Slot), k125 y4 y5 y6 → va_P D vwCl (wN cI aN zN) H → va_D A (wN cI aN zN) → va_S A s.heap H locs → lv_has ls 7 [(6, .int y6), (5, .int y5), (4, .int y4), (0, .ref (aN 0)), (1, .int x1), (2, .int x2), (3, .int x3)] → W p l e ({ frames := 2, cells := 0, slots := 0, locals := 42 } : Room) s m ([.ref (aN 0), .int x1, .int x2, .int x3] : List Value).toArray below meth c H locs 0 0 (MQ below (va_Qi post (xB D cI cO A (w_X7_treeOf cI cO aN zN)) A) ([.ref (aN 0), .int x1, .int x2, .int x3] : List Value).toArray s 0 0 A) (F0 m 125 ls [])) → ∀ (y4 : Int32) (y5 : Int32) (y6 : Int32) (H : Heap) (locs : List Loc) (ls : Array Slot), qX7_treeOf_158 post x1 x2 x3 zN k125 y4 y5 y6 → va_P D vwCl (wN cI aN zN) H → va_D A (wN cI aN zN) → va_S A s.heap H locs → lv_has ls 7 [(6, .int y6), (5, .int y5), (4, .int y4), (0, .ref (aN 0)), (1, .int x1), (2, .int x2), (3, .int x3)] → W p l e ({ frames := 2, cells := 0, slots := 0, locals := 42 } : Room) s m ([.ref (aN 0), .int x1, .int x2, .int x3] : List Value).toArray below meth c H locs 0 0 (MQ below (va_Qi post (xB D cI cO A (w_X7_treeOf cI cO aN zN)) A) ([.ref (aN 0), .int x1, .int x2, .int x3] : List Value).toArray s 0 0 A) (F0 m 158 ls []) := by
    intro k125 hk125 y4 y5 y6 H locs ls h hP hD hS hl
    refine lv_iinc (v := (y6 + (1 : Int32))) (lv' := [(6, .int (y6 + (1 : Int32))), (5, .int y5), (4, .int y4), (0, .ref (aN 0)), (1, .int x1), (2, .int x2), (3, .int x3)]) hx hb dX7_treeOf_158 hl (k := 0) rfl rfl (by decide) rfl (fun ls hl => ?_)
    refine lv_goto (tgt := 125) hx hb dX7_treeOf_161 (by decide) ?_
    exact hk125 y4 y5 (y6 + (1 : Int32)) _ _ _ h hP hD hS hl
  have g125 : ∀ (n : Nat) (y4 : Int32) (y5 : Int32) (y6 : Int32) (H : Heap) (locs : List Loc) (ls : Array Slot), qX7_treeOf_125 post x1 x2 x3 zN n y4 y5 y6 → va_P D vwCl (wN cI aN zN) H → va_D A (wN cI aN zN) → va_S A s.heap H locs → lv_has ls 7 [(6, .int y6), (5, .int y5), (4, .int y4), (0, .ref (aN 0)), (1, .int x1), (2, .int x2), (3, .int x3)] → W p l e ({ frames := 2, cells := 0, slots := 0, locals := 42 } : Room) s m ([.ref (aN 0), .int x1, .int x2, .int x3] : List Value).toArray below meth c H locs 0 0 (MQ below (va_Qi post (xB D cI cO A (w_X7_treeOf cI cO aN zN)) A) ([.ref (aN 0), .int x1, .int x2, .int x3] : List Value).toArray s 0 0 A) (F0 m 125 ls []) := by
    intro n
    induction n with
    | zero => intro y4 y5 y6 H locs ls h; exact False.elim h
    | succ n hk125 =>
      intro y4 y5 y6 H locs ls h hP hD hS hl
      have h : qX7_treeOf_125b post x1 x2 x3 zN (qX7_treeOf_125 post x1 x2 x3 zN n) y4 y5 y6 := h
      refine lv_aload_n hx hb dX7_treeOf_125 rfl (lv_at hl 3 rfl) ?_
      refine va_get (D := D) (ci := 7) (v := .ref (aN 1)) (C := RX7) (T := TX7) (N := 14) hx hb hts jX7_treeOf_X7 hown hK hP 0 rfl rfl 1 (by decide) (hts (.fieldLink RX7 7 "BrotherAutomataModel" "symbol" "[I") (List.mem_of_getElem? (i := 3) rfl)) (fun _ h9 => h9) rfl dX7_treeOf_126 ?_
      refine lv_iload hx hb dX7_treeOf_129 (lv_at hl 0 rfl) ?_
      obtain ⟨hi, h⟩ := h
      refine va_iald hx hb hK hP 1 0 rfl rfl hi dX7_treeOf_131 ?_
      refine lv_iload_n hx hb dX7_treeOf_132 rfl (lv_at hl 4 rfl) ?_
      obtain ⟨hh1, hh2⟩ := h
      refine lv_icmp_ne (tgt := 158) hx hb dX7_treeOf_133 (by decide) (fun hc => ?_) (fun hc => ?_)
      · have h := hh2 hc
        exact g158 (qX7_treeOf_125 post x1 x2 x3 zN n) hk125 y4 y5 y6 _ _ _ h hP hD hS hl
      · have h := hh1 hc
        refine lv_aload_n hx hb dX7_treeOf_136 rfl (lv_at hl 3 rfl) ?_
        refine va_get (D := D) (ci := 7) (v := .ref (aN 2)) (C := RX7) (T := TX7) (N := 14) hx hb hts jX7_treeOf_X7 hown hK hP 0 rfl rfl 2 (by decide) (hts (.fieldLink RX7 13 "BrotherAutomataModel" "first" "[I") (List.mem_of_getElem? (i := 4) rfl)) (fun _ h9 => h9) rfl dX7_treeOf_137 ?_
        refine lv_iload hx hb dX7_treeOf_140 (lv_at hl 0 rfl) ?_
        obtain ⟨hi, h⟩ := h
        refine va_iald hx hb hK hP 2 0 rfl rfl hi dX7_treeOf_142 ?_
        refine lv_iload_n hx hb dX7_treeOf_143 rfl (lv_at hl 5 rfl) ?_
        obtain ⟨hh1, hh2⟩ := h
        refine lv_icmp_ne (tgt := 158) hx hb dX7_treeOf_144 (by decide) (fun hc => ?_) (fun hc => ?_)
        · have h := hh2 hc
          exact g158 (qX7_treeOf_125 post x1 x2 x3 zN n) hk125 y4 y5 y6 _ _ _ h hP hD hS hl
        · have h := hh1 hc
          refine lv_aload_n hx hb dX7_treeOf_147 rfl (lv_at hl 3 rfl) ?_
          refine va_get (D := D) (ci := 7) (v := .ref (aN 3)) (C := RX7) (T := TX7) (N := 14) hx hb hts jX7_treeOf_X7 hown hK hP 0 rfl rfl 3 (by decide) (hts (.fieldLink RX7 16 "BrotherAutomataModel" "second" "[I") (List.mem_of_getElem? (i := 5) rfl)) (fun _ h9 => h9) rfl dX7_treeOf_148 ?_
          refine lv_iload hx hb dX7_treeOf_151 (lv_at hl 0 rfl) ?_
          obtain ⟨hi, h⟩ := h
          refine va_iald hx hb hK hP 3 0 rfl rfl hi dX7_treeOf_153 ?_
          refine lv_iload_n hx hb dX7_treeOf_154 rfl (lv_at hl 6 rfl) ?_
          obtain ⟨hh1, hh2⟩ := h
          refine lv_icmp_eq (tgt := 164) hx hb dX7_treeOf_155 (by decide) (fun hc => ?_) (fun hc => ?_)
          · have h := hh1 hc
            refine lv_iload hx hb dX7_treeOf_164 (lv_at hl 0 rfl) ?_
            exact xiret (w := (w_X7_treeOf cI cO aN zN)) () hx hb hr hlocks h hP hK hD hS dX7_treeOf_166
          · have h := hh2 hc
            exact g158 (qX7_treeOf_125 post x1 x2 x3 zN n) hk125 y4 y5 y6 _ _ _ h hP hD hS hl
  have g103 : ∀ (y4 : Int32) (w0 : Int32) (w1 : Int32) (H : Heap) (locs : List Loc) (ls : Array Slot), qX7_treeOf_103 post x1 x2 x3 zN y4 w0 w1 → va_P D vwCl (wN cI aN zN) H → va_D A (wN cI aN zN) → va_S A s.heap H locs → lv_has ls 7 [(4, .int y4), (0, .ref (aN 0)), (1, .int x1), (2, .int x2), (3, .int x3)] → W p l e ({ frames := 2, cells := 0, slots := 0, locals := 42 } : Room) s m ([.ref (aN 0), .int x1, .int x2, .int x3] : List Value).toArray below meth c H locs 0 0 (MQ below (va_Qi post (xB D cI cO A (w_X7_treeOf cI cO aN zN)) A) ([.ref (aN 0), .int x1, .int x2, .int x3] : List Value).toArray s 0 0 A) (F0 m 103 ls [.int w1, .int w0]) := by
    intro y4 w0 w1 H locs ls h hP hD hS hl
    refine lv_iadd hx hb dX7_treeOf_103 ?_
    refine lv_istore (lv' := [(5, .int (w0 + w1)), (4, .int y4), (0, .ref (aN 0)), (1, .int x1), (2, .int x2), (3, .int x3)]) hx hb dX7_treeOf_104 hl (by decide) rfl (fun ls hl => ?_)
    refine lv_iload hx hb dX7_treeOf_106 (lv_at hl 0 rfl) ?_
    refine lv_bipush (v := 7) hx hb dX7_treeOf_108 (by decide) ?_
    obtain ⟨hh1, hh2⟩ := h
    refine lv_icmp_le (tgt := 116) hx hb dX7_treeOf_110 (by decide) (fun hc => ?_) (fun hc => ?_)
    · have h := hh1 hc
      refine lv_aload_n hx hb dX7_treeOf_116 rfl (lv_at hl 2 rfl) ?_
      refine va_get (D := D) (ci := 7) (v := .ref (aN 6)) (C := RX7) (T := TX7) (N := 14) hx hb hts jX7_treeOf_X7 hown hK hP 0 rfl rfl 6 (by decide) (hts (.fieldLink RX7 25 "BrotherAutomataModel" "begin" "[I") (List.mem_of_getElem? (i := 2) rfl)) (fun _ h9 => h9) rfl dX7_treeOf_117 ?_
      refine lv_iload hx hb dX7_treeOf_120 (lv_at hl 0 rfl) ?_
      obtain ⟨hi, h⟩ := h
      refine va_iald hx hb hK hP 6 0 rfl rfl hi dX7_treeOf_122 ?_
      refine lv_istore (lv' := [(6, .int ((zN 5) (w0 + w1).toNatClampNeg)), (5, .int (w0 + w1)), (4, .int y4), (0, .ref (aN 0)), (1, .int x1), (2, .int x2), (3, .int x3)]) hx hb dX7_treeOf_123 hl (by decide) rfl (fun ls hl => ?_)
      obtain ⟨n0, h⟩ := h
      exact g125 n0 y4 (w0 + w1) ((zN 5) (w0 + w1).toNatClampNeg) _ _ _ h hP hD hS hl
    · have h := hh2 hc
      refine lv_bipush (v := -2) hx hb dX7_treeOf_113 (by decide) ?_
      exact xiret (w := (w_X7_treeOf cI cO aN zN)) () hx hb hr hlocks h hP hK hD hS dX7_treeOf_115
  have g84 : ∀ (y4 : Int32) (w0 : Int32) (w1 : Int32) (H : Heap) (locs : List Loc) (ls : Array Slot), qX7_treeOf_84 post x1 x2 x3 zN y4 w0 w1 → va_P D vwCl (wN cI aN zN) H → va_D A (wN cI aN zN) → va_S A s.heap H locs → lv_has ls 7 [(4, .int y4), (0, .ref (aN 0)), (1, .int x1), (2, .int x2), (3, .int x3)] → W p l e ({ frames := 2, cells := 0, slots := 0, locals := 42 } : Room) s m ([.ref (aN 0), .int x1, .int x2, .int x3] : List Value).toArray below meth c H locs 0 0 (MQ below (va_Qi post (xB D cI cO A (w_X7_treeOf cI cO aN zN)) A) ([.ref (aN 0), .int x1, .int x2, .int x3] : List Value).toArray s 0 0 A) (F0 m 84 ls [.int w1, .int w0]) := by
    intro y4 w0 w1 H locs ls h hP hD hS hl
    refine lv_iadd hx hb dX7_treeOf_84 ?_
    refine lv_iload_n hx hb dX7_treeOf_85 rfl (lv_at hl 2 rfl) ?_
    refine xcalli (wr := (wN cI aN zN)) (w2 := fun (u86 : Unit) => (wN cI aN zN)) (va_runS (As := [.int x1]) (rest := [.int (w0 + w1)]) ⟨hx, hb, hml, hown, hts⟩ (mX7_arity l D cI cO tA tS x1 _ h) (va_cwS 1 hts gX7_treeOf_X7_arity rfl rfl rfl (by decide +kernel) ⟨Nat.le_of_ble_eq_true rfl, Nat.le_of_ble_eq_true rfl⟩) (xpreP hP hD hS hA hK hE [] rfl rfl) rfl rfl hl.1 rfl (lv_room (Nat.le_of_ble_eq_true rfl)) dX7_treeOf_86 ⟨Nat.le_refl 0, Nat.le_refl 0⟩) hP hD hS hA [] [0, 1, 2, 3, 4, 5, 6, 7, 8, 9, 10, 11] [0, 1, 2, 3, 4, 5, 6, 7, 8, 9, 10, 11] rfl rfl rfl (by decide) rfl (fun _ => rfl) (fun r86 u86 H locs h hP hD hS => ?_)
    refine lv_iconst (v := 1) hx hb dX7_treeOf_89 (by decide) ?_
    obtain ⟨hh1, hh2⟩ := h
    refine lv_icmp_le (tgt := 102) hx hb dX7_treeOf_90 (by decide) (fun hc => ?_) (fun hc => ?_)
    · have h := hh1 hc
      refine lv_iconst (v := 0) hx hb dX7_treeOf_102 (by decide) ?_
      exact g103 y4 (w0 + w1) (0 : Int32) _ _ _ h hP hD hS hl
    · have h := hh2 hc
      refine lv_aload_n hx hb dX7_treeOf_93 rfl (lv_at hl 1 rfl) ?_
      refine va_get (D := D) (ci := 7) (v := .ref (aN 4)) (C := RX7) (T := TX7) (N := 14) hx hb hts jX7_treeOf_X7 hown hK hP 0 rfl rfl 4 (by decide) (hts (.fieldLink RX7 19 "BrotherAutomataModel" "size" "[I") (List.mem_of_getElem? (i := 1) rfl)) (fun _ h9 => h9) rfl dX7_treeOf_94 ?_
      refine lv_iload_n hx hb dX7_treeOf_97 rfl (lv_at hl 4 rfl) ?_
      obtain ⟨hi, h⟩ := h
      refine va_iald hx hb hK hP 4 0 rfl rfl hi dX7_treeOf_98 ?_
      refine lv_goto (tgt := 103) hx hb dX7_treeOf_99 (by decide) ?_
      exact g103 y4 (w0 + w1) ((zN 3) x3.toNatClampNeg) _ _ _ h hP hD hS hl
  have g57 : ∀ (w0 : Int32) (H : Heap) (locs : List Loc) (ls : Array Slot), qX7_treeOf_57 post x1 x2 x3 zN w0 → va_P D vwCl (wN cI aN zN) H → va_D A (wN cI aN zN) → va_S A s.heap H locs → lv_has ls 7 [(0, .ref (aN 0)), (1, .int x1), (2, .int x2), (3, .int x3)] → W p l e ({ frames := 2, cells := 0, slots := 0, locals := 42 } : Room) s m ([.ref (aN 0), .int x1, .int x2, .int x3] : List Value).toArray below meth c H locs 0 0 (MQ below (va_Qi post (xB D cI cO A (w_X7_treeOf cI cO aN zN)) A) ([.ref (aN 0), .int x1, .int x2, .int x3] : List Value).toArray s 0 0 A) (F0 m 57 ls [.int w0]) := by
    intro w0 H locs ls h hP hD hS hl
    refine lv_istore (lv' := [(4, .int w0), (0, .ref (aN 0)), (1, .int x1), (2, .int x2), (3, .int x3)]) hx hb dX7_treeOf_57 hl (by decide) rfl (fun ls hl => ?_)
    refine lv_iload hx hb dX7_treeOf_59 (lv_at hl 0 rfl) ?_
    obtain ⟨hh1, hh2⟩ := h
    refine lv_if_ne (tgt := 66) hx hb dX7_treeOf_61 (by decide) (fun hc => ?_) (fun hc => ?_)
    · have h := hh2 hc
      refine lv_iconst (v := 1) hx hb dX7_treeOf_66 (by decide) ?_
      refine lv_iload_n hx hb dX7_treeOf_67 rfl (lv_at hl 2 rfl) ?_
      refine xcalli (wr := (wN cI aN zN)) (w2 := fun (u68 : Unit) => (wN cI aN zN)) (va_runS (As := [.int x1]) (rest := [.int (1 : Int32)]) ⟨hx, hb, hml, hown, hts⟩ (mX7_arity l D cI cO tA tS x1 _ h) (va_cwS 1 hts gX7_treeOf_X7_arity rfl rfl rfl (by decide +kernel) ⟨Nat.le_of_ble_eq_true rfl, Nat.le_of_ble_eq_true rfl⟩) (xpreP hP hD hS hA hK hE [] rfl rfl) rfl rfl hl.1 rfl (lv_room (Nat.le_of_ble_eq_true rfl)) dX7_treeOf_68 ⟨Nat.le_refl 0, Nat.le_refl 0⟩) hP hD hS hA [] [0, 1, 2, 3, 4, 5, 6, 7, 8, 9, 10, 11] [0, 1, 2, 3, 4, 5, 6, 7, 8, 9, 10, 11] rfl rfl rfl (by decide) rfl (fun _ => rfl) (fun r68 u68 H locs h hP hD hS => ?_)
      obtain ⟨hh1, hh2⟩ := h
      refine lv_if_le (tgt := 83) hx hb dX7_treeOf_71 (by decide) (fun hc => ?_) (fun hc => ?_)
      · have h := hh1 hc
        refine lv_iconst (v := 0) hx hb dX7_treeOf_83 (by decide) ?_
        exact g84 w0 (1 : Int32) (0 : Int32) _ _ _ h hP hD hS hl
      · have h := hh2 hc
        refine lv_aload_n hx hb dX7_treeOf_74 rfl (lv_at hl 1 rfl) ?_
        refine va_get (D := D) (ci := 7) (v := .ref (aN 4)) (C := RX7) (T := TX7) (N := 14) hx hb hts jX7_treeOf_X7 hown hK hP 0 rfl rfl 4 (by decide) (hts (.fieldLink RX7 19 "BrotherAutomataModel" "size" "[I") (List.mem_of_getElem? (i := 1) rfl)) (fun _ h9 => h9) rfl dX7_treeOf_75 ?_
        refine lv_iload_n hx hb dX7_treeOf_78 rfl (lv_at hl 3 rfl) ?_
        obtain ⟨hi, h⟩ := h
        refine va_iald hx hb hK hP 4 0 rfl rfl hi dX7_treeOf_79 ?_
        refine lv_goto (tgt := 84) hx hb dX7_treeOf_80 (by decide) ?_
        exact g84 w0 (1 : Int32) ((zN 3) x2.toNatClampNeg) _ _ _ h hP hD hS hl
    · have h := hh1 hc
      refine lv_iconst (v := -1) hx hb dX7_treeOf_64 (by decide) ?_
      exact xiret (w := (w_X7_treeOf cI cO aN zN)) () hx hb hr hlocks h hP hK hD hS dX7_treeOf_65
  have g56 : ∀  (H : Heap) (locs : List Loc) (ls : Array Slot), qX7_treeOf_56 post x1 x2 x3 zN  → va_P D vwCl (wN cI aN zN) H → va_D A (wN cI aN zN) → va_S A s.heap H locs → lv_has ls 7 [(0, .ref (aN 0)), (1, .int x1), (2, .int x2), (3, .int x3)] → W p l e ({ frames := 2, cells := 0, slots := 0, locals := 42 } : Room) s m ([.ref (aN 0), .int x1, .int x2, .int x3] : List Value).toArray below meth c H locs 0 0 (MQ below (va_Qi post (xB D cI cO A (w_X7_treeOf cI cO aN zN)) A) ([.ref (aN 0), .int x1, .int x2, .int x3] : List Value).toArray s 0 0 A) (F0 m 56 ls []) := by
    intro  H locs ls h hP hD hS hl
    refine lv_iconst (v := 0) hx hb dX7_treeOf_56 (by decide) ?_
    exact g57 (0 : Int32) _ _ _ h hP hD hS hl
  have g52 : ∀  (H : Heap) (locs : List Loc) (ls : Array Slot), qX7_treeOf_52 post x1 x2 x3 zN  → va_P D vwCl (wN cI aN zN) H → va_D A (wN cI aN zN) → va_S A s.heap H locs → lv_has ls 7 [(0, .ref (aN 0)), (1, .int x1), (2, .int x2), (3, .int x3)] → W p l e ({ frames := 2, cells := 0, slots := 0, locals := 42 } : Room) s m ([.ref (aN 0), .int x1, .int x2, .int x3] : List Value).toArray below meth c H locs 0 0 (MQ below (va_Qi post (xB D cI cO A (w_X7_treeOf cI cO aN zN)) A) ([.ref (aN 0), .int x1, .int x2, .int x3] : List Value).toArray s 0 0 A) (F0 m 52 ls []) := by
    intro  H locs ls h hP hD hS hl
    refine lv_iconst (v := 1) hx hb dX7_treeOf_52 (by decide) ?_
    refine lv_goto (tgt := 57) hx hb dX7_treeOf_53 (by decide) ?_
    exact g57 (1 : Int32) _ _ _ h hP hD hS hl
  have g30 : ∀  (H : Heap) (locs : List Loc) (ls : Array Slot), qX7_treeOf_30 post x1 x2 x3 zN  → va_P D vwCl (wN cI aN zN) H → va_D A (wN cI aN zN) → va_S A s.heap H locs → lv_has ls 7 [(0, .ref (aN 0)), (1, .int x1), (2, .int x2), (3, .int x3)] → W p l e ({ frames := 2, cells := 0, slots := 0, locals := 42 } : Room) s m ([.ref (aN 0), .int x1, .int x2, .int x3] : List Value).toArray below meth c H locs 0 0 (MQ below (va_Qi post (xB D cI cO A (w_X7_treeOf cI cO aN zN)) A) ([.ref (aN 0), .int x1, .int x2, .int x3] : List Value).toArray s 0 0 A) (F0 m 30 ls []) := by
    intro  H locs ls h hP hD hS hl
    refine lv_iload_n hx hb dX7_treeOf_30 rfl (lv_at hl 1 rfl) ?_
    refine xcalli (wr := (wN cI aN zN)) (w2 := fun (u31 : Unit) => (wN cI aN zN)) (va_runS (As := [.int x1]) (rest := []) ⟨hx, hb, hml, hown, hts⟩ (mX7_arity l D cI cO tA tS x1 _ h) (va_cwS 1 hts gX7_treeOf_X7_arity rfl rfl rfl (by decide +kernel) ⟨Nat.le_of_ble_eq_true rfl, Nat.le_of_ble_eq_true rfl⟩) (xpreP hP hD hS hA hK hE [] rfl rfl) rfl rfl hl.1 rfl (lv_room (Nat.le_of_ble_eq_true rfl)) dX7_treeOf_31 ⟨Nat.le_refl 0, Nat.le_refl 0⟩) hP hD hS hA [] [0, 1, 2, 3, 4, 5, 6, 7, 8, 9, 10, 11] [0, 1, 2, 3, 4, 5, 6, 7, 8, 9, 10, 11] rfl rfl rfl (by decide) rfl (fun _ => rfl) (fun r31 u31 H locs h hP hD hS => ?_)
    refine lv_iconst (v := 1) hx hb dX7_treeOf_34 (by decide) ?_
    obtain ⟨hh1, hh2⟩ := h
    refine lv_icmp_le (tgt := 48) hx hb dX7_treeOf_35 (by decide) (fun hc => ?_) (fun hc => ?_)
    · have h := hh1 hc
      refine lv_iload_n hx hb dX7_treeOf_48 rfl (lv_at hl 3 rfl) ?_
      obtain ⟨hh1, hh2⟩ := h
      refine lv_if_ne (tgt := 56) hx hb dX7_treeOf_49 (by decide) (fun hc => ?_) (fun hc => ?_)
      · have h := hh2 hc
        exact g56  _ _ _ h hP hD hS hl
      · have h := hh1 hc
        exact g52  _ _ _ h hP hD hS hl
    · have h := hh2 hc
      refine lv_iload_n hx hb dX7_treeOf_38 rfl (lv_at hl 3 rfl) ?_
      refine xcalli (wr := (wN cI aN zN)) (w2 := fun (u39 : Unit) => (wN cI aN zN)) (va_runS (As := [.int x3]) (rest := []) ⟨hx, hb, hml, hown, hts⟩ (mX7_isTree l D cI cO tA tS x3 _ h) (va_cwS 1 hts gX7_treeOf_X7_isTree rfl rfl rfl (by decide +kernel) ⟨Nat.le_of_ble_eq_true rfl, Nat.le_of_ble_eq_true rfl⟩) (xpreP hP hD hS hA hK hE [] rfl rfl) rfl rfl hl.1 rfl (lv_room (Nat.le_of_ble_eq_true rfl)) dX7_treeOf_39 ⟨Nat.le_refl 0, Nat.le_refl 0⟩) hP hD hS hA [] [0, 1, 2, 3, 4, 5, 6, 7, 8, 9, 10, 11] [0, 1, 2, 3, 4, 5, 6, 7, 8, 9, 10, 11] rfl rfl rfl (by decide) rfl (fun _ => rfl) (fun r39 u39 H locs h hP hD hS => ?_)
      obtain ⟨hh1, hh2⟩ := h
      refine lv_if_eq (tgt := 56) hx hb dX7_treeOf_42 (by decide) (fun hc => ?_) (fun hc => ?_)
      · have h := hh1 hc
        exact g56  _ _ _ h hP hD hS hl
      · have h := hh2 hc
        refine lv_goto (tgt := 52) hx hb dX7_treeOf_45 (by decide) ?_
        exact g52  _ _ _ h hP hD hS hl
  refine lv_iload_n hx hb dX7_treeOf_0 rfl (lv_at hl 1 rfl) ?_
  refine lv_iconst (v := 0) hx hb dX7_treeOf_1 (by decide) ?_
  refine lv_iconst (v := 4) hx hb dX7_treeOf_2 (by decide) ?_
  refine xcalli (wr := (wN cI aN zN)) (w2 := fun (u3 : Unit) => (wN cI aN zN)) (va_runS (As := [.int x1, .int (0 : Int32), .int (4 : Int32)]) (rest := []) ⟨hx, hb, hml, hown, hts⟩ (mX7_in l D cI cO tA tS x1 (0 : Int32) (4 : Int32) _ h) (va_cwS 3 hts gX7_treeOf_X7_in rfl rfl rfl (by decide +kernel) ⟨Nat.le_of_ble_eq_true rfl, Nat.le_of_ble_eq_true rfl⟩) (xpreP hP hD hS hA hK hE [] rfl rfl) rfl rfl hl.1 rfl (lv_room (Nat.le_of_ble_eq_true rfl)) dX7_treeOf_3 ⟨Nat.le_refl 0, Nat.le_refl 0⟩) hP hD hS hA [] [0, 1, 2, 3, 4, 5, 6, 7, 8, 9, 10, 11] [0, 1, 2, 3, 4, 5, 6, 7, 8, 9, 10, 11] rfl rfl rfl (by decide) rfl (fun _ => rfl) (fun r3 u3 H locs h hP hD hS => ?_)
  obtain ⟨hh1, hh2⟩ := h
  refine lv_if_eq (tgt := 56) hx hb dX7_treeOf_6 (by decide) (fun hc => ?_) (fun hc => ?_)
  · have h := hh1 hc
    exact g56  _ _ _ h hP hD hS hl
  · have h := hh2 hc
    refine lv_iload_n hx hb dX7_treeOf_9 rfl (lv_at hl 1 rfl) ?_
    refine xcalli (wr := (wN cI aN zN)) (w2 := fun (u10 : Unit) => (wN cI aN zN)) (va_runS (As := [.int x1]) (rest := []) ⟨hx, hb, hml, hown, hts⟩ (mX7_arity l D cI cO tA tS x1 _ h) (va_cwS 1 hts gX7_treeOf_X7_arity rfl rfl rfl (by decide +kernel) ⟨Nat.le_of_ble_eq_true rfl, Nat.le_of_ble_eq_true rfl⟩) (xpreP hP hD hS hA hK hE [] rfl rfl) rfl rfl hl.1 rfl (lv_room (Nat.le_of_ble_eq_true rfl)) dX7_treeOf_10 ⟨Nat.le_refl 0, Nat.le_refl 0⟩) hP hD hS hA [] [0, 1, 2, 3, 4, 5, 6, 7, 8, 9, 10, 11] [0, 1, 2, 3, 4, 5, 6, 7, 8, 9, 10, 11] rfl rfl rfl (by decide) rfl (fun _ => rfl) (fun r10 u10 H locs h hP hD hS => ?_)
    obtain ⟨hh1, hh2⟩ := h
    refine lv_if_le (tgt := 26) hx hb dX7_treeOf_13 (by decide) (fun hc => ?_) (fun hc => ?_)
    · have h := hh1 hc
      refine lv_iload_n hx hb dX7_treeOf_26 rfl (lv_at hl 2 rfl) ?_
      obtain ⟨hh1, hh2⟩ := h
      refine lv_if_ne (tgt := 56) hx hb dX7_treeOf_27 (by decide) (fun hc => ?_) (fun hc => ?_)
      · have h := hh2 hc
        exact g56  _ _ _ h hP hD hS hl
      · have h := hh1 hc
        exact g30  _ _ _ h hP hD hS hl
    · have h := hh2 hc
      refine lv_iload_n hx hb dX7_treeOf_16 rfl (lv_at hl 2 rfl) ?_
      refine xcalli (wr := (wN cI aN zN)) (w2 := fun (u17 : Unit) => (wN cI aN zN)) (va_runS (As := [.int x2]) (rest := []) ⟨hx, hb, hml, hown, hts⟩ (mX7_isTree l D cI cO tA tS x2 _ h) (va_cwS 1 hts gX7_treeOf_X7_isTree rfl rfl rfl (by decide +kernel) ⟨Nat.le_of_ble_eq_true rfl, Nat.le_of_ble_eq_true rfl⟩) (xpreP hP hD hS hA hK hE [] rfl rfl) rfl rfl hl.1 rfl (lv_room (Nat.le_of_ble_eq_true rfl)) dX7_treeOf_17 ⟨Nat.le_refl 0, Nat.le_refl 0⟩) hP hD hS hA [] [0, 1, 2, 3, 4, 5, 6, 7, 8, 9, 10, 11] [0, 1, 2, 3, 4, 5, 6, 7, 8, 9, 10, 11] rfl rfl rfl (by decide) rfl (fun _ => rfl) (fun r17 u17 H locs h hP hD hS => ?_)
      obtain ⟨hh1, hh2⟩ := h
      refine lv_if_eq (tgt := 56) hx hb dX7_treeOf_20 (by decide) (fun hc => ?_) (fun hc => ?_)
      · have h := hh1 hc
        exact g56  _ _ _ h hP hD hS hl
      · have h := hh2 hc
        refine lv_goto (tgt := 30) hx hb dX7_treeOf_23 (by decide) ?_
        exact g30  _ _ _ h hP hD hS hl
set_option maxRecDepth 20000 in
theorem ggX7_symbolOf_X7_isTree : GoodIn wsX7_symbolOf wsX7_isTree := goodIn_r _ [5, 6, 7, 4, 8] (by decide +kernel) (by decide +kernel)
set_option maxRecDepth 20000 in
theorem gX7_symbolOf_X7_isTree : GoodIn wsX7_symbolOf (va_wsS RX7 87 yX7_isTree wsX7_isTree) := goodIn_app (goodIn_of _ (by decide +kernel)) ggX7_symbolOf_X7_isTree
theorem dX7_symbolOf_0 : decode cX7_symbolOf 0 = .ok (.iload_n 1, 1) := by decide +kernel
theorem dX7_symbolOf_1 : decode cX7_symbolOf 1 = .ok (.invokestatic 87, 3) := by decide +kernel
theorem dX7_symbolOf_4 : decode cX7_symbolOf 4 = .ok (.ifCond .eq 12, 3) := by decide +kernel
theorem dX7_symbolOf_7 : decode cX7_symbolOf 7 = .ok (.aload_n 0, 1) := by decide +kernel
theorem dX7_symbolOf_8 : decode cX7_symbolOf 8 = .ok (.getfield 7, 3) := by decide +kernel
theorem dX7_symbolOf_11 : decode cX7_symbolOf 11 = .ok (.iload_n 1, 1) := by decide +kernel
theorem dX7_symbolOf_12 : decode cX7_symbolOf 12 = .ok (.iaload, 1) := by decide +kernel
theorem dX7_symbolOf_13 : decode cX7_symbolOf 13 = .ok (.goto 4, 3) := by decide +kernel
theorem dX7_symbolOf_16 : decode cX7_symbolOf 16 = .ok (.iconst (-1), 1) := by decide +kernel
theorem dX7_symbolOf_17 : decode cX7_symbolOf 17 = .ok (.ireturn, 1) := by decide +kernel
theorem jX7_symbolOf_X7 : ∀ w ∈ wsX70, w ∈ wsX7_symbolOf := by decide +kernel
abbrev w_X7_symbolOf (cI cO : ClassId) (aN : Nat → Nat) (zN : CS) : (Unit) → va_W := fun u => (wN cI aN zN)
set_option maxRecDepth 100000 in
set_option maxHeartbeats 8000000 in
theorem mX7_symbolOf (l : Launch) (D : va_G) (cI cO : ClassId) (tA tS : Nat) (aN : Nat → Nat) (zN : CS) (x1 : Int32) (sz : Nat) {post : Int32 → (Unit) → Prop} (h : qX7_symbolOf post x1 zN) : Met l yX7_symbolOf wsX7_symbolOf ({ frames := 2, cells := 0, slots := 0, locals := 42 } : Room) (xPre D cI cO tA tS [.ref (aN 0), .int x1] (wN cI aN zN) sz) (va_Qi post (xB D cI cO (va_A (wN cI aN zN) sz) (w_X7_symbolOf cI cO aN zN)) (va_A (wN cI aN zN) sz)) 0 0 (va_A (wN cI aN zN) sz) := by
  refine xMet D cI cO tA tS (fun A => va_Qi post (xB D cI cO A (w_X7_symbolOf cI cO aN zN)) A) (cc := cX7_symbolOf) (maxL := 2) (ret := (some .int)) (by decide) rfl (Nat.le_of_ble_eq_true rfl) ?_
  intro p e s m below meth c A ls hx hb hr hts hown hlocks hin hml hA hS hP hK hD hE hl
  have hown : s.vm.findClass RX7 = some m.cls := hown
  have hl : lv_has ls 2 [(0, .ref (aN 0)), (1, .int x1)] := hl
  refine lv_iload_n hx hb dX7_symbolOf_0 rfl (lv_at hl 1 rfl) ?_
  refine xcalli (wr := (wN cI aN zN)) (w2 := fun (u1 : Unit) => (wN cI aN zN)) (va_runS (As := [.int x1]) (rest := []) ⟨hx, hb, hml, hown, hts⟩ (mX7_isTree l D cI cO tA tS x1 _ h) (va_cwS 1 hts gX7_symbolOf_X7_isTree rfl rfl rfl (by decide +kernel) ⟨Nat.le_of_ble_eq_true rfl, Nat.le_of_ble_eq_true rfl⟩) (xpreP hP hD hS hA hK hE [] rfl rfl) rfl rfl hl.1 rfl (lv_room (Nat.le_of_ble_eq_true rfl)) dX7_symbolOf_1 ⟨Nat.le_refl 0, Nat.le_refl 0⟩) hP hD hS hA [] [0, 1, 2, 3, 4, 5, 6, 7, 8, 9, 10, 11] [0, 1, 2, 3, 4, 5, 6, 7, 8, 9, 10, 11] rfl rfl rfl (by decide) rfl (fun _ => rfl) (fun r1 u1 H locs h hP hD hS => ?_)
  obtain ⟨hh1, hh2⟩ := h
  refine lv_if_eq (tgt := 16) hx hb dX7_symbolOf_4 (by decide) (fun hc => ?_) (fun hc => ?_)
  · have h := hh1 hc
    refine lv_iconst (v := -1) hx hb dX7_symbolOf_16 (by decide) ?_
    exact xiret (w := (w_X7_symbolOf cI cO aN zN)) () hx hb hr hlocks h hP hK hD hS dX7_symbolOf_17
  · have h := hh2 hc
    refine lv_aload_n hx hb dX7_symbolOf_7 rfl (lv_at hl 0 rfl) ?_
    refine va_get (D := D) (ci := 7) (v := .ref (aN 1)) (C := RX7) (T := TX7) (N := 14) hx hb hts jX7_symbolOf_X7 hown hK hP 0 rfl rfl 1 (by decide) (hts (.fieldLink RX7 7 "BrotherAutomataModel" "symbol" "[I") (List.mem_of_getElem? (i := 1) rfl)) (fun _ h9 => h9) rfl dX7_symbolOf_8 ?_
    refine lv_iload_n hx hb dX7_symbolOf_11 rfl (lv_at hl 1 rfl) ?_
    obtain ⟨hi, h⟩ := h
    refine va_iald hx hb hK hP 1 0 rfl rfl hi dX7_symbolOf_12 ?_
    refine lv_goto (tgt := 17) hx hb dX7_symbolOf_13 (by decide) ?_
    exact xiret (w := (w_X7_symbolOf cI cO aN zN)) () hx hb hr hlocks h hP hK hD hS dX7_symbolOf_17
set_option maxRecDepth 20000 in
theorem ggX7_childOf_X7_isTree : GoodIn wsX7_childOf wsX7_isTree := goodIn_r _ [7, 8, 9, 6, 10] (by decide +kernel) (by decide +kernel)
set_option maxRecDepth 20000 in
theorem gX7_childOf_X7_isTree : GoodIn wsX7_childOf (va_wsS RX7 87 yX7_isTree wsX7_isTree) := goodIn_app (goodIn_of _ (by decide +kernel)) ggX7_childOf_X7_isTree
set_option maxRecDepth 20000 in
theorem ggX7_childOf_X7_in : GoodIn wsX7_childOf wsX7_in := goodIn_r _ [10] (by decide +kernel) (by decide +kernel)
set_option maxRecDepth 20000 in
theorem gX7_childOf_X7_in : GoodIn wsX7_childOf (va_wsS RX7 58 yX7_in wsX7_in) := goodIn_app (goodIn_of _ (by decide +kernel)) ggX7_childOf_X7_in
set_option maxRecDepth 20000 in
theorem ggX7_childOf_X7_arity : GoodIn wsX7_childOf wsX7_arity := goodIn_r _ [13] (by decide +kernel) (by decide +kernel)
set_option maxRecDepth 20000 in
theorem gX7_childOf_X7_arity : GoodIn wsX7_childOf (va_wsS RX7 76 yX7_arity wsX7_arity) := goodIn_app (goodIn_of _ (by decide +kernel)) ggX7_childOf_X7_arity
theorem dX7_childOf_0 : decode cX7_childOf 0 = .ok (.iload_n 1, 1) := by decide +kernel
theorem dX7_childOf_1 : decode cX7_childOf 1 = .ok (.invokestatic 87, 3) := by decide +kernel
theorem dX7_childOf_4 : decode cX7_childOf 4 = .ok (.ifCond .eq 12, 3) := by decide +kernel
theorem dX7_childOf_7 : decode cX7_childOf 7 = .ok (.iload_n 2, 1) := by decide +kernel
theorem dX7_childOf_8 : decode cX7_childOf 8 = .ok (.iconst 0, 1) := by decide +kernel
theorem dX7_childOf_9 : decode cX7_childOf 9 = .ok (.iconst 1, 1) := by decide +kernel
theorem dX7_childOf_10 : decode cX7_childOf 10 = .ok (.invokestatic 58, 3) := by decide +kernel
theorem dX7_childOf_13 : decode cX7_childOf 13 = .ok (.ifCond .ne 5, 3) := by decide +kernel
theorem dX7_childOf_16 : decode cX7_childOf 16 = .ok (.iconst (-1), 1) := by decide +kernel
theorem dX7_childOf_17 : decode cX7_childOf 17 = .ok (.ireturn, 1) := by decide +kernel
theorem dX7_childOf_18 : decode cX7_childOf 18 = .ok (.iload_n 2, 1) := by decide +kernel
theorem dX7_childOf_19 : decode cX7_childOf 19 = .ok (.aload_n 0, 1) := by decide +kernel
theorem dX7_childOf_20 : decode cX7_childOf 20 = .ok (.getfield 7, 3) := by decide +kernel
theorem dX7_childOf_23 : decode cX7_childOf 23 = .ok (.iload_n 1, 1) := by decide +kernel
theorem dX7_childOf_24 : decode cX7_childOf 24 = .ok (.iaload, 1) := by decide +kernel
theorem dX7_childOf_25 : decode cX7_childOf 25 = .ok (.invokestatic 76, 3) := by decide +kernel
theorem dX7_childOf_28 : decode cX7_childOf 28 = .ok (.if_icmp .lt 8, 3) := by decide +kernel
theorem dX7_childOf_31 : decode cX7_childOf 31 = .ok (.bipush (-3), 2) := by decide +kernel
theorem dX7_childOf_33 : decode cX7_childOf 33 = .ok (.goto 22, 3) := by decide +kernel
theorem dX7_childOf_36 : decode cX7_childOf 36 = .ok (.iload_n 2, 1) := by decide +kernel
theorem dX7_childOf_37 : decode cX7_childOf 37 = .ok (.ifCond .ne 12, 3) := by decide +kernel
theorem dX7_childOf_40 : decode cX7_childOf 40 = .ok (.aload_n 0, 1) := by decide +kernel
theorem dX7_childOf_41 : decode cX7_childOf 41 = .ok (.getfield 13, 3) := by decide +kernel
theorem dX7_childOf_44 : decode cX7_childOf 44 = .ok (.iload_n 1, 1) := by decide +kernel
theorem dX7_childOf_45 : decode cX7_childOf 45 = .ok (.iaload, 1) := by decide +kernel
theorem dX7_childOf_46 : decode cX7_childOf 46 = .ok (.goto 9, 3) := by decide +kernel
theorem dX7_childOf_49 : decode cX7_childOf 49 = .ok (.aload_n 0, 1) := by decide +kernel
theorem dX7_childOf_50 : decode cX7_childOf 50 = .ok (.getfield 16, 3) := by decide +kernel
theorem dX7_childOf_53 : decode cX7_childOf 53 = .ok (.iload_n 1, 1) := by decide +kernel
theorem dX7_childOf_54 : decode cX7_childOf 54 = .ok (.iaload, 1) := by decide +kernel
theorem dX7_childOf_55 : decode cX7_childOf 55 = .ok (.ireturn, 1) := by decide +kernel
theorem jX7_childOf_X7 : ∀ w ∈ wsX70, w ∈ wsX7_childOf := by decide +kernel
abbrev w_X7_childOf (cI cO : ClassId) (aN : Nat → Nat) (zN : CS) : (Unit) → va_W := fun u => (wN cI aN zN)
set_option maxRecDepth 100000 in
set_option maxHeartbeats 8000000 in
theorem mX7_childOf (l : Launch) (D : va_G) (cI cO : ClassId) (tA tS : Nat) (aN : Nat → Nat) (zN : CS) (x1 : Int32) (x2 : Int32) (sz : Nat) {post : Int32 → (Unit) → Prop} (h : qX7_childOf post x1 x2 zN) : Met l yX7_childOf wsX7_childOf ({ frames := 2, cells := 0, slots := 0, locals := 42 } : Room) (xPre D cI cO tA tS [.ref (aN 0), .int x1, .int x2] (wN cI aN zN) sz) (va_Qi post (xB D cI cO (va_A (wN cI aN zN) sz) (w_X7_childOf cI cO aN zN)) (va_A (wN cI aN zN) sz)) 0 0 (va_A (wN cI aN zN) sz) := by
  refine xMet D cI cO tA tS (fun A => va_Qi post (xB D cI cO A (w_X7_childOf cI cO aN zN)) A) (cc := cX7_childOf) (maxL := 3) (ret := (some .int)) (by decide) rfl (Nat.le_of_ble_eq_true rfl) ?_
  intro p e s m below meth c A ls hx hb hr hts hown hlocks hin hml hA hS hP hK hD hE hl
  have hown : s.vm.findClass RX7 = some m.cls := hown
  have hl : lv_has ls 3 [(0, .ref (aN 0)), (1, .int x1), (2, .int x2)] := hl
  have g16 : ∀  (H : Heap) (locs : List Loc) (ls : Array Slot), qX7_childOf_16 post x1 x2 zN  → va_P D vwCl (wN cI aN zN) H → va_D A (wN cI aN zN) → va_S A s.heap H locs → lv_has ls 3 [(0, .ref (aN 0)), (1, .int x1), (2, .int x2)] → W p l e ({ frames := 2, cells := 0, slots := 0, locals := 42 } : Room) s m ([.ref (aN 0), .int x1, .int x2] : List Value).toArray below meth c H locs 0 0 (MQ below (va_Qi post (xB D cI cO A (w_X7_childOf cI cO aN zN)) A) ([.ref (aN 0), .int x1, .int x2] : List Value).toArray s 0 0 A) (F0 m 16 ls []) := by
    intro  H locs ls h hP hD hS hl
    refine lv_iconst (v := -1) hx hb dX7_childOf_16 (by decide) ?_
    exact xiret (w := (w_X7_childOf cI cO aN zN)) () hx hb hr hlocks h hP hK hD hS dX7_childOf_17
  refine lv_iload_n hx hb dX7_childOf_0 rfl (lv_at hl 1 rfl) ?_
  refine xcalli (wr := (wN cI aN zN)) (w2 := fun (u1 : Unit) => (wN cI aN zN)) (va_runS (As := [.int x1]) (rest := []) ⟨hx, hb, hml, hown, hts⟩ (mX7_isTree l D cI cO tA tS x1 _ h) (va_cwS 1 hts gX7_childOf_X7_isTree rfl rfl rfl (by decide +kernel) ⟨Nat.le_of_ble_eq_true rfl, Nat.le_of_ble_eq_true rfl⟩) (xpreP hP hD hS hA hK hE [] rfl rfl) rfl rfl hl.1 rfl (lv_room (Nat.le_of_ble_eq_true rfl)) dX7_childOf_1 ⟨Nat.le_refl 0, Nat.le_refl 0⟩) hP hD hS hA [] [0, 1, 2, 3, 4, 5, 6, 7, 8, 9, 10, 11] [0, 1, 2, 3, 4, 5, 6, 7, 8, 9, 10, 11] rfl rfl rfl (by decide) rfl (fun _ => rfl) (fun r1 u1 H locs h hP hD hS => ?_)
  obtain ⟨hh1, hh2⟩ := h
  refine lv_if_eq (tgt := 16) hx hb dX7_childOf_4 (by decide) (fun hc => ?_) (fun hc => ?_)
  · have h := hh1 hc
    exact g16  _ _ _ h hP hD hS hl
  · have h := hh2 hc
    refine lv_iload_n hx hb dX7_childOf_7 rfl (lv_at hl 2 rfl) ?_
    refine lv_iconst (v := 0) hx hb dX7_childOf_8 (by decide) ?_
    refine lv_iconst (v := 1) hx hb dX7_childOf_9 (by decide) ?_
    refine xcalli (wr := (wN cI aN zN)) (w2 := fun (u10 : Unit) => (wN cI aN zN)) (va_runS (As := [.int x2, .int (0 : Int32), .int (1 : Int32)]) (rest := []) ⟨hx, hb, hml, hown, hts⟩ (mX7_in l D cI cO tA tS x2 (0 : Int32) (1 : Int32) _ h) (va_cwS 3 hts gX7_childOf_X7_in rfl rfl rfl (by decide +kernel) ⟨Nat.le_of_ble_eq_true rfl, Nat.le_of_ble_eq_true rfl⟩) (xpreP hP hD hS hA hK hE [] rfl rfl) rfl rfl hl.1 rfl (lv_room (Nat.le_of_ble_eq_true rfl)) dX7_childOf_10 ⟨Nat.le_refl 0, Nat.le_refl 0⟩) hP hD hS hA [] [0, 1, 2, 3, 4, 5, 6, 7, 8, 9, 10, 11] [0, 1, 2, 3, 4, 5, 6, 7, 8, 9, 10, 11] rfl rfl rfl (by decide) rfl (fun _ => rfl) (fun r10 u10 H locs h hP hD hS => ?_)
    obtain ⟨hh1, hh2⟩ := h
    refine lv_if_ne (tgt := 18) hx hb dX7_childOf_13 (by decide) (fun hc => ?_) (fun hc => ?_)
    · have h := hh2 hc
      refine lv_iload_n hx hb dX7_childOf_18 rfl (lv_at hl 2 rfl) ?_
      refine lv_aload_n hx hb dX7_childOf_19 rfl (lv_at hl 0 rfl) ?_
      refine va_get (D := D) (ci := 7) (v := .ref (aN 1)) (C := RX7) (T := TX7) (N := 14) hx hb hts jX7_childOf_X7 hown hK hP 0 rfl rfl 1 (by decide) (hts (.fieldLink RX7 7 "BrotherAutomataModel" "symbol" "[I") (List.mem_of_getElem? (i := 1) rfl)) (fun _ h9 => h9) rfl dX7_childOf_20 ?_
      refine lv_iload_n hx hb dX7_childOf_23 rfl (lv_at hl 1 rfl) ?_
      obtain ⟨hi, h⟩ := h
      refine va_iald hx hb hK hP 1 0 rfl rfl hi dX7_childOf_24 ?_
      refine xcalli (wr := (wN cI aN zN)) (w2 := fun (u25 : Unit) => (wN cI aN zN)) (va_runS (As := [.int ((zN 0) x1.toNatClampNeg)]) (rest := [.int x2]) ⟨hx, hb, hml, hown, hts⟩ (mX7_arity l D cI cO tA tS ((zN 0) x1.toNatClampNeg) _ h) (va_cwS 1 hts gX7_childOf_X7_arity rfl rfl rfl (by decide +kernel) ⟨Nat.le_of_ble_eq_true rfl, Nat.le_of_ble_eq_true rfl⟩) (xpreP hP hD hS hA hK hE [] rfl rfl) rfl rfl hl.1 rfl (lv_room (Nat.le_of_ble_eq_true rfl)) dX7_childOf_25 ⟨Nat.le_refl 0, Nat.le_refl 0⟩) hP hD hS hA [] [0, 1, 2, 3, 4, 5, 6, 7, 8, 9, 10, 11] [0, 1, 2, 3, 4, 5, 6, 7, 8, 9, 10, 11] rfl rfl rfl (by decide) rfl (fun _ => rfl) (fun r25 u25 H locs h hP hD hS => ?_)
      obtain ⟨hh1, hh2⟩ := h
      refine lv_icmp_lt (tgt := 36) hx hb dX7_childOf_28 (by decide) (fun hc => ?_) (fun hc => ?_)
      · have h := hh1 hc
        refine lv_iload_n hx hb dX7_childOf_36 rfl (lv_at hl 2 rfl) ?_
        obtain ⟨hh1, hh2⟩ := h
        refine lv_if_ne (tgt := 49) hx hb dX7_childOf_37 (by decide) (fun hc => ?_) (fun hc => ?_)
        · have h := hh2 hc
          refine lv_aload_n hx hb dX7_childOf_49 rfl (lv_at hl 0 rfl) ?_
          refine va_get (D := D) (ci := 7) (v := .ref (aN 3)) (C := RX7) (T := TX7) (N := 14) hx hb hts jX7_childOf_X7 hown hK hP 0 rfl rfl 3 (by decide) (hts (.fieldLink RX7 16 "BrotherAutomataModel" "second" "[I") (List.mem_of_getElem? (i := 3) rfl)) (fun _ h9 => h9) rfl dX7_childOf_50 ?_
          refine lv_iload_n hx hb dX7_childOf_53 rfl (lv_at hl 1 rfl) ?_
          obtain ⟨hi, h⟩ := h
          refine va_iald hx hb hK hP 3 0 rfl rfl hi dX7_childOf_54 ?_
          exact xiret (w := (w_X7_childOf cI cO aN zN)) () hx hb hr hlocks h hP hK hD hS dX7_childOf_55
        · have h := hh1 hc
          refine lv_aload_n hx hb dX7_childOf_40 rfl (lv_at hl 0 rfl) ?_
          refine va_get (D := D) (ci := 7) (v := .ref (aN 2)) (C := RX7) (T := TX7) (N := 14) hx hb hts jX7_childOf_X7 hown hK hP 0 rfl rfl 2 (by decide) (hts (.fieldLink RX7 13 "BrotherAutomataModel" "first" "[I") (List.mem_of_getElem? (i := 2) rfl)) (fun _ h9 => h9) rfl dX7_childOf_41 ?_
          refine lv_iload_n hx hb dX7_childOf_44 rfl (lv_at hl 1 rfl) ?_
          obtain ⟨hi, h⟩ := h
          refine va_iald hx hb hK hP 2 0 rfl rfl hi dX7_childOf_45 ?_
          refine lv_goto (tgt := 55) hx hb dX7_childOf_46 (by decide) ?_
          exact xiret (w := (w_X7_childOf cI cO aN zN)) () hx hb hr hlocks h hP hK hD hS dX7_childOf_55
      · have h := hh2 hc
        refine lv_bipush (v := -3) hx hb dX7_childOf_31 (by decide) ?_
        refine lv_goto (tgt := 55) hx hb dX7_childOf_33 (by decide) ?_
        exact xiret (w := (w_X7_childOf cI cO aN zN)) () hx hb hr hlocks h hP hK hD hS dX7_childOf_55
    · have h := hh1 hc
      exact g16  _ _ _ h hP hD hS hl
set_option maxRecDepth 20000 in
theorem ggX7_sizeOf_X7_isTree : GoodIn wsX7_sizeOf wsX7_isTree := goodIn_r _ [5, 6, 7, 4, 8] (by decide +kernel) (by decide +kernel)
set_option maxRecDepth 20000 in
theorem gX7_sizeOf_X7_isTree : GoodIn wsX7_sizeOf (va_wsS RX7 87 yX7_isTree wsX7_isTree) := goodIn_app (goodIn_of _ (by decide +kernel)) ggX7_sizeOf_X7_isTree
theorem dX7_sizeOf_0 : decode cX7_sizeOf 0 = .ok (.iload_n 1, 1) := by decide +kernel
theorem dX7_sizeOf_1 : decode cX7_sizeOf 1 = .ok (.invokestatic 87, 3) := by decide +kernel
theorem dX7_sizeOf_4 : decode cX7_sizeOf 4 = .ok (.ifCond .eq 12, 3) := by decide +kernel
theorem dX7_sizeOf_7 : decode cX7_sizeOf 7 = .ok (.aload_n 0, 1) := by decide +kernel
theorem dX7_sizeOf_8 : decode cX7_sizeOf 8 = .ok (.getfield 19, 3) := by decide +kernel
theorem dX7_sizeOf_11 : decode cX7_sizeOf 11 = .ok (.iload_n 1, 1) := by decide +kernel
theorem dX7_sizeOf_12 : decode cX7_sizeOf 12 = .ok (.iaload, 1) := by decide +kernel
theorem dX7_sizeOf_13 : decode cX7_sizeOf 13 = .ok (.goto 4, 3) := by decide +kernel
theorem dX7_sizeOf_16 : decode cX7_sizeOf 16 = .ok (.iconst (-1), 1) := by decide +kernel
theorem dX7_sizeOf_17 : decode cX7_sizeOf 17 = .ok (.ireturn, 1) := by decide +kernel
theorem jX7_sizeOf_X7 : ∀ w ∈ wsX70, w ∈ wsX7_sizeOf := by decide +kernel
abbrev w_X7_sizeOf (cI cO : ClassId) (aN : Nat → Nat) (zN : CS) : (Unit) → va_W := fun u => (wN cI aN zN)
set_option maxRecDepth 100000 in
set_option maxHeartbeats 8000000 in
theorem mX7_sizeOf (l : Launch) (D : va_G) (cI cO : ClassId) (tA tS : Nat) (aN : Nat → Nat) (zN : CS) (x1 : Int32) (sz : Nat) {post : Int32 → (Unit) → Prop} (h : qX7_sizeOf post x1 zN) : Met l yX7_sizeOf wsX7_sizeOf ({ frames := 2, cells := 0, slots := 0, locals := 42 } : Room) (xPre D cI cO tA tS [.ref (aN 0), .int x1] (wN cI aN zN) sz) (va_Qi post (xB D cI cO (va_A (wN cI aN zN) sz) (w_X7_sizeOf cI cO aN zN)) (va_A (wN cI aN zN) sz)) 0 0 (va_A (wN cI aN zN) sz) := by
  refine xMet D cI cO tA tS (fun A => va_Qi post (xB D cI cO A (w_X7_sizeOf cI cO aN zN)) A) (cc := cX7_sizeOf) (maxL := 2) (ret := (some .int)) (by decide) rfl (Nat.le_of_ble_eq_true rfl) ?_
  intro p e s m below meth c A ls hx hb hr hts hown hlocks hin hml hA hS hP hK hD hE hl
  have hown : s.vm.findClass RX7 = some m.cls := hown
  have hl : lv_has ls 2 [(0, .ref (aN 0)), (1, .int x1)] := hl
  refine lv_iload_n hx hb dX7_sizeOf_0 rfl (lv_at hl 1 rfl) ?_
  refine xcalli (wr := (wN cI aN zN)) (w2 := fun (u1 : Unit) => (wN cI aN zN)) (va_runS (As := [.int x1]) (rest := []) ⟨hx, hb, hml, hown, hts⟩ (mX7_isTree l D cI cO tA tS x1 _ h) (va_cwS 1 hts gX7_sizeOf_X7_isTree rfl rfl rfl (by decide +kernel) ⟨Nat.le_of_ble_eq_true rfl, Nat.le_of_ble_eq_true rfl⟩) (xpreP hP hD hS hA hK hE [] rfl rfl) rfl rfl hl.1 rfl (lv_room (Nat.le_of_ble_eq_true rfl)) dX7_sizeOf_1 ⟨Nat.le_refl 0, Nat.le_refl 0⟩) hP hD hS hA [] [0, 1, 2, 3, 4, 5, 6, 7, 8, 9, 10, 11] [0, 1, 2, 3, 4, 5, 6, 7, 8, 9, 10, 11] rfl rfl rfl (by decide) rfl (fun _ => rfl) (fun r1 u1 H locs h hP hD hS => ?_)
  obtain ⟨hh1, hh2⟩ := h
  refine lv_if_eq (tgt := 16) hx hb dX7_sizeOf_4 (by decide) (fun hc => ?_) (fun hc => ?_)
  · have h := hh1 hc
    refine lv_iconst (v := -1) hx hb dX7_sizeOf_16 (by decide) ?_
    exact xiret (w := (w_X7_sizeOf cI cO aN zN)) () hx hb hr hlocks h hP hK hD hS dX7_sizeOf_17
  · have h := hh2 hc
    refine lv_aload_n hx hb dX7_sizeOf_7 rfl (lv_at hl 0 rfl) ?_
    refine va_get (D := D) (ci := 7) (v := .ref (aN 4)) (C := RX7) (T := TX7) (N := 14) hx hb hts jX7_sizeOf_X7 hown hK hP 0 rfl rfl 4 (by decide) (hts (.fieldLink RX7 19 "BrotherAutomataModel" "size" "[I") (List.mem_of_getElem? (i := 1) rfl)) (fun _ h9 => h9) rfl dX7_sizeOf_8 ?_
    refine lv_iload_n hx hb dX7_sizeOf_11 rfl (lv_at hl 1 rfl) ?_
    obtain ⟨hi, h⟩ := h
    refine va_iald hx hb hK hP 4 0 rfl rfl hi dX7_sizeOf_12 ?_
    refine lv_goto (tgt := 17) hx hb dX7_sizeOf_13 (by decide) ?_
    exact xiret (w := (w_X7_sizeOf cI cO aN zN)) () hx hb hr hlocks h hP hK hD hS dX7_sizeOf_17
set_option maxRecDepth 20000 in
theorem ggX7_heightOf_X7_isTree : GoodIn wsX7_heightOf wsX7_isTree := goodIn_r _ [5, 6, 7, 4, 8] (by decide +kernel) (by decide +kernel)
set_option maxRecDepth 20000 in
theorem gX7_heightOf_X7_isTree : GoodIn wsX7_heightOf (va_wsS RX7 87 yX7_isTree wsX7_isTree) := goodIn_app (goodIn_of _ (by decide +kernel)) ggX7_heightOf_X7_isTree
theorem dX7_heightOf_0 : decode cX7_heightOf 0 = .ok (.iload_n 1, 1) := by decide +kernel
theorem dX7_heightOf_1 : decode cX7_heightOf 1 = .ok (.invokestatic 87, 3) := by decide +kernel
theorem dX7_heightOf_4 : decode cX7_heightOf 4 = .ok (.ifCond .eq 12, 3) := by decide +kernel
theorem dX7_heightOf_7 : decode cX7_heightOf 7 = .ok (.aload_n 0, 1) := by decide +kernel
theorem dX7_heightOf_8 : decode cX7_heightOf 8 = .ok (.getfield 22, 3) := by decide +kernel
theorem dX7_heightOf_11 : decode cX7_heightOf 11 = .ok (.iload_n 1, 1) := by decide +kernel
theorem dX7_heightOf_12 : decode cX7_heightOf 12 = .ok (.iaload, 1) := by decide +kernel
theorem dX7_heightOf_13 : decode cX7_heightOf 13 = .ok (.goto 4, 3) := by decide +kernel
theorem dX7_heightOf_16 : decode cX7_heightOf 16 = .ok (.iconst (-1), 1) := by decide +kernel
theorem dX7_heightOf_17 : decode cX7_heightOf 17 = .ok (.ireturn, 1) := by decide +kernel
theorem jX7_heightOf_X7 : ∀ w ∈ wsX70, w ∈ wsX7_heightOf := by decide +kernel
abbrev w_X7_heightOf (cI cO : ClassId) (aN : Nat → Nat) (zN : CS) : (Unit) → va_W := fun u => (wN cI aN zN)
set_option maxRecDepth 100000 in
set_option maxHeartbeats 8000000 in
theorem mX7_heightOf (l : Launch) (D : va_G) (cI cO : ClassId) (tA tS : Nat) (aN : Nat → Nat) (zN : CS) (x1 : Int32) (sz : Nat) {post : Int32 → (Unit) → Prop} (h : qX7_heightOf post x1 zN) : Met l yX7_heightOf wsX7_heightOf ({ frames := 2, cells := 0, slots := 0, locals := 42 } : Room) (xPre D cI cO tA tS [.ref (aN 0), .int x1] (wN cI aN zN) sz) (va_Qi post (xB D cI cO (va_A (wN cI aN zN) sz) (w_X7_heightOf cI cO aN zN)) (va_A (wN cI aN zN) sz)) 0 0 (va_A (wN cI aN zN) sz) := by
  refine xMet D cI cO tA tS (fun A => va_Qi post (xB D cI cO A (w_X7_heightOf cI cO aN zN)) A) (cc := cX7_heightOf) (maxL := 2) (ret := (some .int)) (by decide) rfl (Nat.le_of_ble_eq_true rfl) ?_
  intro p e s m below meth c A ls hx hb hr hts hown hlocks hin hml hA hS hP hK hD hE hl
  have hown : s.vm.findClass RX7 = some m.cls := hown
  have hl : lv_has ls 2 [(0, .ref (aN 0)), (1, .int x1)] := hl
  refine lv_iload_n hx hb dX7_heightOf_0 rfl (lv_at hl 1 rfl) ?_
  refine xcalli (wr := (wN cI aN zN)) (w2 := fun (u1 : Unit) => (wN cI aN zN)) (va_runS (As := [.int x1]) (rest := []) ⟨hx, hb, hml, hown, hts⟩ (mX7_isTree l D cI cO tA tS x1 _ h) (va_cwS 1 hts gX7_heightOf_X7_isTree rfl rfl rfl (by decide +kernel) ⟨Nat.le_of_ble_eq_true rfl, Nat.le_of_ble_eq_true rfl⟩) (xpreP hP hD hS hA hK hE [] rfl rfl) rfl rfl hl.1 rfl (lv_room (Nat.le_of_ble_eq_true rfl)) dX7_heightOf_1 ⟨Nat.le_refl 0, Nat.le_refl 0⟩) hP hD hS hA [] [0, 1, 2, 3, 4, 5, 6, 7, 8, 9, 10, 11] [0, 1, 2, 3, 4, 5, 6, 7, 8, 9, 10, 11] rfl rfl rfl (by decide) rfl (fun _ => rfl) (fun r1 u1 H locs h hP hD hS => ?_)
  obtain ⟨hh1, hh2⟩ := h
  refine lv_if_eq (tgt := 16) hx hb dX7_heightOf_4 (by decide) (fun hc => ?_) (fun hc => ?_)
  · have h := hh1 hc
    refine lv_iconst (v := -1) hx hb dX7_heightOf_16 (by decide) ?_
    exact xiret (w := (w_X7_heightOf cI cO aN zN)) () hx hb hr hlocks h hP hK hD hS dX7_heightOf_17
  · have h := hh2 hc
    refine lv_aload_n hx hb dX7_heightOf_7 rfl (lv_at hl 0 rfl) ?_
    refine va_get (D := D) (ci := 7) (v := .ref (aN 5)) (C := RX7) (T := TX7) (N := 14) hx hb hts jX7_heightOf_X7 hown hK hP 0 rfl rfl 5 (by decide) (hts (.fieldLink RX7 22 "BrotherAutomataModel" "height" "[I") (List.mem_of_getElem? (i := 1) rfl)) (fun _ h9 => h9) rfl dX7_heightOf_8 ?_
    refine lv_iload_n hx hb dX7_heightOf_11 rfl (lv_at hl 1 rfl) ?_
    obtain ⟨hi, h⟩ := h
    refine va_iald hx hb hK hP 5 0 rfl rfl hi dX7_heightOf_12 ?_
    refine lv_goto (tgt := 17) hx hb dX7_heightOf_13 (by decide) ?_
    exact xiret (w := (w_X7_heightOf cI cO aN zN)) () hx hb hr hlocks h hP hK hD hS dX7_heightOf_17
theorem dX7_isFulfilled_0 : decode cX7_isFulfilled 0 = .ok (.iload_n 0, 1) := by decide +kernel
theorem dX7_isFulfilled_1 : decode cX7_isFulfilled 1 = .ok (.ifCond .eq 17, 3) := by decide +kernel
theorem dX7_isFulfilled_4 : decode cX7_isFulfilled 4 = .ok (.iload_n 0, 1) := by decide +kernel
theorem dX7_isFulfilled_5 : decode cX7_isFulfilled 5 = .ok (.iconst 1, 1) := by decide +kernel
theorem dX7_isFulfilled_6 : decode cX7_isFulfilled 6 = .ok (.if_icmp .ne 7, 3) := by decide +kernel
theorem dX7_isFulfilled_9 : decode cX7_isFulfilled 9 = .ok (.iconst 1, 1) := by decide +kernel
theorem dX7_isFulfilled_10 : decode cX7_isFulfilled 10 = .ok (.goto 4, 3) := by decide +kernel
theorem dX7_isFulfilled_13 : decode cX7_isFulfilled 13 = .ok (.iconst 0, 1) := by decide +kernel
theorem dX7_isFulfilled_14 : decode cX7_isFulfilled 14 = .ok (.iload_n 1, 1) := by decide +kernel
theorem dX7_isFulfilled_15 : decode cX7_isFulfilled 15 = .ok (.if_icmp .ne 7, 3) := by decide +kernel
theorem dX7_isFulfilled_18 : decode cX7_isFulfilled 18 = .ok (.iconst 1, 1) := by decide +kernel
theorem dX7_isFulfilled_19 : decode cX7_isFulfilled 19 = .ok (.goto 4, 3) := by decide +kernel
theorem dX7_isFulfilled_22 : decode cX7_isFulfilled 22 = .ok (.iconst 0, 1) := by decide +kernel
theorem dX7_isFulfilled_23 : decode cX7_isFulfilled 23 = .ok (.ireturn, 1) := by decide +kernel
abbrev w_X7_isFulfilled (cI cO : ClassId)   : (Unit) → va_W := fun u => ([] : va_W)
set_option maxRecDepth 100000 in
set_option maxHeartbeats 8000000 in
theorem mX7_isFulfilled (l : Launch) (D : va_G) (cI cO : ClassId) (tA tS : Nat)   (x0 : Int32) (x1 : Int32) (sz : Nat) {post : Int32 → (Unit) → Prop} (h : qX7_isFulfilled post x0 x1) : Met l yX7_isFulfilled wsX7_isFulfilled ({ frames := 0, cells := 0, slots := 0, locals := 0 } : Room) (xPre D cI cO tA tS [.int x0, .int x1] ([] : va_W) sz) (va_Qi post (xB D cI cO (va_A ([] : va_W) sz) (w_X7_isFulfilled cI cO)) (va_A ([] : va_W) sz)) 0 0 (va_A ([] : va_W) sz) := by
  refine xMet D cI cO tA tS (fun A => va_Qi post (xB D cI cO A (w_X7_isFulfilled cI cO)) A) (cc := cX7_isFulfilled) (maxL := 2) (ret := (some .boolean)) (by decide) rfl (Nat.le_of_ble_eq_true rfl) ?_
  intro p e s m below meth c A ls hx hb hr hts hown hlocks hin hml hA hS hP hK hD hE hl
  have hown : s.vm.findClass RX7 = some m.cls := hown
  have hl : lv_has ls 2 [(0, .int x0), (1, .int x1)] := hl
  have g18 : ∀  (H : Heap) (locs : List Loc) (ls : Array Slot), qX7_isFulfilled_18 post x0 x1  → va_P D vwCl ([] : va_W) H → va_D A ([] : va_W) → va_S A s.heap H locs → lv_has ls 2 [(0, .int x0), (1, .int x1)] → W p l e ({ frames := 0, cells := 0, slots := 0, locals := 0 } : Room) s m ([.int x0, .int x1] : List Value).toArray below meth c H locs 0 0 (MQ below (va_Qi post (xB D cI cO A (w_X7_isFulfilled cI cO)) A) ([.int x0, .int x1] : List Value).toArray s 0 0 A) (F0 m 18 ls []) := by
    intro  H locs ls h hP hD hS hl
    refine lv_iconst (v := 1) hx hb dX7_isFulfilled_18 (by decide) ?_
    refine lv_goto (tgt := 23) hx hb dX7_isFulfilled_19 (by decide) ?_
    exact xzret (w := (w_X7_isFulfilled cI cO)) () hx hb hr hlocks rfl h hP hK hD hS dX7_isFulfilled_23
  have g14 : ∀ (w0 : Int32) (H : Heap) (locs : List Loc) (ls : Array Slot), qX7_isFulfilled_14 post x0 x1 w0 → va_P D vwCl ([] : va_W) H → va_D A ([] : va_W) → va_S A s.heap H locs → lv_has ls 2 [(0, .int x0), (1, .int x1)] → W p l e ({ frames := 0, cells := 0, slots := 0, locals := 0 } : Room) s m ([.int x0, .int x1] : List Value).toArray below meth c H locs 0 0 (MQ below (va_Qi post (xB D cI cO A (w_X7_isFulfilled cI cO)) A) ([.int x0, .int x1] : List Value).toArray s 0 0 A) (F0 m 14 ls [.int w0]) := by
    intro w0 H locs ls h hP hD hS hl
    refine lv_iload_n hx hb dX7_isFulfilled_14 rfl (lv_at hl 1 rfl) ?_
    obtain ⟨hh1, hh2⟩ := h
    refine lv_icmp_ne (tgt := 22) hx hb dX7_isFulfilled_15 (by decide) (fun hc => ?_) (fun hc => ?_)
    · have h := hh2 hc
      refine lv_iconst (v := 0) hx hb dX7_isFulfilled_22 (by decide) ?_
      exact xzret (w := (w_X7_isFulfilled cI cO)) () hx hb hr hlocks rfl h hP hK hD hS dX7_isFulfilled_23
    · have h := hh1 hc
      exact g18  _ _ _ h hP hD hS hl
  refine lv_iload_n hx hb dX7_isFulfilled_0 rfl (lv_at hl 0 rfl) ?_
  obtain ⟨hh1, hh2⟩ := h
  refine lv_if_eq (tgt := 18) hx hb dX7_isFulfilled_1 (by decide) (fun hc => ?_) (fun hc => ?_)
  · have h := hh1 hc
    exact g18  _ _ _ h hP hD hS hl
  · have h := hh2 hc
    refine lv_iload_n hx hb dX7_isFulfilled_4 rfl (lv_at hl 0 rfl) ?_
    refine lv_iconst (v := 1) hx hb dX7_isFulfilled_5 (by decide) ?_
    obtain ⟨hh1, hh2⟩ := h
    refine lv_icmp_ne (tgt := 13) hx hb dX7_isFulfilled_6 (by decide) (fun hc => ?_) (fun hc => ?_)
    · have h := hh2 hc
      refine lv_iconst (v := 0) hx hb dX7_isFulfilled_13 (by decide) ?_
      exact g14 (0 : Int32) _ _ _ h hP hD hS hl
    · have h := hh1 hc
      refine lv_iconst (v := 1) hx hb dX7_isFulfilled_9 (by decide) ?_
      refine lv_goto (tgt := 14) hx hb dX7_isFulfilled_10 (by decide) ?_
      exact g14 (1 : Int32) _ _ _ h hP hD hS hl
set_option maxRecDepth 20000 in
theorem ggX7_runsTo_X7_arity : GoodIn wsX7_runsTo wsX7_arity := goodIn_r _ [9] (by decide +kernel) (by decide +kernel)
set_option maxRecDepth 20000 in
theorem gX7_runsTo_X7_arity : GoodIn wsX7_runsTo (va_wsS RX7 76 yX7_arity wsX7_arity) := goodIn_app (goodIn_of _ (by decide +kernel)) ggX7_runsTo_X7_arity
set_option maxRecDepth 20000 in
theorem ggX7_runsTo_X7_isFulfilled : GoodIn wsX7_runsTo wsX7_isFulfilled := goodIn_r _ [12] (by decide +kernel) (by decide +kernel)
set_option maxRecDepth 20000 in
theorem gX7_runsTo_X7_isFulfilled : GoodIn wsX7_runsTo (va_wsS RX7 90 yX7_isFulfilled wsX7_isFulfilled) := goodIn_app (goodIn_of _ (by decide +kernel)) ggX7_runsTo_X7_isFulfilled
theorem dX7_runsTo_0 : decode cX7_runsTo 0 = .ok (.iconst 0, 1) := by decide +kernel
theorem dX7_runsTo_1 : decode cX7_runsTo 1 = .ok (.istore_n 2, 1) := by decide +kernel
theorem dX7_runsTo_2 : decode cX7_runsTo 2 = .ok (.iload_n 2, 1) := by decide +kernel
theorem dX7_runsTo_3 : decode cX7_runsTo 3 = .ok (.iload_n 1, 1) := by decide +kernel
theorem dX7_runsTo_4 : decode cX7_runsTo 4 = .ok (.if_icmp .gt 226, 3) := by decide +kernel
theorem dX7_runsTo_7 : decode cX7_runsTo 7 = .ok (.iconst 0, 1) := by decide +kernel
theorem dX7_runsTo_8 : decode cX7_runsTo 8 = .ok (.istore_n 3, 1) := by decide +kernel
theorem dX7_runsTo_9 : decode cX7_runsTo 9 = .ok (.iload_n 3, 1) := by decide +kernel
theorem dX7_runsTo_10 : decode cX7_runsTo 10 = .ok (.bipush 6, 2) := by decide +kernel
theorem dX7_runsTo_12 : decode cX7_runsTo 12 = .ok (.if_icmp .ge 21, 3) := by decide +kernel
theorem dX7_runsTo_15 : decode cX7_runsTo 15 = .ok (.aload_n 0, 1) := by decide +kernel
theorem dX7_runsTo_16 : decode cX7_runsTo 16 = .ok (.getfield 28, 3) := by decide +kernel
theorem dX7_runsTo_19 : decode cX7_runsTo 19 = .ok (.bipush 6, 2) := by decide +kernel
theorem dX7_runsTo_21 : decode cX7_runsTo 21 = .ok (.iload_n 2, 1) := by decide +kernel
theorem dX7_runsTo_22 : decode cX7_runsTo 22 = .ok (.imul, 1) := by decide +kernel
theorem dX7_runsTo_23 : decode cX7_runsTo 23 = .ok (.iload_n 3, 1) := by decide +kernel
theorem dX7_runsTo_24 : decode cX7_runsTo 24 = .ok (.iadd, 1) := by decide +kernel
theorem dX7_runsTo_25 : decode cX7_runsTo 25 = .ok (.iconst 0, 1) := by decide +kernel
theorem dX7_runsTo_26 : decode cX7_runsTo 26 = .ok (.iastore, 1) := by decide +kernel
theorem dX7_runsTo_27 : decode cX7_runsTo 27 = .ok (.iinc 3 1, 3) := by decide +kernel
theorem dX7_runsTo_30 : decode cX7_runsTo 30 = .ok (.goto (-21), 3) := by decide +kernel
theorem dX7_runsTo_33 : decode cX7_runsTo 33 = .ok (.iconst 0, 1) := by decide +kernel
theorem dX7_runsTo_34 : decode cX7_runsTo 34 = .ok (.istore_n 3, 1) := by decide +kernel
theorem dX7_runsTo_35 : decode cX7_runsTo 35 = .ok (.iload_n 3, 1) := by decide +kernel
theorem dX7_runsTo_36 : decode cX7_runsTo 36 = .ok (.aload_n 0, 1) := by decide +kernel
theorem dX7_runsTo_37 : decode cX7_runsTo 37 = .ok (.getfield 35, 3) := by decide +kernel
theorem dX7_runsTo_40 : decode cX7_runsTo 40 = .ok (.bipush 80, 2) := by decide +kernel
theorem dX7_runsTo_42 : decode cX7_runsTo 42 = .ok (.iaload, 1) := by decide +kernel
theorem dX7_runsTo_43 : decode cX7_runsTo 43 = .ok (.if_icmp .ge 181, 3) := by decide +kernel
theorem dX7_runsTo_46 : decode cX7_runsTo 46 = .ok (.aload_n 0, 1) := by decide +kernel
theorem dX7_runsTo_47 : decode cX7_runsTo 47 = .ok (.getfield 35, 3) := by decide +kernel
theorem dX7_runsTo_50 : decode cX7_runsTo 50 = .ok (.iconst 5, 1) := by decide +kernel
theorem dX7_runsTo_51 : decode cX7_runsTo 51 = .ok (.iload_n 3, 1) := by decide +kernel
theorem dX7_runsTo_52 : decode cX7_runsTo 52 = .ok (.imul, 1) := by decide +kernel
theorem dX7_runsTo_53 : decode cX7_runsTo 53 = .ok (.iaload, 1) := by decide +kernel
theorem dX7_runsTo_54 : decode cX7_runsTo 54 = .ok (.aload_n 0, 1) := by decide +kernel
theorem dX7_runsTo_55 : decode cX7_runsTo 55 = .ok (.getfield 7, 3) := by decide +kernel
theorem dX7_runsTo_58 : decode cX7_runsTo 58 = .ok (.iload_n 2, 1) := by decide +kernel
theorem dX7_runsTo_59 : decode cX7_runsTo 59 = .ok (.iaload, 1) := by decide +kernel
theorem dX7_runsTo_60 : decode cX7_runsTo 60 = .ok (.if_icmp .ne 158, 3) := by decide +kernel
theorem dX7_runsTo_63 : decode cX7_runsTo 63 = .ok (.aload_n 0, 1) := by decide +kernel
theorem dX7_runsTo_64 : decode cX7_runsTo 64 = .ok (.getfield 7, 3) := by decide +kernel
theorem dX7_runsTo_67 : decode cX7_runsTo 67 = .ok (.iload_n 2, 1) := by decide +kernel
theorem dX7_runsTo_68 : decode cX7_runsTo 68 = .ok (.iaload, 1) := by decide +kernel
theorem dX7_runsTo_69 : decode cX7_runsTo 69 = .ok (.invokestatic 76, 3) := by decide +kernel
theorem dX7_runsTo_72 : decode cX7_runsTo 72 = .ok (.ifCond .le 31, 3) := by decide +kernel
theorem dX7_runsTo_75 : decode cX7_runsTo 75 = .ok (.aload_n 0, 1) := by decide +kernel
theorem dX7_runsTo_76 : decode cX7_runsTo 76 = .ok (.getfield 28, 3) := by decide +kernel
theorem dX7_runsTo_79 : decode cX7_runsTo 79 = .ok (.bipush 6, 2) := by decide +kernel
theorem dX7_runsTo_81 : decode cX7_runsTo 81 = .ok (.aload_n 0, 1) := by decide +kernel
theorem dX7_runsTo_82 : decode cX7_runsTo 82 = .ok (.getfield 13, 3) := by decide +kernel
theorem dX7_runsTo_85 : decode cX7_runsTo 85 = .ok (.iload_n 2, 1) := by decide +kernel
theorem dX7_runsTo_86 : decode cX7_runsTo 86 = .ok (.iaload, 1) := by decide +kernel
theorem dX7_runsTo_87 : decode cX7_runsTo 87 = .ok (.imul, 1) := by decide +kernel
theorem dX7_runsTo_88 : decode cX7_runsTo 88 = .ok (.aload_n 0, 1) := by decide +kernel
theorem dX7_runsTo_89 : decode cX7_runsTo 89 = .ok (.getfield 35, 3) := by decide +kernel
theorem dX7_runsTo_92 : decode cX7_runsTo 92 = .ok (.iconst 5, 1) := by decide +kernel
theorem dX7_runsTo_93 : decode cX7_runsTo 93 = .ok (.iload_n 3, 1) := by decide +kernel
theorem dX7_runsTo_94 : decode cX7_runsTo 94 = .ok (.imul, 1) := by decide +kernel
theorem dX7_runsTo_95 : decode cX7_runsTo 95 = .ok (.iconst 1, 1) := by decide +kernel
theorem dX7_runsTo_96 : decode cX7_runsTo 96 = .ok (.iadd, 1) := by decide +kernel
theorem dX7_runsTo_97 : decode cX7_runsTo 97 = .ok (.iaload, 1) := by decide +kernel
theorem dX7_runsTo_98 : decode cX7_runsTo 98 = .ok (.iadd, 1) := by decide +kernel
theorem dX7_runsTo_99 : decode cX7_runsTo 99 = .ok (.iaload, 1) := by decide +kernel
theorem dX7_runsTo_100 : decode cX7_runsTo 100 = .ok (.goto 4, 3) := by decide +kernel
theorem dX7_runsTo_103 : decode cX7_runsTo 103 = .ok (.iconst 1, 1) := by decide +kernel
theorem dX7_runsTo_104 : decode cX7_runsTo 104 = .ok (.istore 4, 2) := by decide +kernel
theorem dX7_runsTo_106 : decode cX7_runsTo 106 = .ok (.iload 4, 2) := by decide +kernel
theorem dX7_runsTo_108 : decode cX7_runsTo 108 = .ok (.aload_n 0, 1) := by decide +kernel
theorem dX7_runsTo_109 : decode cX7_runsTo 109 = .ok (.getfield 7, 3) := by decide +kernel
theorem dX7_runsTo_112 : decode cX7_runsTo 112 = .ok (.iload_n 2, 1) := by decide +kernel
theorem dX7_runsTo_113 : decode cX7_runsTo 113 = .ok (.iaload, 1) := by decide +kernel
theorem dX7_runsTo_114 : decode cX7_runsTo 114 = .ok (.invokestatic 76, 3) := by decide +kernel
theorem dX7_runsTo_117 : decode cX7_runsTo 117 = .ok (.iconst 1, 1) := by decide +kernel
theorem dX7_runsTo_118 : decode cX7_runsTo 118 = .ok (.if_icmp .le 31, 3) := by decide +kernel
theorem dX7_runsTo_121 : decode cX7_runsTo 121 = .ok (.aload_n 0, 1) := by decide +kernel
theorem dX7_runsTo_122 : decode cX7_runsTo 122 = .ok (.getfield 28, 3) := by decide +kernel
theorem dX7_runsTo_125 : decode cX7_runsTo 125 = .ok (.bipush 6, 2) := by decide +kernel
theorem dX7_runsTo_127 : decode cX7_runsTo 127 = .ok (.aload_n 0, 1) := by decide +kernel
theorem dX7_runsTo_128 : decode cX7_runsTo 128 = .ok (.getfield 16, 3) := by decide +kernel
theorem dX7_runsTo_131 : decode cX7_runsTo 131 = .ok (.iload_n 2, 1) := by decide +kernel
theorem dX7_runsTo_132 : decode cX7_runsTo 132 = .ok (.iaload, 1) := by decide +kernel
theorem dX7_runsTo_133 : decode cX7_runsTo 133 = .ok (.imul, 1) := by decide +kernel
theorem dX7_runsTo_134 : decode cX7_runsTo 134 = .ok (.aload_n 0, 1) := by decide +kernel
theorem dX7_runsTo_135 : decode cX7_runsTo 135 = .ok (.getfield 35, 3) := by decide +kernel
theorem dX7_runsTo_138 : decode cX7_runsTo 138 = .ok (.iconst 5, 1) := by decide +kernel
theorem dX7_runsTo_139 : decode cX7_runsTo 139 = .ok (.iload_n 3, 1) := by decide +kernel
theorem dX7_runsTo_140 : decode cX7_runsTo 140 = .ok (.imul, 1) := by decide +kernel
theorem dX7_runsTo_141 : decode cX7_runsTo 141 = .ok (.iconst 2, 1) := by decide +kernel
theorem dX7_runsTo_142 : decode cX7_runsTo 142 = .ok (.iadd, 1) := by decide +kernel
theorem dX7_runsTo_143 : decode cX7_runsTo 143 = .ok (.iaload, 1) := by decide +kernel
theorem dX7_runsTo_144 : decode cX7_runsTo 144 = .ok (.iadd, 1) := by decide +kernel
theorem dX7_runsTo_145 : decode cX7_runsTo 145 = .ok (.iaload, 1) := by decide +kernel
theorem dX7_runsTo_146 : decode cX7_runsTo 146 = .ok (.goto 4, 3) := by decide +kernel
theorem dX7_runsTo_149 : decode cX7_runsTo 149 = .ok (.iconst 1, 1) := by decide +kernel
theorem dX7_runsTo_150 : decode cX7_runsTo 150 = .ok (.imul, 1) := by decide +kernel
theorem dX7_runsTo_151 : decode cX7_runsTo 151 = .ok (.istore 4, 2) := by decide +kernel
theorem dX7_runsTo_153 : decode cX7_runsTo 153 = .ok (.aload_n 0, 1) := by decide +kernel
theorem dX7_runsTo_154 : decode cX7_runsTo 154 = .ok (.getfield 28, 3) := by decide +kernel
theorem dX7_runsTo_157 : decode cX7_runsTo 157 = .ok (.bipush 6, 2) := by decide +kernel
theorem dX7_runsTo_159 : decode cX7_runsTo 159 = .ok (.iload_n 2, 1) := by decide +kernel
theorem dX7_runsTo_160 : decode cX7_runsTo 160 = .ok (.imul, 1) := by decide +kernel
theorem dX7_runsTo_161 : decode cX7_runsTo 161 = .ok (.aload_n 0, 1) := by decide +kernel
theorem dX7_runsTo_162 : decode cX7_runsTo 162 = .ok (.getfield 35, 3) := by decide +kernel
theorem dX7_runsTo_165 : decode cX7_runsTo 165 = .ok (.iconst 5, 1) := by decide +kernel
theorem dX7_runsTo_166 : decode cX7_runsTo 166 = .ok (.iload_n 3, 1) := by decide +kernel
theorem dX7_runsTo_167 : decode cX7_runsTo 167 = .ok (.imul, 1) := by decide +kernel
theorem dX7_runsTo_168 : decode cX7_runsTo 168 = .ok (.iconst 4, 1) := by decide +kernel
theorem dX7_runsTo_169 : decode cX7_runsTo 169 = .ok (.iadd, 1) := by decide +kernel
theorem dX7_runsTo_170 : decode cX7_runsTo 170 = .ok (.iaload, 1) := by decide +kernel
theorem dX7_runsTo_171 : decode cX7_runsTo 171 = .ok (.iadd, 1) := by decide +kernel
theorem dX7_runsTo_172 : decode cX7_runsTo 172 = .ok (.dup2, 1) := by decide +kernel
theorem dX7_runsTo_173 : decode cX7_runsTo 173 = .ok (.iaload, 1) := by decide +kernel
theorem dX7_runsTo_174 : decode cX7_runsTo 174 = .ok (.aload_n 0, 1) := by decide +kernel
theorem dX7_runsTo_175 : decode cX7_runsTo 175 = .ok (.getfield 35, 3) := by decide +kernel
theorem dX7_runsTo_178 : decode cX7_runsTo 178 = .ok (.iconst 5, 1) := by decide +kernel
theorem dX7_runsTo_179 : decode cX7_runsTo 179 = .ok (.iload_n 3, 1) := by decide +kernel
theorem dX7_runsTo_180 : decode cX7_runsTo 180 = .ok (.imul, 1) := by decide +kernel
theorem dX7_runsTo_181 : decode cX7_runsTo 181 = .ok (.iconst 3, 1) := by decide +kernel
theorem dX7_runsTo_182 : decode cX7_runsTo 182 = .ok (.iadd, 1) := by decide +kernel
theorem dX7_runsTo_183 : decode cX7_runsTo 183 = .ok (.iaload, 1) := by decide +kernel
theorem dX7_runsTo_184 : decode cX7_runsTo 184 = .ok (.aload_n 0, 1) := by decide +kernel
theorem dX7_runsTo_185 : decode cX7_runsTo 185 = .ok (.getfield 13, 3) := by decide +kernel
theorem dX7_runsTo_188 : decode cX7_runsTo 188 = .ok (.iload_n 2, 1) := by decide +kernel
theorem dX7_runsTo_189 : decode cX7_runsTo 189 = .ok (.iaload, 1) := by decide +kernel
theorem dX7_runsTo_190 : decode cX7_runsTo 190 = .ok (.aload_n 0, 1) := by decide +kernel
theorem dX7_runsTo_191 : decode cX7_runsTo 191 = .ok (.getfield 16, 3) := by decide +kernel
theorem dX7_runsTo_194 : decode cX7_runsTo 194 = .ok (.iload_n 2, 1) := by decide +kernel
theorem dX7_runsTo_195 : decode cX7_runsTo 195 = .ok (.iaload, 1) := by decide +kernel
theorem dX7_runsTo_196 : decode cX7_runsTo 196 = .ok (.if_icmp .ne 7, 3) := by decide +kernel
theorem dX7_runsTo_199 : decode cX7_runsTo 199 = .ok (.iconst 1, 1) := by decide +kernel
theorem dX7_runsTo_200 : decode cX7_runsTo 200 = .ok (.goto 4, 3) := by decide +kernel
theorem dX7_runsTo_203 : decode cX7_runsTo 203 = .ok (.iconst 0, 1) := by decide +kernel
theorem dX7_runsTo_204 : decode cX7_runsTo 204 = .ok (.invokestatic 90, 3) := by decide +kernel
theorem dX7_runsTo_207 : decode cX7_runsTo 207 = .ok (.ifCond .eq 8, 3) := by decide +kernel
theorem dX7_runsTo_210 : decode cX7_runsTo 210 = .ok (.iload 4, 2) := by decide +kernel
theorem dX7_runsTo_212 : decode cX7_runsTo 212 = .ok (.goto 4, 3) := by decide +kernel
theorem dX7_runsTo_215 : decode cX7_runsTo 215 = .ok (.iconst 0, 1) := by decide +kernel
theorem dX7_runsTo_216 : decode cX7_runsTo 216 = .ok (.iadd, 1) := by decide +kernel
theorem dX7_runsTo_217 : decode cX7_runsTo 217 = .ok (.iastore, 1) := by decide +kernel
theorem dX7_runsTo_218 : decode cX7_runsTo 218 = .ok (.iinc 3 1, 3) := by decide +kernel
theorem dX7_runsTo_221 : decode cX7_runsTo 221 = .ok (.goto (-186), 3) := by decide +kernel
theorem dX7_runsTo_224 : decode cX7_runsTo 224 = .ok (.iinc 2 1, 3) := by decide +kernel
theorem dX7_runsTo_227 : decode cX7_runsTo 227 = .ok (.goto (-225), 3) := by decide +kernel
theorem dX7_runsTo_230 : decode cX7_runsTo 230 = .ok (.return_, 1) := by decide +kernel
theorem jX7_runsTo_X7 : ∀ w ∈ wsX70, w ∈ wsX7_runsTo := by decide +kernel
abbrev w_X7_runsTo (cI cO : ClassId) (aN : Nat → Nat)  : ((CS)) → va_W := fun u => (wN cI aN u)
set_option maxRecDepth 100000 in
set_option maxHeartbeats 8000000 in
theorem mX7_runsTo (l : Launch) (D : va_G) (cI cO : ClassId) (tA tS : Nat) (aN : Nat → Nat) (zN : CS) (x1 : Int32) (sz : Nat) {post : ((CS)) → Prop} (h : qX7_runsTo post x1 zN) : Met l yX7_runsTo wsX7_runsTo ({ frames := 1, cells := 0, slots := 0, locals := 21 } : Room) (xPre D cI cO tA tS [.ref (aN 0), .int x1] (wN cI aN zN) sz) (va_Qv post (xB D cI cO (va_A (wN cI aN zN) sz) (w_X7_runsTo cI cO aN)) (va_A (wN cI aN zN) sz)) 0 0 (va_A (wN cI aN zN) sz) := by
  refine xMet D cI cO tA tS (fun A => va_Qv post (xB D cI cO A (w_X7_runsTo cI cO aN)) A) (cc := cX7_runsTo) (maxL := 5) (ret := none) (by decide) rfl (Nat.le_of_ble_eq_true rfl) ?_
  intro p e s m below meth c A ls hx hb hr hts hown hlocks hin hml hA hS hP hK hD hE hl
  have hown : s.vm.findClass RX7 = some m.cls := hown
  have hl : lv_has ls 5 [(0, .ref (aN 0)), (1, .int x1)] := hl
  have g218 : ∀ (k2 : (Int32) → (CS) → Prop), (∀ (y2 : Int32) (zN : CS) (H : Heap) (locs : List Loc) (ls : Array Slot), k2 y2 zN → va_P D vwCl (wN cI aN zN) H → va_D A (wN cI aN zN) → va_S A s.heap H locs → lv_has ls 5 [(2, .int y2), (0, .ref (aN 0)), (1, .int x1)] → W p l e ({ frames := 1, cells := 0, slots := 0, locals := 21 } : Room) s m ([.ref (aN 0), .int x1] : List Value).toArray below meth c H locs 0 0 (MQ below (va_Qv post (xB D cI cO A (w_X7_runsTo cI cO aN)) A) ([.ref (aN 0), .int x1] : List Value).toArray s 0 0 A) (F0 m 2 ls [])) → ∀ (k35 : (Int32) → (Int32) → (CS) → Prop), (∀ (y2 : Int32) (y3 : Int32) (zN : CS) (H : Heap) (locs : List Loc) (ls : Array Slot), k35 y2 y3 zN → va_P D vwCl (wN cI aN zN) H → va_D A (wN cI aN zN) → va_S A s.heap H locs → lv_has ls 5 [(3, .int y3), (2, .int y2), (0, .ref (aN 0)), (1, .int x1)] → W p l e ({ frames := 1, cells := 0, slots := 0, locals := 21 } : Room) s m ([.ref (aN 0), .int x1] : List Value).toArray below meth c H locs 0 0 (MQ below (va_Qv post (xB D cI cO A (w_X7_runsTo cI cO aN)) A) ([.ref (aN 0), .int x1] : List Value).toArray s 0 0 A) (F0 m 35 ls [])) → ∀ (y2 : Int32) (y3 : Int32) (zN : CS) (H : Heap) (locs : List Loc) (ls : Array Slot), qX7_runsTo_218 post x1 k2 k35 y2 y3 zN → va_P D vwCl (wN cI aN zN) H → va_D A (wN cI aN zN) → va_S A s.heap H locs → lv_has ls 5 [(3, .int y3), (2, .int y2), (0, .ref (aN 0)), (1, .int x1)] → W p l e ({ frames := 1, cells := 0, slots := 0, locals := 21 } : Room) s m ([.ref (aN 0), .int x1] : List Value).toArray below meth c H locs 0 0 (MQ below (va_Qv post (xB D cI cO A (w_X7_runsTo cI cO aN)) A) ([.ref (aN 0), .int x1] : List Value).toArray s 0 0 A) (F0 m 218 ls []) := by
    intro k2 hk2 k35 hk35 y2 y3 zN H locs ls h hP hD hS hl
    refine lv_iinc (v := (y3 + (1 : Int32))) (lv' := [(3, .int (y3 + (1 : Int32))), (2, .int y2), (0, .ref (aN 0)), (1, .int x1)]) hx hb dX7_runsTo_218 hl (k := 0) rfl rfl (by decide) rfl (fun ls hl => ?_)
    refine lv_goto (tgt := 35) hx hb dX7_runsTo_221 (by decide) ?_
    exact hk35 y2 (y3 + (1 : Int32)) zN _ _ _ h hP hD hS hl
  have g216 : ∀ (k2 : (Int32) → (CS) → Prop), (∀ (y2 : Int32) (zN : CS) (H : Heap) (locs : List Loc) (ls : Array Slot), k2 y2 zN → va_P D vwCl (wN cI aN zN) H → va_D A (wN cI aN zN) → va_S A s.heap H locs → lv_has ls 5 [(2, .int y2), (0, .ref (aN 0)), (1, .int x1)] → W p l e ({ frames := 1, cells := 0, slots := 0, locals := 21 } : Room) s m ([.ref (aN 0), .int x1] : List Value).toArray below meth c H locs 0 0 (MQ below (va_Qv post (xB D cI cO A (w_X7_runsTo cI cO aN)) A) ([.ref (aN 0), .int x1] : List Value).toArray s 0 0 A) (F0 m 2 ls [])) → ∀ (k35 : (Int32) → (Int32) → (CS) → Prop), (∀ (y2 : Int32) (y3 : Int32) (zN : CS) (H : Heap) (locs : List Loc) (ls : Array Slot), k35 y2 y3 zN → va_P D vwCl (wN cI aN zN) H → va_D A (wN cI aN zN) → va_S A s.heap H locs → lv_has ls 5 [(3, .int y3), (2, .int y2), (0, .ref (aN 0)), (1, .int x1)] → W p l e ({ frames := 1, cells := 0, slots := 0, locals := 21 } : Room) s m ([.ref (aN 0), .int x1] : List Value).toArray below meth c H locs 0 0 (MQ below (va_Qv post (xB D cI cO A (w_X7_runsTo cI cO aN)) A) ([.ref (aN 0), .int x1] : List Value).toArray s 0 0 A) (F0 m 35 ls [])) → ∀ (y2 : Int32) (y3 : Int32) (y4 : Int32) (w1 : Int32) (w2 : Int32) (w3 : Int32) (zN : CS) (H : Heap) (locs : List Loc) (ls : Array Slot), qX7_runsTo_216 post x1 k2 k35 y2 y3 y4 w1 w2 w3 zN → va_P D vwCl (wN cI aN zN) H → va_D A (wN cI aN zN) → va_S A s.heap H locs → lv_has ls 5 [(4, .int y4), (3, .int y3), (2, .int y2), (0, .ref (aN 0)), (1, .int x1)] → W p l e ({ frames := 1, cells := 0, slots := 0, locals := 21 } : Room) s m ([.ref (aN 0), .int x1] : List Value).toArray below meth c H locs 0 0 (MQ below (va_Qv post (xB D cI cO A (w_X7_runsTo cI cO aN)) A) ([.ref (aN 0), .int x1] : List Value).toArray s 0 0 A) (F0 m 216 ls [.int w3, .int w2, .int w1, .ref (aN 7)]) := by
    intro k2 hk2 k35 hk35 y2 y3 y4 w1 w2 w3 zN H locs ls h hP hD hS hl
    refine lv_iadd hx hb dX7_runsTo_216 ?_
    obtain ⟨hi, h⟩ := h
    refine va_iast hx hb hK hP hD hS 7 0 rfl rfl hi dX7_runsTo_217 (fun H locs hP hD hS => ?_)
    have hP : va_P D vwCl (wN cI aN (st zN 6 w1.toNatClampNeg (w2 + w3))) H := hP
    have hD : va_D A (wN cI aN (st zN 6 w1.toNatClampNeg (w2 + w3))) := hD
    exact g218 k2 hk2 k35 hk35 y2 y3 (st zN 6 w1.toNatClampNeg (w2 + w3)) _ _ _ h hP hD hS (lv_sub hl [1, 2, 3, 4] rfl)
  have g204 : ∀ (k2 : (Int32) → (CS) → Prop), (∀ (y2 : Int32) (zN : CS) (H : Heap) (locs : List Loc) (ls : Array Slot), k2 y2 zN → va_P D vwCl (wN cI aN zN) H → va_D A (wN cI aN zN) → va_S A s.heap H locs → lv_has ls 5 [(2, .int y2), (0, .ref (aN 0)), (1, .int x1)] → W p l e ({ frames := 1, cells := 0, slots := 0, locals := 21 } : Room) s m ([.ref (aN 0), .int x1] : List Value).toArray below meth c H locs 0 0 (MQ below (va_Qv post (xB D cI cO A (w_X7_runsTo cI cO aN)) A) ([.ref (aN 0), .int x1] : List Value).toArray s 0 0 A) (F0 m 2 ls [])) → ∀ (k35 : (Int32) → (Int32) → (CS) → Prop), (∀ (y2 : Int32) (y3 : Int32) (zN : CS) (H : Heap) (locs : List Loc) (ls : Array Slot), k35 y2 y3 zN → va_P D vwCl (wN cI aN zN) H → va_D A (wN cI aN zN) → va_S A s.heap H locs → lv_has ls 5 [(3, .int y3), (2, .int y2), (0, .ref (aN 0)), (1, .int x1)] → W p l e ({ frames := 1, cells := 0, slots := 0, locals := 21 } : Room) s m ([.ref (aN 0), .int x1] : List Value).toArray below meth c H locs 0 0 (MQ below (va_Qv post (xB D cI cO A (w_X7_runsTo cI cO aN)) A) ([.ref (aN 0), .int x1] : List Value).toArray s 0 0 A) (F0 m 35 ls [])) → ∀ (y2 : Int32) (y3 : Int32) (y4 : Int32) (w1 : Int32) (w2 : Int32) (w3 : Int32) (w4 : Int32) (zN : CS) (H : Heap) (locs : List Loc) (ls : Array Slot), qX7_runsTo_204 post x1 k2 k35 y2 y3 y4 w1 w2 w3 w4 zN → va_P D vwCl (wN cI aN zN) H → va_D A (wN cI aN zN) → va_S A s.heap H locs → lv_has ls 5 [(4, .int y4), (3, .int y3), (2, .int y2), (0, .ref (aN 0)), (1, .int x1)] → W p l e ({ frames := 1, cells := 0, slots := 0, locals := 21 } : Room) s m ([.ref (aN 0), .int x1] : List Value).toArray below meth c H locs 0 0 (MQ below (va_Qv post (xB D cI cO A (w_X7_runsTo cI cO aN)) A) ([.ref (aN 0), .int x1] : List Value).toArray s 0 0 A) (F0 m 204 ls [.int w4, .int w3, .int w2, .int w1, .ref (aN 7)]) := by
    intro k2 hk2 k35 hk35 y2 y3 y4 w1 w2 w3 w4 zN H locs ls h hP hD hS hl
    refine xcalli (wr := (wN cI aN zN)) (w2 := fun (u204 : Unit) => (wN cI aN zN)) (va_runS (As := [.int w3, .int w4]) (rest := [.int w2, .int w1, .ref (aN 7)]) ⟨hx, hb, hml, hown, hts⟩ (mX7_isFulfilled l D cI cO tA tS w3 w4 _ h) (va_cwS 2 hts gX7_runsTo_X7_isFulfilled rfl rfl rfl (by decide +kernel) ⟨Nat.le_of_ble_eq_true rfl, Nat.le_of_ble_eq_true rfl⟩) (xpreP hP hD hS hA hK hE [] rfl rfl) rfl rfl hl.1 rfl (lv_room (Nat.le_of_ble_eq_true rfl)) dX7_runsTo_204 ⟨Nat.le_refl 0, Nat.le_refl 0⟩) hP hD hS hA [] [0, 1, 2, 3, 4, 5, 6, 7, 8, 9, 10, 11] [0, 1, 2, 3, 4, 5, 6, 7, 8, 9, 10, 11] rfl rfl rfl (by decide) rfl (fun _ => rfl) (fun r204 u204 H locs h hP hD hS => ?_)
    obtain ⟨hh1, hh2⟩ := h
    refine lv_if_eq (tgt := 215) hx hb dX7_runsTo_207 (by decide) (fun hc => ?_) (fun hc => ?_)
    · have h := hh1 hc
      refine lv_iconst (v := 0) hx hb dX7_runsTo_215 (by decide) ?_
      exact g216 k2 hk2 k35 hk35 y2 y3 y4 w1 w2 (0 : Int32) zN _ _ _ h hP hD hS hl
    · have h := hh2 hc
      refine lv_iload hx hb dX7_runsTo_210 (lv_at hl 0 rfl) ?_
      refine lv_goto (tgt := 216) hx hb dX7_runsTo_212 (by decide) ?_
      exact g216 k2 hk2 k35 hk35 y2 y3 y4 w1 w2 y4 zN _ _ _ h hP hD hS hl
  have g150 : ∀ (k2 : (Int32) → (CS) → Prop), (∀ (y2 : Int32) (zN : CS) (H : Heap) (locs : List Loc) (ls : Array Slot), k2 y2 zN → va_P D vwCl (wN cI aN zN) H → va_D A (wN cI aN zN) → va_S A s.heap H locs → lv_has ls 5 [(2, .int y2), (0, .ref (aN 0)), (1, .int x1)] → W p l e ({ frames := 1, cells := 0, slots := 0, locals := 21 } : Room) s m ([.ref (aN 0), .int x1] : List Value).toArray below meth c H locs 0 0 (MQ below (va_Qv post (xB D cI cO A (w_X7_runsTo cI cO aN)) A) ([.ref (aN 0), .int x1] : List Value).toArray s 0 0 A) (F0 m 2 ls [])) → ∀ (k35 : (Int32) → (Int32) → (CS) → Prop), (∀ (y2 : Int32) (y3 : Int32) (zN : CS) (H : Heap) (locs : List Loc) (ls : Array Slot), k35 y2 y3 zN → va_P D vwCl (wN cI aN zN) H → va_D A (wN cI aN zN) → va_S A s.heap H locs → lv_has ls 5 [(3, .int y3), (2, .int y2), (0, .ref (aN 0)), (1, .int x1)] → W p l e ({ frames := 1, cells := 0, slots := 0, locals := 21 } : Room) s m ([.ref (aN 0), .int x1] : List Value).toArray below meth c H locs 0 0 (MQ below (va_Qv post (xB D cI cO A (w_X7_runsTo cI cO aN)) A) ([.ref (aN 0), .int x1] : List Value).toArray s 0 0 A) (F0 m 35 ls [])) → ∀ (y2 : Int32) (y3 : Int32) (y4 : Int32) (w0 : Int32) (w1 : Int32) (zN : CS) (H : Heap) (locs : List Loc) (ls : Array Slot), qX7_runsTo_150 post x1 k2 k35 y2 y3 y4 w0 w1 zN → va_P D vwCl (wN cI aN zN) H → va_D A (wN cI aN zN) → va_S A s.heap H locs → lv_has ls 5 [(4, .int y4), (3, .int y3), (2, .int y2), (0, .ref (aN 0)), (1, .int x1)] → W p l e ({ frames := 1, cells := 0, slots := 0, locals := 21 } : Room) s m ([.ref (aN 0), .int x1] : List Value).toArray below meth c H locs 0 0 (MQ below (va_Qv post (xB D cI cO A (w_X7_runsTo cI cO aN)) A) ([.ref (aN 0), .int x1] : List Value).toArray s 0 0 A) (F0 m 150 ls [.int w1, .int w0]) := by
    intro k2 hk2 k35 hk35 y2 y3 y4 w0 w1 zN H locs ls h hP hD hS hl
    refine lv_imul hx hb dX7_runsTo_150 ?_
    refine lv_istore (lv' := [(4, .int (w0 * w1)), (3, .int y3), (2, .int y2), (0, .ref (aN 0)), (1, .int x1)]) hx hb dX7_runsTo_151 hl (by decide) rfl (fun ls hl => ?_)
    refine lv_aload_n hx hb dX7_runsTo_153 rfl (lv_at hl 3 rfl) ?_
    refine va_get (D := D) (ci := 7) (v := .ref (aN 7)) (C := RX7) (T := TX7) (N := 14) hx hb hts jX7_runsTo_X7 hown hK hP 0 rfl rfl 7 (by decide) (hts (.fieldLink RX7 28 "BrotherAutomataModel" "runs" "[I") (List.mem_of_getElem? (i := 1) rfl)) (fun _ h9 => h9) rfl dX7_runsTo_154 ?_
    refine lv_bipush (v := 6) hx hb dX7_runsTo_157 (by decide) ?_
    refine lv_iload_n hx hb dX7_runsTo_159 rfl (lv_at hl 2 rfl) ?_
    refine lv_imul hx hb dX7_runsTo_160 ?_
    refine lv_aload_n hx hb dX7_runsTo_161 rfl (lv_at hl 3 rfl) ?_
    refine va_get (D := D) (ci := 7) (v := .ref (aN 8)) (C := RX7) (T := TX7) (N := 14) hx hb hts jX7_runsTo_X7 hown hK hP 0 rfl rfl 9 (by decide) (hts (.fieldLink RX7 35 "BrotherAutomataModel" "now" "[I") (List.mem_of_getElem? (i := 2) rfl)) (fun _ h9 => h9) rfl dX7_runsTo_162 ?_
    refine lv_iconst (v := 5) hx hb dX7_runsTo_165 (by decide) ?_
    refine lv_iload_n hx hb dX7_runsTo_166 rfl (lv_at hl 1 rfl) ?_
    refine lv_imul hx hb dX7_runsTo_167 ?_
    refine lv_iconst (v := 4) hx hb dX7_runsTo_168 (by decide) ?_
    refine lv_iadd hx hb dX7_runsTo_169 ?_
    obtain ⟨hi, h⟩ := h
    refine va_iald hx hb hK hP 8 0 rfl rfl hi dX7_runsTo_170 ?_
    refine lv_iadd hx hb dX7_runsTo_171 ?_
    refine lv_dup2_11 hx hb dX7_runsTo_172 rfl rfl ?_
    obtain ⟨hi, h⟩ := h
    refine va_iald hx hb hK hP 7 0 rfl rfl hi dX7_runsTo_173 ?_
    refine lv_aload_n hx hb dX7_runsTo_174 rfl (lv_at hl 3 rfl) ?_
    refine va_get (D := D) (ci := 7) (v := .ref (aN 8)) (C := RX7) (T := TX7) (N := 14) hx hb hts jX7_runsTo_X7 hown hK hP 0 rfl rfl 9 (by decide) (hts (.fieldLink RX7 35 "BrotherAutomataModel" "now" "[I") (List.mem_of_getElem? (i := 2) rfl)) (fun _ h9 => h9) rfl dX7_runsTo_175 ?_
    refine lv_iconst (v := 5) hx hb dX7_runsTo_178 (by decide) ?_
    refine lv_iload_n hx hb dX7_runsTo_179 rfl (lv_at hl 1 rfl) ?_
    refine lv_imul hx hb dX7_runsTo_180 ?_
    refine lv_iconst (v := 3) hx hb dX7_runsTo_181 (by decide) ?_
    refine lv_iadd hx hb dX7_runsTo_182 ?_
    obtain ⟨hi, h⟩ := h
    refine va_iald hx hb hK hP 8 0 rfl rfl hi dX7_runsTo_183 ?_
    refine lv_aload_n hx hb dX7_runsTo_184 rfl (lv_at hl 3 rfl) ?_
    refine va_get (D := D) (ci := 7) (v := .ref (aN 2)) (C := RX7) (T := TX7) (N := 14) hx hb hts jX7_runsTo_X7 hown hK hP 0 rfl rfl 2 (by decide) (hts (.fieldLink RX7 13 "BrotherAutomataModel" "first" "[I") (List.mem_of_getElem? (i := 4) rfl)) (fun _ h9 => h9) rfl dX7_runsTo_185 ?_
    refine lv_iload_n hx hb dX7_runsTo_188 rfl (lv_at hl 2 rfl) ?_
    obtain ⟨hi, h⟩ := h
    refine va_iald hx hb hK hP 2 0 rfl rfl hi dX7_runsTo_189 ?_
    refine lv_aload_n hx hb dX7_runsTo_190 rfl (lv_at hl 3 rfl) ?_
    refine va_get (D := D) (ci := 7) (v := .ref (aN 3)) (C := RX7) (T := TX7) (N := 14) hx hb hts jX7_runsTo_X7 hown hK hP 0 rfl rfl 3 (by decide) (hts (.fieldLink RX7 16 "BrotherAutomataModel" "second" "[I") (List.mem_of_getElem? (i := 5) rfl)) (fun _ h9 => h9) rfl dX7_runsTo_191 ?_
    refine lv_iload_n hx hb dX7_runsTo_194 rfl (lv_at hl 2 rfl) ?_
    obtain ⟨hi, h⟩ := h
    refine va_iald hx hb hK hP 3 0 rfl rfl hi dX7_runsTo_195 ?_
    obtain ⟨hh1, hh2⟩ := h
    refine lv_icmp_ne (tgt := 203) hx hb dX7_runsTo_196 (by decide) (fun hc => ?_) (fun hc => ?_)
    · have h := hh2 hc
      refine lv_iconst (v := 0) hx hb dX7_runsTo_203 (by decide) ?_
      exact g204 k2 hk2 k35 hk35 y2 y3 (w0 * w1) (((6 : Int32) * y2) + ((zN 7) (((5 : Int32) * y3) + (4 : Int32)).toNatClampNeg)) ((zN 6) (((6 : Int32) * y2) + ((zN 7) (((5 : Int32) * y3) + (4 : Int32)).toNatClampNeg)).toNatClampNeg) ((zN 7) (((5 : Int32) * y3) + (3 : Int32)).toNatClampNeg) (0 : Int32) zN _ _ _ h hP hD hS hl
    · have h := hh1 hc
      refine lv_iconst (v := 1) hx hb dX7_runsTo_199 (by decide) ?_
      refine lv_goto (tgt := 204) hx hb dX7_runsTo_200 (by decide) ?_
      exact g204 k2 hk2 k35 hk35 y2 y3 (w0 * w1) (((6 : Int32) * y2) + ((zN 7) (((5 : Int32) * y3) + (4 : Int32)).toNatClampNeg)) ((zN 6) (((6 : Int32) * y2) + ((zN 7) (((5 : Int32) * y3) + (4 : Int32)).toNatClampNeg)).toNatClampNeg) ((zN 7) (((5 : Int32) * y3) + (3 : Int32)).toNatClampNeg) (1 : Int32) zN _ _ _ h hP hD hS hl
  have g104 : ∀ (k2 : (Int32) → (CS) → Prop), (∀ (y2 : Int32) (zN : CS) (H : Heap) (locs : List Loc) (ls : Array Slot), k2 y2 zN → va_P D vwCl (wN cI aN zN) H → va_D A (wN cI aN zN) → va_S A s.heap H locs → lv_has ls 5 [(2, .int y2), (0, .ref (aN 0)), (1, .int x1)] → W p l e ({ frames := 1, cells := 0, slots := 0, locals := 21 } : Room) s m ([.ref (aN 0), .int x1] : List Value).toArray below meth c H locs 0 0 (MQ below (va_Qv post (xB D cI cO A (w_X7_runsTo cI cO aN)) A) ([.ref (aN 0), .int x1] : List Value).toArray s 0 0 A) (F0 m 2 ls [])) → ∀ (k35 : (Int32) → (Int32) → (CS) → Prop), (∀ (y2 : Int32) (y3 : Int32) (zN : CS) (H : Heap) (locs : List Loc) (ls : Array Slot), k35 y2 y3 zN → va_P D vwCl (wN cI aN zN) H → va_D A (wN cI aN zN) → va_S A s.heap H locs → lv_has ls 5 [(3, .int y3), (2, .int y2), (0, .ref (aN 0)), (1, .int x1)] → W p l e ({ frames := 1, cells := 0, slots := 0, locals := 21 } : Room) s m ([.ref (aN 0), .int x1] : List Value).toArray below meth c H locs 0 0 (MQ below (va_Qv post (xB D cI cO A (w_X7_runsTo cI cO aN)) A) ([.ref (aN 0), .int x1] : List Value).toArray s 0 0 A) (F0 m 35 ls [])) → ∀ (y2 : Int32) (y3 : Int32) (w0 : Int32) (zN : CS) (H : Heap) (locs : List Loc) (ls : Array Slot), qX7_runsTo_104 post x1 k2 k35 y2 y3 w0 zN → va_P D vwCl (wN cI aN zN) H → va_D A (wN cI aN zN) → va_S A s.heap H locs → lv_has ls 5 [(3, .int y3), (2, .int y2), (0, .ref (aN 0)), (1, .int x1)] → W p l e ({ frames := 1, cells := 0, slots := 0, locals := 21 } : Room) s m ([.ref (aN 0), .int x1] : List Value).toArray below meth c H locs 0 0 (MQ below (va_Qv post (xB D cI cO A (w_X7_runsTo cI cO aN)) A) ([.ref (aN 0), .int x1] : List Value).toArray s 0 0 A) (F0 m 104 ls [.int w0]) := by
    intro k2 hk2 k35 hk35 y2 y3 w0 zN H locs ls h hP hD hS hl
    refine lv_istore (lv' := [(4, .int w0), (3, .int y3), (2, .int y2), (0, .ref (aN 0)), (1, .int x1)]) hx hb dX7_runsTo_104 hl (by decide) rfl (fun ls hl => ?_)
    refine lv_iload hx hb dX7_runsTo_106 (lv_at hl 0 rfl) ?_
    refine lv_aload_n hx hb dX7_runsTo_108 rfl (lv_at hl 3 rfl) ?_
    refine va_get (D := D) (ci := 7) (v := .ref (aN 1)) (C := RX7) (T := TX7) (N := 14) hx hb hts jX7_runsTo_X7 hown hK hP 0 rfl rfl 1 (by decide) (hts (.fieldLink RX7 7 "BrotherAutomataModel" "symbol" "[I") (List.mem_of_getElem? (i := 3) rfl)) (fun _ h9 => h9) rfl dX7_runsTo_109 ?_
    refine lv_iload_n hx hb dX7_runsTo_112 rfl (lv_at hl 2 rfl) ?_
    obtain ⟨hi, h⟩ := h
    refine va_iald hx hb hK hP 1 0 rfl rfl hi dX7_runsTo_113 ?_
    refine xcalli (wr := (wN cI aN zN)) (w2 := fun (u114 : Unit) => (wN cI aN zN)) (va_runS (As := [.int ((zN 0) y2.toNatClampNeg)]) (rest := [.int w0]) ⟨hx, hb, hml, hown, hts⟩ (mX7_arity l D cI cO tA tS ((zN 0) y2.toNatClampNeg) _ h) (va_cwS 1 hts gX7_runsTo_X7_arity rfl rfl rfl (by decide +kernel) ⟨Nat.le_of_ble_eq_true rfl, Nat.le_of_ble_eq_true rfl⟩) (xpreP hP hD hS hA hK hE [] rfl rfl) rfl rfl hl.1 rfl (lv_room (Nat.le_of_ble_eq_true rfl)) dX7_runsTo_114 ⟨Nat.le_refl 0, Nat.le_refl 0⟩) hP hD hS hA [] [0, 1, 2, 3, 4, 5, 6, 7, 8, 9, 10, 11] [0, 1, 2, 3, 4, 5, 6, 7, 8, 9, 10, 11] rfl rfl rfl (by decide) rfl (fun _ => rfl) (fun r114 u114 H locs h hP hD hS => ?_)
    refine lv_iconst (v := 1) hx hb dX7_runsTo_117 (by decide) ?_
    obtain ⟨hh1, hh2⟩ := h
    refine lv_icmp_le (tgt := 149) hx hb dX7_runsTo_118 (by decide) (fun hc => ?_) (fun hc => ?_)
    · have h := hh1 hc
      refine lv_iconst (v := 1) hx hb dX7_runsTo_149 (by decide) ?_
      exact g150 k2 hk2 k35 hk35 y2 y3 w0 w0 (1 : Int32) zN _ _ _ h hP hD hS hl
    · have h := hh2 hc
      refine lv_aload_n hx hb dX7_runsTo_121 rfl (lv_at hl 3 rfl) ?_
      refine va_get (D := D) (ci := 7) (v := .ref (aN 7)) (C := RX7) (T := TX7) (N := 14) hx hb hts jX7_runsTo_X7 hown hK hP 0 rfl rfl 7 (by decide) (hts (.fieldLink RX7 28 "BrotherAutomataModel" "runs" "[I") (List.mem_of_getElem? (i := 1) rfl)) (fun _ h9 => h9) rfl dX7_runsTo_122 ?_
      refine lv_bipush (v := 6) hx hb dX7_runsTo_125 (by decide) ?_
      refine lv_aload_n hx hb dX7_runsTo_127 rfl (lv_at hl 3 rfl) ?_
      refine va_get (D := D) (ci := 7) (v := .ref (aN 3)) (C := RX7) (T := TX7) (N := 14) hx hb hts jX7_runsTo_X7 hown hK hP 0 rfl rfl 3 (by decide) (hts (.fieldLink RX7 16 "BrotherAutomataModel" "second" "[I") (List.mem_of_getElem? (i := 5) rfl)) (fun _ h9 => h9) rfl dX7_runsTo_128 ?_
      refine lv_iload_n hx hb dX7_runsTo_131 rfl (lv_at hl 2 rfl) ?_
      obtain ⟨hi, h⟩ := h
      refine va_iald hx hb hK hP 3 0 rfl rfl hi dX7_runsTo_132 ?_
      refine lv_imul hx hb dX7_runsTo_133 ?_
      refine lv_aload_n hx hb dX7_runsTo_134 rfl (lv_at hl 3 rfl) ?_
      refine va_get (D := D) (ci := 7) (v := .ref (aN 8)) (C := RX7) (T := TX7) (N := 14) hx hb hts jX7_runsTo_X7 hown hK hP 0 rfl rfl 9 (by decide) (hts (.fieldLink RX7 35 "BrotherAutomataModel" "now" "[I") (List.mem_of_getElem? (i := 2) rfl)) (fun _ h9 => h9) rfl dX7_runsTo_135 ?_
      refine lv_iconst (v := 5) hx hb dX7_runsTo_138 (by decide) ?_
      refine lv_iload_n hx hb dX7_runsTo_139 rfl (lv_at hl 1 rfl) ?_
      refine lv_imul hx hb dX7_runsTo_140 ?_
      refine lv_iconst (v := 2) hx hb dX7_runsTo_141 (by decide) ?_
      refine lv_iadd hx hb dX7_runsTo_142 ?_
      obtain ⟨hi, h⟩ := h
      refine va_iald hx hb hK hP 8 0 rfl rfl hi dX7_runsTo_143 ?_
      refine lv_iadd hx hb dX7_runsTo_144 ?_
      obtain ⟨hi, h⟩ := h
      refine va_iald hx hb hK hP 7 0 rfl rfl hi dX7_runsTo_145 ?_
      refine lv_goto (tgt := 150) hx hb dX7_runsTo_146 (by decide) ?_
      exact g150 k2 hk2 k35 hk35 y2 y3 w0 w0 ((zN 6) (((6 : Int32) * ((zN 2) y2.toNatClampNeg)) + ((zN 7) (((5 : Int32) * y3) + (2 : Int32)).toNatClampNeg)).toNatClampNeg) zN _ _ _ h hP hD hS hl
  have g35 : ∀ (k2 : (Int32) → (CS) → Prop), (∀ (y2 : Int32) (zN : CS) (H : Heap) (locs : List Loc) (ls : Array Slot), k2 y2 zN → va_P D vwCl (wN cI aN zN) H → va_D A (wN cI aN zN) → va_S A s.heap H locs → lv_has ls 5 [(2, .int y2), (0, .ref (aN 0)), (1, .int x1)] → W p l e ({ frames := 1, cells := 0, slots := 0, locals := 21 } : Room) s m ([.ref (aN 0), .int x1] : List Value).toArray below meth c H locs 0 0 (MQ below (va_Qv post (xB D cI cO A (w_X7_runsTo cI cO aN)) A) ([.ref (aN 0), .int x1] : List Value).toArray s 0 0 A) (F0 m 2 ls [])) → ∀ (n : Nat) (y2 : Int32) (y3 : Int32) (zN : CS) (H : Heap) (locs : List Loc) (ls : Array Slot), qX7_runsTo_35 post x1 k2 n y2 y3 zN → va_P D vwCl (wN cI aN zN) H → va_D A (wN cI aN zN) → va_S A s.heap H locs → lv_has ls 5 [(3, .int y3), (2, .int y2), (0, .ref (aN 0)), (1, .int x1)] → W p l e ({ frames := 1, cells := 0, slots := 0, locals := 21 } : Room) s m ([.ref (aN 0), .int x1] : List Value).toArray below meth c H locs 0 0 (MQ below (va_Qv post (xB D cI cO A (w_X7_runsTo cI cO aN)) A) ([.ref (aN 0), .int x1] : List Value).toArray s 0 0 A) (F0 m 35 ls []) := by
    intro k2 hk2 n
    induction n with
    | zero => intro y2 y3 zN H locs ls h; exact False.elim h
    | succ n hk35 =>
      intro y2 y3 zN H locs ls h hP hD hS hl
      have h : qX7_runsTo_35b post x1 k2 (qX7_runsTo_35 post x1 k2 n) y2 y3 zN := h
      refine lv_iload_n hx hb dX7_runsTo_35 rfl (lv_at hl 0 rfl) ?_
      refine lv_aload_n hx hb dX7_runsTo_36 rfl (lv_at hl 2 rfl) ?_
      refine va_get (D := D) (ci := 7) (v := .ref (aN 8)) (C := RX7) (T := TX7) (N := 14) hx hb hts jX7_runsTo_X7 hown hK hP 0 rfl rfl 9 (by decide) (hts (.fieldLink RX7 35 "BrotherAutomataModel" "now" "[I") (List.mem_of_getElem? (i := 2) rfl)) (fun _ h9 => h9) rfl dX7_runsTo_37 ?_
      refine lv_bipush (v := 80) hx hb dX7_runsTo_40 (by decide) ?_
      obtain ⟨hi, h⟩ := h
      refine va_iald hx hb hK hP 8 0 rfl rfl hi dX7_runsTo_42 ?_
      obtain ⟨hh1, hh2⟩ := h
      refine lv_icmp_ge (tgt := 224) hx hb dX7_runsTo_43 (by decide) (fun hc => ?_) (fun hc => ?_)
      · have h := hh1 hc
        refine lv_iinc (v := (y2 + (1 : Int32))) (lv' := [(2, .int (y2 + (1 : Int32))), (3, .int y3), (0, .ref (aN 0)), (1, .int x1)]) hx hb dX7_runsTo_224 hl (k := 1) rfl rfl (by decide) rfl (fun ls hl => ?_)
        refine lv_goto (tgt := 2) hx hb dX7_runsTo_227 (by decide) ?_
        exact hk2 (y2 + (1 : Int32)) zN _ _ _ h hP hD hS (lv_sub hl [0, 2, 3] rfl)
      · have h := hh2 hc
        refine lv_aload_n hx hb dX7_runsTo_46 rfl (lv_at hl 2 rfl) ?_
        refine va_get (D := D) (ci := 7) (v := .ref (aN 8)) (C := RX7) (T := TX7) (N := 14) hx hb hts jX7_runsTo_X7 hown hK hP 0 rfl rfl 9 (by decide) (hts (.fieldLink RX7 35 "BrotherAutomataModel" "now" "[I") (List.mem_of_getElem? (i := 2) rfl)) (fun _ h9 => h9) rfl dX7_runsTo_47 ?_
        refine lv_iconst (v := 5) hx hb dX7_runsTo_50 (by decide) ?_
        refine lv_iload_n hx hb dX7_runsTo_51 rfl (lv_at hl 0 rfl) ?_
        refine lv_imul hx hb dX7_runsTo_52 ?_
        obtain ⟨hi, h⟩ := h
        refine va_iald hx hb hK hP 8 0 rfl rfl hi dX7_runsTo_53 ?_
        refine lv_aload_n hx hb dX7_runsTo_54 rfl (lv_at hl 2 rfl) ?_
        refine va_get (D := D) (ci := 7) (v := .ref (aN 1)) (C := RX7) (T := TX7) (N := 14) hx hb hts jX7_runsTo_X7 hown hK hP 0 rfl rfl 1 (by decide) (hts (.fieldLink RX7 7 "BrotherAutomataModel" "symbol" "[I") (List.mem_of_getElem? (i := 3) rfl)) (fun _ h9 => h9) rfl dX7_runsTo_55 ?_
        refine lv_iload_n hx hb dX7_runsTo_58 rfl (lv_at hl 1 rfl) ?_
        obtain ⟨hi, h⟩ := h
        refine va_iald hx hb hK hP 1 0 rfl rfl hi dX7_runsTo_59 ?_
        obtain ⟨hh1, hh2⟩ := h
        refine lv_icmp_ne (tgt := 218) hx hb dX7_runsTo_60 (by decide) (fun hc => ?_) (fun hc => ?_)
        · have h := hh2 hc
          exact g218 k2 hk2 (qX7_runsTo_35 post x1 k2 n) hk35 y2 y3 zN _ _ _ h hP hD hS hl
        · have h := hh1 hc
          refine lv_aload_n hx hb dX7_runsTo_63 rfl (lv_at hl 2 rfl) ?_
          refine va_get (D := D) (ci := 7) (v := .ref (aN 1)) (C := RX7) (T := TX7) (N := 14) hx hb hts jX7_runsTo_X7 hown hK hP 0 rfl rfl 1 (by decide) (hts (.fieldLink RX7 7 "BrotherAutomataModel" "symbol" "[I") (List.mem_of_getElem? (i := 3) rfl)) (fun _ h9 => h9) rfl dX7_runsTo_64 ?_
          refine lv_iload_n hx hb dX7_runsTo_67 rfl (lv_at hl 1 rfl) ?_
          obtain ⟨hi, h⟩ := h
          refine va_iald hx hb hK hP 1 0 rfl rfl hi dX7_runsTo_68 ?_
          refine xcalli (wr := (wN cI aN zN)) (w2 := fun (u69 : Unit) => (wN cI aN zN)) (va_runS (As := [.int ((zN 0) y2.toNatClampNeg)]) (rest := []) ⟨hx, hb, hml, hown, hts⟩ (mX7_arity l D cI cO tA tS ((zN 0) y2.toNatClampNeg) _ h) (va_cwS 1 hts gX7_runsTo_X7_arity rfl rfl rfl (by decide +kernel) ⟨Nat.le_of_ble_eq_true rfl, Nat.le_of_ble_eq_true rfl⟩) (xpreP hP hD hS hA hK hE [] rfl rfl) rfl rfl hl.1 rfl (lv_room (Nat.le_of_ble_eq_true rfl)) dX7_runsTo_69 ⟨Nat.le_refl 0, Nat.le_refl 0⟩) hP hD hS hA [] [0, 1, 2, 3, 4, 5, 6, 7, 8, 9, 10, 11] [0, 1, 2, 3, 4, 5, 6, 7, 8, 9, 10, 11] rfl rfl rfl (by decide) rfl (fun _ => rfl) (fun r69 u69 H locs h hP hD hS => ?_)
          obtain ⟨hh1, hh2⟩ := h
          refine lv_if_le (tgt := 103) hx hb dX7_runsTo_72 (by decide) (fun hc => ?_) (fun hc => ?_)
          · have h := hh1 hc
            refine lv_iconst (v := 1) hx hb dX7_runsTo_103 (by decide) ?_
            exact g104 k2 hk2 (qX7_runsTo_35 post x1 k2 n) hk35 y2 y3 (1 : Int32) zN _ _ _ h hP hD hS hl
          · have h := hh2 hc
            refine lv_aload_n hx hb dX7_runsTo_75 rfl (lv_at hl 2 rfl) ?_
            refine va_get (D := D) (ci := 7) (v := .ref (aN 7)) (C := RX7) (T := TX7) (N := 14) hx hb hts jX7_runsTo_X7 hown hK hP 0 rfl rfl 7 (by decide) (hts (.fieldLink RX7 28 "BrotherAutomataModel" "runs" "[I") (List.mem_of_getElem? (i := 1) rfl)) (fun _ h9 => h9) rfl dX7_runsTo_76 ?_
            refine lv_bipush (v := 6) hx hb dX7_runsTo_79 (by decide) ?_
            refine lv_aload_n hx hb dX7_runsTo_81 rfl (lv_at hl 2 rfl) ?_
            refine va_get (D := D) (ci := 7) (v := .ref (aN 2)) (C := RX7) (T := TX7) (N := 14) hx hb hts jX7_runsTo_X7 hown hK hP 0 rfl rfl 2 (by decide) (hts (.fieldLink RX7 13 "BrotherAutomataModel" "first" "[I") (List.mem_of_getElem? (i := 4) rfl)) (fun _ h9 => h9) rfl dX7_runsTo_82 ?_
            refine lv_iload_n hx hb dX7_runsTo_85 rfl (lv_at hl 1 rfl) ?_
            obtain ⟨hi, h⟩ := h
            refine va_iald hx hb hK hP 2 0 rfl rfl hi dX7_runsTo_86 ?_
            refine lv_imul hx hb dX7_runsTo_87 ?_
            refine lv_aload_n hx hb dX7_runsTo_88 rfl (lv_at hl 2 rfl) ?_
            refine va_get (D := D) (ci := 7) (v := .ref (aN 8)) (C := RX7) (T := TX7) (N := 14) hx hb hts jX7_runsTo_X7 hown hK hP 0 rfl rfl 9 (by decide) (hts (.fieldLink RX7 35 "BrotherAutomataModel" "now" "[I") (List.mem_of_getElem? (i := 2) rfl)) (fun _ h9 => h9) rfl dX7_runsTo_89 ?_
            refine lv_iconst (v := 5) hx hb dX7_runsTo_92 (by decide) ?_
            refine lv_iload_n hx hb dX7_runsTo_93 rfl (lv_at hl 0 rfl) ?_
            refine lv_imul hx hb dX7_runsTo_94 ?_
            refine lv_iconst (v := 1) hx hb dX7_runsTo_95 (by decide) ?_
            refine lv_iadd hx hb dX7_runsTo_96 ?_
            obtain ⟨hi, h⟩ := h
            refine va_iald hx hb hK hP 8 0 rfl rfl hi dX7_runsTo_97 ?_
            refine lv_iadd hx hb dX7_runsTo_98 ?_
            obtain ⟨hi, h⟩ := h
            refine va_iald hx hb hK hP 7 0 rfl rfl hi dX7_runsTo_99 ?_
            refine lv_goto (tgt := 104) hx hb dX7_runsTo_100 (by decide) ?_
            exact g104 k2 hk2 (qX7_runsTo_35 post x1 k2 n) hk35 y2 y3 ((zN 6) (((6 : Int32) * ((zN 1) y2.toNatClampNeg)) + ((zN 7) (((5 : Int32) * y3) + (1 : Int32)).toNatClampNeg)).toNatClampNeg) zN _ _ _ h hP hD hS hl
  have g9 : ∀ (k2 : (Int32) → (CS) → Prop), (∀ (y2 : Int32) (zN : CS) (H : Heap) (locs : List Loc) (ls : Array Slot), k2 y2 zN → va_P D vwCl (wN cI aN zN) H → va_D A (wN cI aN zN) → va_S A s.heap H locs → lv_has ls 5 [(2, .int y2), (0, .ref (aN 0)), (1, .int x1)] → W p l e ({ frames := 1, cells := 0, slots := 0, locals := 21 } : Room) s m ([.ref (aN 0), .int x1] : List Value).toArray below meth c H locs 0 0 (MQ below (va_Qv post (xB D cI cO A (w_X7_runsTo cI cO aN)) A) ([.ref (aN 0), .int x1] : List Value).toArray s 0 0 A) (F0 m 2 ls [])) → ∀ (n : Nat) (y2 : Int32) (y3 : Int32) (zN : CS) (H : Heap) (locs : List Loc) (ls : Array Slot), qX7_runsTo_9 post x1 k2 n y2 y3 zN → va_P D vwCl (wN cI aN zN) H → va_D A (wN cI aN zN) → va_S A s.heap H locs → lv_has ls 5 [(3, .int y3), (2, .int y2), (0, .ref (aN 0)), (1, .int x1)] → W p l e ({ frames := 1, cells := 0, slots := 0, locals := 21 } : Room) s m ([.ref (aN 0), .int x1] : List Value).toArray below meth c H locs 0 0 (MQ below (va_Qv post (xB D cI cO A (w_X7_runsTo cI cO aN)) A) ([.ref (aN 0), .int x1] : List Value).toArray s 0 0 A) (F0 m 9 ls []) := by
    intro k2 hk2 n
    induction n with
    | zero => intro y2 y3 zN H locs ls h; exact False.elim h
    | succ n hk9 =>
      intro y2 y3 zN H locs ls h hP hD hS hl
      have h : qX7_runsTo_9b post x1 k2 (qX7_runsTo_9 post x1 k2 n) y2 y3 zN := h
      refine lv_iload_n hx hb dX7_runsTo_9 rfl (lv_at hl 0 rfl) ?_
      refine lv_bipush (v := 6) hx hb dX7_runsTo_10 (by decide) ?_
      obtain ⟨hh1, hh2⟩ := h
      refine lv_icmp_ge (tgt := 33) hx hb dX7_runsTo_12 (by decide) (fun hc => ?_) (fun hc => ?_)
      · have h := hh1 hc
        refine lv_iconst (v := 0) hx hb dX7_runsTo_33 (by decide) ?_
        refine lv_istore_n (lv' := [(3, .int (0 : Int32)), (2, .int y2), (0, .ref (aN 0)), (1, .int x1)]) hx hb dX7_runsTo_34 rfl hl (by decide) rfl (fun ls hl => ?_)
        obtain ⟨n0, h⟩ := h
        exact g35 k2 hk2 n0 y2 (0 : Int32) zN _ _ _ h hP hD hS hl
      · have h := hh2 hc
        refine lv_aload_n hx hb dX7_runsTo_15 rfl (lv_at hl 2 rfl) ?_
        refine va_get (D := D) (ci := 7) (v := .ref (aN 7)) (C := RX7) (T := TX7) (N := 14) hx hb hts jX7_runsTo_X7 hown hK hP 0 rfl rfl 7 (by decide) (hts (.fieldLink RX7 28 "BrotherAutomataModel" "runs" "[I") (List.mem_of_getElem? (i := 1) rfl)) (fun _ h9 => h9) rfl dX7_runsTo_16 ?_
        refine lv_bipush (v := 6) hx hb dX7_runsTo_19 (by decide) ?_
        refine lv_iload_n hx hb dX7_runsTo_21 rfl (lv_at hl 1 rfl) ?_
        refine lv_imul hx hb dX7_runsTo_22 ?_
        refine lv_iload_n hx hb dX7_runsTo_23 rfl (lv_at hl 0 rfl) ?_
        refine lv_iadd hx hb dX7_runsTo_24 ?_
        refine lv_iconst (v := 0) hx hb dX7_runsTo_25 (by decide) ?_
        obtain ⟨hi, h⟩ := h
        refine va_iast hx hb hK hP hD hS 7 0 rfl rfl hi dX7_runsTo_26 (fun H locs hP hD hS => ?_)
        have hP : va_P D vwCl (wN cI aN (st zN 6 (((6 : Int32) * y2) + y3).toNatClampNeg (0 : Int32))) H := hP
        have hD : va_D A (wN cI aN (st zN 6 (((6 : Int32) * y2) + y3).toNatClampNeg (0 : Int32))) := hD
        refine lv_iinc (v := (y3 + (1 : Int32))) (lv' := [(3, .int (y3 + (1 : Int32))), (2, .int y2), (0, .ref (aN 0)), (1, .int x1)]) hx hb dX7_runsTo_27 hl (k := 0) rfl rfl (by decide) rfl (fun ls hl => ?_)
        refine lv_goto (tgt := 9) hx hb dX7_runsTo_30 (by decide) ?_
        exact hk9 y2 (y3 + (1 : Int32)) (st zN 6 (((6 : Int32) * y2) + y3).toNatClampNeg (0 : Int32)) _ _ _ h hP hD hS hl
  have g2 : ∀ (n : Nat) (y2 : Int32) (zN : CS) (H : Heap) (locs : List Loc) (ls : Array Slot), qX7_runsTo_2 post x1 n y2 zN → va_P D vwCl (wN cI aN zN) H → va_D A (wN cI aN zN) → va_S A s.heap H locs → lv_has ls 5 [(2, .int y2), (0, .ref (aN 0)), (1, .int x1)] → W p l e ({ frames := 1, cells := 0, slots := 0, locals := 21 } : Room) s m ([.ref (aN 0), .int x1] : List Value).toArray below meth c H locs 0 0 (MQ below (va_Qv post (xB D cI cO A (w_X7_runsTo cI cO aN)) A) ([.ref (aN 0), .int x1] : List Value).toArray s 0 0 A) (F0 m 2 ls []) := by
    intro n
    induction n with
    | zero => intro y2 zN H locs ls h; exact False.elim h
    | succ n hk2 =>
      intro y2 zN H locs ls h hP hD hS hl
      have h : qX7_runsTo_2b post x1 (qX7_runsTo_2 post x1 n) y2 zN := h
      refine lv_iload_n hx hb dX7_runsTo_2 rfl (lv_at hl 0 rfl) ?_
      refine lv_iload_n hx hb dX7_runsTo_3 rfl (lv_at hl 2 rfl) ?_
      obtain ⟨hh1, hh2⟩ := h
      refine lv_icmp_gt (tgt := 230) hx hb dX7_runsTo_4 (by decide) (fun hc => ?_) (fun hc => ?_)
      · have h := hh1 hc
        exact xvret (w := (w_X7_runsTo cI cO aN)) (zN) hx hb hr hlocks h hP hK hD hS dX7_runsTo_230
      · have h := hh2 hc
        refine lv_iconst (v := 0) hx hb dX7_runsTo_7 (by decide) ?_
        refine lv_istore_n (lv' := [(3, .int (0 : Int32)), (2, .int y2), (0, .ref (aN 0)), (1, .int x1)]) hx hb dX7_runsTo_8 rfl hl (by decide) rfl (fun ls hl => ?_)
        obtain ⟨n0, h⟩ := h
        exact g9 (qX7_runsTo_2 post x1 n) hk2 n0 y2 (0 : Int32) zN _ _ _ h hP hD hS hl
  refine lv_iconst (v := 0) hx hb dX7_runsTo_0 (by decide) ?_
  refine lv_istore_n (lv' := [(2, .int (0 : Int32)), (0, .ref (aN 0)), (1, .int x1)]) hx hb dX7_runsTo_1 rfl hl (by decide) rfl (fun ls hl => ?_)
  obtain ⟨n0, h⟩ := h
  exact g2 n0 (0 : Int32) zN _ _ _ h hP hD hS hl
theorem dX7_subset_0 : decode cX7_subset 0 = .ok (.iconst 0, 1) := by decide +kernel
theorem dX7_subset_1 : decode cX7_subset 1 = .ok (.istore_n 2, 1) := by decide +kernel
theorem dX7_subset_2 : decode cX7_subset 2 = .ok (.iconst 0, 1) := by decide +kernel
theorem dX7_subset_3 : decode cX7_subset 3 = .ok (.istore_n 3, 1) := by decide +kernel
theorem dX7_subset_4 : decode cX7_subset 4 = .ok (.iload_n 3, 1) := by decide +kernel
theorem dX7_subset_5 : decode cX7_subset 5 = .ok (.aload_n 0, 1) := by decide +kernel
theorem dX7_subset_6 : decode cX7_subset 6 = .ok (.getfield 31, 3) := by decide +kernel
theorem dX7_subset_9 : decode cX7_subset 9 = .ok (.if_icmp .ge 33, 3) := by decide +kernel
theorem dX7_subset_12 : decode cX7_subset 12 = .ok (.iload_n 2, 1) := by decide +kernel
theorem dX7_subset_13 : decode cX7_subset 13 = .ok (.aload_n 0, 1) := by decide +kernel
theorem dX7_subset_14 : decode cX7_subset 14 = .ok (.getfield 28, 3) := by decide +kernel
theorem dX7_subset_17 : decode cX7_subset 17 = .ok (.bipush 6, 2) := by decide +kernel
theorem dX7_subset_19 : decode cX7_subset 19 = .ok (.iload_n 1, 1) := by decide +kernel
theorem dX7_subset_20 : decode cX7_subset 20 = .ok (.imul, 1) := by decide +kernel
theorem dX7_subset_21 : decode cX7_subset 21 = .ok (.iload_n 3, 1) := by decide +kernel
theorem dX7_subset_22 : decode cX7_subset 22 = .ok (.iadd, 1) := by decide +kernel
theorem dX7_subset_23 : decode cX7_subset 23 = .ok (.iaload, 1) := by decide +kernel
theorem dX7_subset_24 : decode cX7_subset 24 = .ok (.ifCond .le 9, 3) := by decide +kernel
theorem dX7_subset_27 : decode cX7_subset 27 = .ok (.iconst 1, 1) := by decide +kernel
theorem dX7_subset_28 : decode cX7_subset 28 = .ok (.iload_n 3, 1) := by decide +kernel
theorem dX7_subset_29 : decode cX7_subset 29 = .ok (.ishl, 1) := by decide +kernel
theorem dX7_subset_30 : decode cX7_subset 30 = .ok (.goto 4, 3) := by decide +kernel
theorem dX7_subset_33 : decode cX7_subset 33 = .ok (.iconst 0, 1) := by decide +kernel
theorem dX7_subset_34 : decode cX7_subset 34 = .ok (.ior, 1) := by decide +kernel
theorem dX7_subset_35 : decode cX7_subset 35 = .ok (.istore_n 2, 1) := by decide +kernel
theorem dX7_subset_36 : decode cX7_subset 36 = .ok (.iinc 3 1, 3) := by decide +kernel
theorem dX7_subset_39 : decode cX7_subset 39 = .ok (.goto (-35), 3) := by decide +kernel
theorem dX7_subset_42 : decode cX7_subset 42 = .ok (.iload_n 2, 1) := by decide +kernel
theorem dX7_subset_43 : decode cX7_subset 43 = .ok (.ireturn, 1) := by decide +kernel
theorem jX7_subset_X7 : ∀ w ∈ wsX70, w ∈ wsX7_subset := by decide +kernel
abbrev w_X7_subset (cI cO : ClassId) (aN : Nat → Nat) (zN : CS) : (Unit) → va_W := fun u => (wN cI aN zN)
set_option maxRecDepth 100000 in
set_option maxHeartbeats 8000000 in
theorem mX7_subset (l : Launch) (D : va_G) (cI cO : ClassId) (tA tS : Nat) (aN : Nat → Nat) (zN : CS) (x1 : Int32) (sz : Nat) {post : Int32 → (Unit) → Prop} (h : qX7_subset post x1 zN) : Met l yX7_subset wsX7_subset ({ frames := 0, cells := 0, slots := 0, locals := 0 } : Room) (xPre D cI cO tA tS [.ref (aN 0), .int x1] (wN cI aN zN) sz) (va_Qi post (xB D cI cO (va_A (wN cI aN zN) sz) (w_X7_subset cI cO aN zN)) (va_A (wN cI aN zN) sz)) 0 0 (va_A (wN cI aN zN) sz) := by
  refine xMet D cI cO tA tS (fun A => va_Qi post (xB D cI cO A (w_X7_subset cI cO aN zN)) A) (cc := cX7_subset) (maxL := 4) (ret := (some .int)) (by decide) rfl (Nat.le_of_ble_eq_true rfl) ?_
  intro p e s m below meth c A ls hx hb hr hts hown hlocks hin hml hA hS hP hK hD hE hl
  have hown : s.vm.findClass RX7 = some m.cls := hown
  have hl : lv_has ls 4 [(0, .ref (aN 0)), (1, .int x1)] := hl
  have g34 : ∀ (k4 : (Int32) → (Int32) → Prop), (∀ (y2 : Int32) (y3 : Int32) (H : Heap) (locs : List Loc) (ls : Array Slot), k4 y2 y3 → va_P D vwCl (wN cI aN zN) H → va_D A (wN cI aN zN) → va_S A s.heap H locs → lv_has ls 4 [(3, .int y3), (2, .int y2), (0, .ref (aN 0)), (1, .int x1)] → W p l e ({ frames := 0, cells := 0, slots := 0, locals := 0 } : Room) s m ([.ref (aN 0), .int x1] : List Value).toArray below meth c H locs 0 0 (MQ below (va_Qi post (xB D cI cO A (w_X7_subset cI cO aN zN)) A) ([.ref (aN 0), .int x1] : List Value).toArray s 0 0 A) (F0 m 4 ls [])) → ∀ (y2 : Int32) (y3 : Int32) (w0 : Int32) (w1 : Int32) (H : Heap) (locs : List Loc) (ls : Array Slot), qX7_subset_34 post x1 zN k4 y2 y3 w0 w1 → va_P D vwCl (wN cI aN zN) H → va_D A (wN cI aN zN) → va_S A s.heap H locs → lv_has ls 4 [(3, .int y3), (2, .int y2), (0, .ref (aN 0)), (1, .int x1)] → W p l e ({ frames := 0, cells := 0, slots := 0, locals := 0 } : Room) s m ([.ref (aN 0), .int x1] : List Value).toArray below meth c H locs 0 0 (MQ below (va_Qi post (xB D cI cO A (w_X7_subset cI cO aN zN)) A) ([.ref (aN 0), .int x1] : List Value).toArray s 0 0 A) (F0 m 34 ls [.int w1, .int w0]) := by
    intro k4 hk4 y2 y3 w0 w1 H locs ls h hP hD hS hl
    refine lv_ior hx hb dX7_subset_34 ?_
    refine lv_istore_n (lv' := [(2, .int (w0 ||| w1)), (3, .int y3), (0, .ref (aN 0)), (1, .int x1)]) hx hb dX7_subset_35 rfl hl (by decide) rfl (fun ls hl => ?_)
    refine lv_iinc (v := (y3 + (1 : Int32))) (lv' := [(3, .int (y3 + (1 : Int32))), (2, .int (w0 ||| w1)), (0, .ref (aN 0)), (1, .int x1)]) hx hb dX7_subset_36 hl (k := 1) rfl rfl (by decide) rfl (fun ls hl => ?_)
    refine lv_goto (tgt := 4) hx hb dX7_subset_39 (by decide) ?_
    exact hk4 (w0 ||| w1) (y3 + (1 : Int32)) _ _ _ h hP hD hS hl
  have g4 : ∀ (n : Nat) (y2 : Int32) (y3 : Int32) (H : Heap) (locs : List Loc) (ls : Array Slot), qX7_subset_4 post x1 zN n y2 y3 → va_P D vwCl (wN cI aN zN) H → va_D A (wN cI aN zN) → va_S A s.heap H locs → lv_has ls 4 [(3, .int y3), (2, .int y2), (0, .ref (aN 0)), (1, .int x1)] → W p l e ({ frames := 0, cells := 0, slots := 0, locals := 0 } : Room) s m ([.ref (aN 0), .int x1] : List Value).toArray below meth c H locs 0 0 (MQ below (va_Qi post (xB D cI cO A (w_X7_subset cI cO aN zN)) A) ([.ref (aN 0), .int x1] : List Value).toArray s 0 0 A) (F0 m 4 ls []) := by
    intro n
    induction n with
    | zero => intro y2 y3 H locs ls h; exact False.elim h
    | succ n hk4 =>
      intro y2 y3 H locs ls h hP hD hS hl
      have h : qX7_subset_4b post x1 zN (qX7_subset_4 post x1 zN n) y2 y3 := h
      refine lv_iload_n hx hb dX7_subset_4 rfl (lv_at hl 0 rfl) ?_
      refine lv_aload_n hx hb dX7_subset_5 rfl (lv_at hl 2 rfl) ?_
      refine va_get (D := D) (ci := 7) (v := .int (zN 11 1)) (C := RX7) (T := TX7) (N := 14) hx hb hts jX7_subset_X7 hown hK hP 0 rfl rfl 8 (by decide) (hts (.fieldLink RX7 31 "BrotherAutomataModel" "states" "I") (List.mem_of_getElem? (i := 1) rfl)) (fun _ h9 => h9) rfl dX7_subset_6 ?_
      obtain ⟨hh1, hh2⟩ := h
      refine lv_icmp_ge (tgt := 42) hx hb dX7_subset_9 (by decide) (fun hc => ?_) (fun hc => ?_)
      · have h := hh1 hc
        refine lv_iload_n hx hb dX7_subset_42 rfl (lv_at hl 1 rfl) ?_
        exact xiret (w := (w_X7_subset cI cO aN zN)) () hx hb hr hlocks h hP hK hD hS dX7_subset_43
      · have h := hh2 hc
        refine lv_iload_n hx hb dX7_subset_12 rfl (lv_at hl 1 rfl) ?_
        refine lv_aload_n hx hb dX7_subset_13 rfl (lv_at hl 2 rfl) ?_
        refine va_get (D := D) (ci := 7) (v := .ref (aN 7)) (C := RX7) (T := TX7) (N := 14) hx hb hts jX7_subset_X7 hown hK hP 0 rfl rfl 7 (by decide) (hts (.fieldLink RX7 28 "BrotherAutomataModel" "runs" "[I") (List.mem_of_getElem? (i := 2) rfl)) (fun _ h9 => h9) rfl dX7_subset_14 ?_
        refine lv_bipush (v := 6) hx hb dX7_subset_17 (by decide) ?_
        refine lv_iload_n hx hb dX7_subset_19 rfl (lv_at hl 3 rfl) ?_
        refine lv_imul hx hb dX7_subset_20 ?_
        refine lv_iload_n hx hb dX7_subset_21 rfl (lv_at hl 0 rfl) ?_
        refine lv_iadd hx hb dX7_subset_22 ?_
        obtain ⟨hi, h⟩ := h
        refine va_iald hx hb hK hP 7 0 rfl rfl hi dX7_subset_23 ?_
        obtain ⟨hh1, hh2⟩ := h
        refine lv_if_le (tgt := 33) hx hb dX7_subset_24 (by decide) (fun hc => ?_) (fun hc => ?_)
        · have h := hh1 hc
          refine lv_iconst (v := 0) hx hb dX7_subset_33 (by decide) ?_
          exact g34 (qX7_subset_4 post x1 zN n) hk4 y2 y3 y2 (0 : Int32) _ _ _ h hP hD hS hl
        · have h := hh2 hc
          refine lv_iconst (v := 1) hx hb dX7_subset_27 (by decide) ?_
          refine lv_iload_n hx hb dX7_subset_28 rfl (lv_at hl 0 rfl) ?_
          refine lv_ishl hx hb dX7_subset_29 ?_
          refine lv_goto (tgt := 34) hx hb dX7_subset_30 (by decide) ?_
          exact g34 (qX7_subset_4 post x1 zN n) hk4 y2 y3 y2 ((1 : Int32) <<< (y3 &&& 31)) _ _ _ h hP hD hS hl
  refine lv_iconst (v := 0) hx hb dX7_subset_0 (by decide) ?_
  refine lv_istore_n (lv' := [(2, .int (0 : Int32)), (0, .ref (aN 0)), (1, .int x1)]) hx hb dX7_subset_1 rfl hl (by decide) rfl (fun ls hl => ?_)
  refine lv_iconst (v := 0) hx hb dX7_subset_2 (by decide) ?_
  refine lv_istore_n (lv' := [(3, .int (0 : Int32)), (2, .int (0 : Int32)), (0, .ref (aN 0)), (1, .int x1)]) hx hb dX7_subset_3 rfl hl (by decide) rfl (fun ls hl => ?_)
  obtain ⟨n0, h⟩ := h
  exact g4 n0 (0 : Int32) (0 : Int32) _ _ _ h hP hD hS hl
set_option maxRecDepth 20000 in
theorem ggX7_subsetOf_X7_isTree : GoodIn wsX7_subsetOf wsX7_isTree := goodIn_r _ [4, 5, 6, 3, 7] (by decide +kernel) (by decide +kernel)
set_option maxRecDepth 20000 in
theorem gX7_subsetOf_X7_isTree : GoodIn wsX7_subsetOf (va_wsS RX7 87 yX7_isTree wsX7_isTree) := goodIn_app (goodIn_of _ (by decide +kernel)) ggX7_subsetOf_X7_isTree
set_option maxRecDepth 20000 in
theorem ggX7_subsetOf_X7_runsTo : GoodIn wsX7_subsetOf wsX7_runsTo := goodIn_r _ [11, 12, 13, 14, 15, 16, 17, 18, 3, 19, 20, 21, 22, 28, 29, 30, 31, 32, 33, 34, 35, 36, 37, 38, 39, 40, 41] (by decide +kernel) (by decide +kernel)
set_option maxRecDepth 20000 in
theorem gX7_subsetOf_X7_runsTo : GoodIn wsX7_subsetOf (wsV RX7 94 RX7 yX7_runsTo wsX7_runsTo) := goodIn_app (goodIn_of _ (by decide +kernel)) ggX7_subsetOf_X7_runsTo
set_option maxRecDepth 20000 in
theorem ggX7_subsetOf_X7_subset : GoodIn wsX7_subsetOf wsX7_subset := goodIn_r _ [26, 27, 12, 28, 29, 30, 31, 32, 33, 34, 35, 36, 37, 38, 39, 40, 41] (by decide +kernel) (by decide +kernel)
set_option maxRecDepth 20000 in
theorem gX7_subsetOf_X7_subset : GoodIn wsX7_subsetOf (wsV RX7 97 RX7 yX7_subset wsX7_subset) := goodIn_app (goodIn_of _ (by decide +kernel)) ggX7_subsetOf_X7_subset
theorem dX7_subsetOf_0 : decode cX7_subsetOf 0 = .ok (.iload_n 1, 1) := by decide +kernel
theorem dX7_subsetOf_1 : decode cX7_subsetOf 1 = .ok (.invokestatic 87, 3) := by decide +kernel
theorem dX7_subsetOf_4 : decode cX7_subsetOf 4 = .ok (.ifCond .ne 5, 3) := by decide +kernel
theorem dX7_subsetOf_7 : decode cX7_subsetOf 7 = .ok (.iconst (-1), 1) := by decide +kernel
theorem dX7_subsetOf_8 : decode cX7_subsetOf 8 = .ok (.ireturn, 1) := by decide +kernel
theorem dX7_subsetOf_9 : decode cX7_subsetOf 9 = .ok (.aload_n 0, 1) := by decide +kernel
theorem dX7_subsetOf_10 : decode cX7_subsetOf 10 = .ok (.iload_n 1, 1) := by decide +kernel
theorem dX7_subsetOf_11 : decode cX7_subsetOf 11 = .ok (.invokevirtual 94, 3) := by decide +kernel
theorem dX7_subsetOf_14 : decode cX7_subsetOf 14 = .ok (.aload_n 0, 1) := by decide +kernel
theorem dX7_subsetOf_15 : decode cX7_subsetOf 15 = .ok (.iload_n 1, 1) := by decide +kernel
theorem dX7_subsetOf_16 : decode cX7_subsetOf 16 = .ok (.invokevirtual 97, 3) := by decide +kernel
theorem dX7_subsetOf_19 : decode cX7_subsetOf 19 = .ok (.ireturn, 1) := by decide +kernel
abbrev w_X7_subsetOf (cI cO : ClassId) (aN : Nat → Nat)  : ((CS)) → va_W := fun u => (wN cI aN u)
set_option maxRecDepth 100000 in
set_option maxHeartbeats 8000000 in
theorem mX7_subsetOf (l : Launch) (D : va_G) (cI cO : ClassId) (tA tS : Nat) (aN : Nat → Nat) (zN : CS) (x1 : Int32) (sz : Nat) {post : Int32 → ((CS)) → Prop} (h : qX7_subsetOf post x1 zN) : Met l yX7_subsetOf wsX7_subsetOf ({ frames := 2, cells := 0, slots := 0, locals := 45 } : Room) (xPre D cI cO tA tS [.ref (aN 0), .int x1] (wN cI aN zN) sz) (va_Qi post (xB D cI cO (va_A (wN cI aN zN) sz) (w_X7_subsetOf cI cO aN)) (va_A (wN cI aN zN) sz)) 0 0 (va_A (wN cI aN zN) sz) := by
  refine xMet D cI cO tA tS (fun A => va_Qi post (xB D cI cO A (w_X7_subsetOf cI cO aN)) A) (cc := cX7_subsetOf) (maxL := 2) (ret := (some .int)) (by decide) rfl (Nat.le_of_ble_eq_true rfl) ?_
  intro p e s m below meth c A ls hx hb hr hts hown hlocks hin hml hA hS hP hK hD hE hl
  have hown : s.vm.findClass RX7 = some m.cls := hown
  have hl : lv_has ls 2 [(0, .ref (aN 0)), (1, .int x1)] := hl
  refine lv_iload_n hx hb dX7_subsetOf_0 rfl (lv_at hl 1 rfl) ?_
  refine xcalli (wr := (wN cI aN zN)) (w2 := fun (u1 : Unit) => (wN cI aN zN)) (va_runS (As := [.int x1]) (rest := []) ⟨hx, hb, hml, hown, hts⟩ (mX7_isTree l D cI cO tA tS x1 _ h) (va_cwS 1 hts gX7_subsetOf_X7_isTree rfl rfl rfl (by decide +kernel) ⟨Nat.le_of_ble_eq_true rfl, Nat.le_of_ble_eq_true rfl⟩) (xpreP hP hD hS hA hK hE [] rfl rfl) rfl rfl hl.1 rfl (lv_room (Nat.le_of_ble_eq_true rfl)) dX7_subsetOf_1 ⟨Nat.le_refl 0, Nat.le_refl 0⟩) hP hD hS hA [] [0, 1, 2, 3, 4, 5, 6, 7, 8, 9, 10, 11] [0, 1, 2, 3, 4, 5, 6, 7, 8, 9, 10, 11] rfl rfl rfl (by decide) rfl (fun _ => rfl) (fun r1 u1 H locs h hP hD hS => ?_)
  obtain ⟨hh1, hh2⟩ := h
  refine lv_if_ne (tgt := 9) hx hb dX7_subsetOf_4 (by decide) (fun hc => ?_) (fun hc => ?_)
  · have h := hh2 hc
    refine lv_aload_n hx hb dX7_subsetOf_9 rfl (lv_at hl 0 rfl) ?_
    refine lv_iload_n hx hb dX7_subsetOf_10 rfl (lv_at hl 1 rfl) ?_
    refine xcallv (wr := ([] : va_W)) (w2 := fun (u11 : (CS)) => (wN cI aN u11)) (va_runV (As := [.int x1]) (rest := []) ⟨hx, hb, hml, hown, hts⟩ (mX7_runsTo l D cI cO tA tS aN zN x1 _ h) (cwV 1 hts gX7_subsetOf_X7_runsTo rfl rfl rfl (by decide +kernel) ⟨Nat.le_of_ble_eq_true rfl, Nat.le_of_ble_eq_true rfl⟩) (xpreV hP hD hS hA hK hE [0, 1, 2, 3, 4, 5, 6, 7, 8, 9, 10, 11] rfl rfl 7 0 rfl rfl) rfl rfl hl.1 rfl (lv_room (Nat.le_of_ble_eq_true rfl)) dX7_subsetOf_11 ⟨Nat.le_refl 0, Nat.le_refl 0⟩) hP hD hS hA [0, 1, 2, 3, 4, 5, 6, 7, 8, 9, 10, 11] [] [0, 1, 2, 3, 4, 5, 6, 7, 8, 9, 10, 11] rfl rfl rfl (by decide) rfl (fun _ => rfl) (fun u11 H locs h hP hD hS => ?_)
    refine lv_aload_n hx hb dX7_subsetOf_14 rfl (lv_at hl 0 rfl) ?_
    refine lv_iload_n hx hb dX7_subsetOf_15 rfl (lv_at hl 1 rfl) ?_
    refine xcalli (wr := ([] : va_W)) (w2 := fun (u16 : Unit) => (wN cI aN u11)) (va_runV (As := [.int x1]) (rest := []) ⟨hx, hb, hml, hown, hts⟩ (mX7_subset l D cI cO tA tS aN u11 x1 _ h) (cwV 1 hts gX7_subsetOf_X7_subset rfl rfl rfl (by decide +kernel) ⟨Nat.le_of_ble_eq_true rfl, Nat.le_of_ble_eq_true rfl⟩) (xpreV hP hD hS hA hK hE [0, 1, 2, 3, 4, 5, 6, 7, 8, 9, 10, 11] rfl rfl 7 0 rfl rfl) rfl rfl hl.1 rfl (lv_room (Nat.le_of_ble_eq_true rfl)) dX7_subsetOf_16 ⟨Nat.le_refl 0, Nat.le_refl 0⟩) hP hD hS hA [0, 1, 2, 3, 4, 5, 6, 7, 8, 9, 10, 11] [] [0, 1, 2, 3, 4, 5, 6, 7, 8, 9, 10, 11] rfl rfl rfl (by decide) rfl (fun _ => rfl) (fun r16 u16 H locs h hP hD hS => ?_)
    exact xiret (w := (w_X7_subsetOf cI cO aN)) (u11) hx hb hr hlocks h hP hK hD hS dX7_subsetOf_19
  · have h := hh1 hc
    refine lv_iconst (v := -1) hx hb dX7_subsetOf_7 (by decide) ?_
    exact xiret (w := (w_X7_subsetOf cI cO aN)) (zN) hx hb hr hlocks h hP hK hD hS dX7_subsetOf_8
