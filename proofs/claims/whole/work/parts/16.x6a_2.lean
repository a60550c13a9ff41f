theorem dX6_setCount_0 : decode cX6_setCount 0 = .ok (.iconst 1, 1) := by decide +kernel
theorem dX6_setCount_1 : decode cX6_setCount 1 = .ok (.aload_n 0, 1) := by decide +kernel
theorem dX6_setCount_2 : decode cX6_setCount 2 = .ok (.getfield 63, 3) := by decide +kernel
theorem dX6_setCount_5 : decode cX6_setCount 5 = .ok (.ishl, 1) := by decide +kernel
theorem dX6_setCount_6 : decode cX6_setCount 6 = .ok (.ireturn, 1) := by decide +kernel
theorem jX6_setCount_X6 : ∀ w ∈ wsX60, w ∈ wsX6_setCount := by decide +kernel
abbrev w_X6_setCount (cI cO : ClassId) (aS : Nat → Nat) (aT : Nat → Nat) (aB : Nat → Nat) (aH : Nat → Nat) (aM : Nat → Nat) (aC : Nat → Nat) (aZ : Nat → Nat) (zS : CS) : (Unit) → va_W := fun u => (wS cI aS aT aB aH aM aC aZ zS)
set_option maxRecDepth 100000 in
set_option maxHeartbeats 8000000 in
theorem mX6_setCount (l : Launch) (D : va_G) (cI cO : ClassId) (tA tS : Nat) (aS : Nat → Nat) (aT : Nat → Nat) (aB : Nat → Nat) (aH : Nat → Nat) (aM : Nat → Nat) (aC : Nat → Nat) (aZ : Nat → Nat) (zS : CS)  (sz : Nat) {post : Int32 → (Unit) → Prop} (h : qX6_setCount post zS) : Met l yX6_setCount wsX6_setCount ({ frames := 0, cells := 0, slots := 0, locals := 0 } : Room) (xPre D cI cO tA tS [.ref (aS 0)] (wS cI aS aT aB aH aM aC aZ zS) sz) (va_Qi post (xB D cI cO (va_A (wS cI aS aT aB aH aM aC aZ zS) sz) (w_X6_setCount cI cO aS aT aB aH aM aC aZ zS)) (va_A (wS cI aS aT aB aH aM aC aZ zS) sz)) 0 0 (va_A (wS cI aS aT aB aH aM aC aZ zS) sz) := by
  refine xMet D cI cO tA tS (fun A => va_Qi post (xB D cI cO A (w_X6_setCount cI cO aS aT aB aH aM aC aZ zS)) A) (cc := cX6_setCount) (maxL := 1) (ret := (some .int)) (by decide) rfl (Nat.le_of_ble_eq_true rfl) ?_
  intro p e s m below meth c A ls hx hb hr hts hown hlocks hin hml hA hS hP hK hD hE hl
  have hown : s.vm.findClass RX6 = some m.cls := hown
  have hl : lv_has ls 1 [(0, .ref (aS 0))] := hl
  refine lv_iconst (v := 1) hx hb dX6_setCount_0 (by decide) ?_
  refine lv_aload_n hx hb dX6_setCount_1 rfl (lv_at hl 0 rfl) ?_
  refine va_get (D := D) (ci := 6) (v := .int (zS 1 2)) (C := RX6) (T := TX6) (N := 10) hx hb hts jX6_setCount_X6 hown hK hP 0 rfl rfl 9 (by decide) (hts (.fieldLink RX6 63 "BrotherAutomata" "states" "I") (List.mem_of_getElem? (i := 1) rfl)) (fun _ h9 => h9) rfl dX6_setCount_2 ?_
  refine lv_ishl hx hb dX6_setCount_5 ?_
  exact xiret (w := (w_X6_setCount cI cO aS aT aB aH aM aC aZ zS)) () hx hb hr hlocks h hP hK hD hS dX6_setCount_6
set_option maxRecDepth 20000 in
theorem ggX6_renewCensus_X6_setCount : GoodIn wsX6_renewCensus wsX6_setCount := goodIn_r _ [8, 9, 65, 66, 67, 68, 69, 70, 71, 72, 73, 74] (by decide +kernel) (by decide +kernel)
set_option maxRecDepth 20000 in
theorem gX6_renewCensus_X6_setCount : GoodIn wsX6_renewCensus (wsV RX6 171 RX6 yX6_setCount wsX6_setCount) := goodIn_app (goodIn_of _ (by decide +kernel)) ggX6_renewCensus_X6_setCount
set_option maxRecDepth 20000 in
theorem ggX6_renewCensus_X0_take : GoodIn wsX6_renewCensus wsX0_take := goodIn_r _ [14, 15, 16, 17, 18, 19, 20, 21, 22, 23, 24, 25, 26, 27, 13, 28, 29, 30, 31, 32, 33, 34, 35, 36, 37, 38, 39, 40, 41, 42, 43, 44, 45, 46, 47, 48, 49, 50, 51, 52, 53, 54, 55, 56, 57, 58, 59, 60, 61, 62, 63, 64, 75, 76, 77, 78, 79, 80, 81, 82, 83] (by decide +kernel) (by decide +kernel)
set_option maxRecDepth 20000 in
theorem gX6_renewCensus_X0_take : GoodIn wsX6_renewCensus (wsV RX6 197 RX0 yX0_take wsX0_take) := goodIn_app (goodIn_of _ (by decide +kernel)) ggX6_renewCensus_X0_take
theorem dX6_renewCensus_0 : decode cX6_renewCensus 0 = .ok (.aload_n 0, 1) := by decide +kernel
theorem dX6_renewCensus_1 : decode cX6_renewCensus 1 = .ok (.getfield 59, 3) := by decide +kernel
theorem dX6_renewCensus_4 : decode cX6_renewCensus 4 = .ok (.ifCond .ne 23, 3) := by decide +kernel
theorem dX6_renewCensus_7 : decode cX6_renewCensus 7 = .ok (.aload_n 0, 1) := by decide +kernel
theorem dX6_renewCensus_8 : decode cX6_renewCensus 8 = .ok (.getfield 47, 3) := by decide +kernel
theorem dX6_renewCensus_11 : decode cX6_renewCensus 11 = .ok (.aload_n 0, 1) := by decide +kernel
theorem dX6_renewCensus_12 : decode cX6_renewCensus 12 = .ok (.getfield 33, 3) := by decide +kernel
theorem dX6_renewCensus_15 : decode cX6_renewCensus 15 = .ok (.aload_n 0, 1) := by decide +kernel
theorem dX6_renewCensus_16 : decode cX6_renewCensus 16 = .ok (.invokevirtual 171, 3) := by decide +kernel
theorem dX6_renewCensus_19 : decode cX6_renewCensus 19 = .ok (.invokevirtual 197, 3) := by decide +kernel
theorem dX6_renewCensus_22 : decode cX6_renewCensus 22 = .ok (.aload_n 0, 1) := by decide +kernel
theorem dX6_renewCensus_23 : decode cX6_renewCensus 23 = .ok (.iconst 1, 1) := by decide +kernel
theorem dX6_renewCensus_24 : decode cX6_renewCensus 24 = .ok (.putfield 59, 3) := by decide +kernel
theorem dX6_renewCensus_27 : decode cX6_renewCensus 27 = .ok (.return_, 1) := by decide +kernel
theorem jX6_renewCensus_X6 : ∀ w ∈ wsX60, w ∈ wsX6_renewCensus := by decide +kernel
abbrev w_X6_renewCensus (cI cO : ClassId) (aS : Nat → Nat) (aT : Nat → Nat) (aB : Nat → Nat) (aH : Nat → Nat) (aM : Nat → Nat) (aC : Nat → Nat) (aZ : Nat → Nat) (zM : CS) : ((CS) × (CS)) → va_W := fun u => (wS cI aS aT aB aH aM aC aZ u.1 ++ (wM cI aM zM ++ (wZ cI aZ u.2)))
set_option maxRecDepth 100000 in
set_option maxHeartbeats 8000000 in
theorem mX6_renewCensus (l : Launch) (D : va_G) (cI cO : ClassId) (tA tS : Nat) (aS : Nat → Nat) (aT : Nat → Nat) (aB : Nat → Nat) (aH : Nat → Nat) (aM : Nat → Nat) (aC : Nat → Nat) (aZ : Nat → Nat) (zS : CS) (zM : CS) (zZ : CS)  (sz : Nat) {post : ((CS) × (CS)) → Prop} (h : qX6_renewCensus post zS zM zZ) : Met l yX6_renewCensus wsX6_renewCensus ({ frames := 5, cells := 0, slots := 0, locals := 116 } : Room) (xPre D cI cO tA tS [.ref (aS 0)] (wS cI aS aT aB aH aM aC aZ zS ++ (wM cI aM zM ++ (wZ cI aZ zZ))) sz) (va_Qv post (xB D cI cO (va_A (wS cI aS aT aB aH aM aC aZ zS ++ (wM cI aM zM ++ (wZ cI aZ zZ))) sz) (w_X6_renewCensus cI cO aS aT aB aH aM aC aZ zM)) (va_A (wS cI aS aT aB aH aM aC aZ zS ++ (wM cI aM zM ++ (wZ cI aZ zZ))) sz)) 0 0 (va_A (wS cI aS aT aB aH aM aC aZ zS ++ (wM cI aM zM ++ (wZ cI aZ zZ))) sz) := by
  refine xMet D cI cO tA tS (fun A => va_Qv post (xB D cI cO A (w_X6_renewCensus cI cO aS aT aB aH aM aC aZ zM)) A) (cc := cX6_renewCensus) (maxL := 1) (ret := none) (by decide) rfl (Nat.le_of_ble_eq_true rfl) ?_
  intro p e s m below meth c A ls hx hb hr hts hown hlocks hin hml hA hS hP hK hD hE hl
  have hown : s.vm.findClass RX6 = some m.cls := hown
  have hl : lv_has ls 1 [(0, .ref (aS 0))] := hl
  refine lv_aload_n hx hb dX6_renewCensus_0 rfl (lv_at hl 0 rfl) ?_
  refine va_get (D := D) (ci := 6) (v := .int (zS 1 1)) (C := RX6) (T := TX6) (N := 10) hx hb hts jX6_renewCensus_X6 hown hK hP 0 rfl rfl 8 (by decide) (hts (.fieldLink RX6 59 "BrotherAutomata" "censusKnown" "Z") (List.mem_of_getElem? (i := 1) rfl)) (fun _ h9 => h9) rfl dX6_renewCensus_1 ?_
  obtain ⟨hh1, hh2⟩ := h
  refine lv_if_ne (tgt := 27) hx hb dX6_renewCensus_4 (by decide) (fun hc => ?_) (fun hc => ?_)
  · have h := hh2 hc
    exact xvret (w := (w_X6_renewCensus cI cO aS aT aB aH aM aC aZ zM)) (zS, zZ) hx hb hr hlocks h hP hK hD hS dX6_renewCensus_27
  · have h := hh1 hc
    refine lv_aload_n hx hb dX6_renewCensus_7 rfl (lv_at hl 0 rfl) ?_
    refine va_get (D := D) (ci := 6) (v := .ref (aZ 0)) (C := RX6) (T := TX6) (N := 10) hx hb hts jX6_renewCensus_X6 hown hK hP 0 rfl rfl 5 (by decide) (hts (.fieldLink RX6 47 "BrotherAutomata" "census" "LBrotherAutomata$Census;") (List.mem_of_getElem? (i := 2) rfl)) (fun _ h9 => h9) rfl dX6_renewCensus_8 ?_
    refine lv_aload_n hx hb dX6_renewCensus_11 rfl (lv_at hl 0 rfl) ?_
    refine va_get (D := D) (ci := 6) (v := .ref (aM 0)) (C := RX6) (T := TX6) (N := 10) hx hb hts jX6_renewCensus_X6 hown hK hP 0 rfl rfl 3 (by decide) (hts (.fieldLink RX6 33 "BrotherAutomata" "masks" "LBrotherAutomata$RuleMasks;") (List.mem_of_getElem? (i := 3) rfl)) (fun _ h9 => h9) rfl dX6_renewCensus_12 ?_
    refine lv_aload_n hx hb dX6_renewCensus_15 rfl (lv_at hl 0 rfl) ?_
    refine xcalli (wr := (wM cI aM zM ++ (wZ cI aZ zZ))) (w2 := fun (u16 : Unit) => (wS cI aS aT aB aH aM aC aZ zS ++ (wM cI aM zM ++ (wZ cI aZ zZ)))) (va_runV (As := []) (rest := [.ref (aM 0), .ref (aZ 0)]) ⟨hx, hb, hml, hown, hts⟩ (mX6_setCount l D cI cO tA tS aS aT aB aH aM aC aZ zS _ h) (cwV 0 hts gX6_renewCensus_X6_setCount rfl rfl rfl (by decide +kernel) ⟨Nat.le_of_ble_eq_true rfl, Nat.le_of_ble_eq_true rfl⟩) (xpreV hP hD hS hA hK hE [0, 1] rfl rfl 6 0 rfl rfl) rfl rfl hl.1 rfl (lv_room (Nat.le_of_ble_eq_true rfl)) dX6_renewCensus_16 ⟨Nat.le_refl 0, Nat.le_refl 0⟩) hP hD hS hA [0, 1] [2, 3, 4, 5, 6, 7, 8, 9, 10] [9, 10, 0, 1, 2, 3, 4, 5, 6, 7, 8] rfl rfl rfl (by decide) rfl (fun _ => rfl) (fun r16 u16 H locs h hP hD hS => ?_)
    refine xcallv (wr := (wS cI aS aT aB aH aM aC aZ zS)) (w2 := fun (u19 : (CS)) => (wS cI aS aT aB aH aM aC aZ zS ++ (wM cI aM zM ++ (wZ cI aZ u19)))) (va_runV (As := [.ref (aM 0), .int r16]) (rest := []) ⟨hx, hb, hml, hown, hts⟩ (mX0_take l D cI cO tA tS aM aZ zM zZ r16 _ h) (cwV 2 hts gX6_renewCensus_X0_take rfl rfl rfl (by decide +kernel) ⟨Nat.le_of_ble_eq_true rfl, Nat.le_of_ble_eq_true rfl⟩) (xpreV hP hD hS hA hK hE [2, 3, 4, 5, 6, 7, 8, 9, 10] rfl rfl 0 7 rfl rfl) rfl rfl hl.1 rfl (lv_room (Nat.le_of_ble_eq_true rfl)) dX6_renewCensus_19 ⟨Nat.le_refl 0, Nat.le_refl 0⟩) hP hD hS hA [2, 3, 4, 5, 6, 7, 8, 9, 10] [0, 1] [0, 1, 2, 3, 4, 5, 6, 7, 8, 9, 10] rfl rfl rfl (by decide) rfl (fun _ => rfl) (fun u19 H locs h hP hD hS => ?_)
    refine lv_aload_n hx hb dX6_renewCensus_22 rfl (lv_at hl 0 rfl) ?_
    refine lv_iconst (v := 1) hx hb dX6_renewCensus_23 (by decide) ?_
    refine va_put (D := D) (ci := 6) (v := .int (1 : Int32)) (ty := .boolean) (C := RX6) (T := TX6) (N := 10) hx hb hts jX6_renewCensus_X6 tyX6 tyX6_ok nmX6 hown hK hP hD hS 0 rfl rfl 8 (by decide) (hts (.fieldLink RX6 59 "BrotherAutomata" "censusKnown" "Z") (List.mem_of_getElem? (i := 1) rfl)) (fun _ h9 => h9) rfl (by decide +kernel) rfl rfl (Nat.le_of_ble_eq_true rfl) dX6_renewCensus_24 (fun H locs hP hD hS => ?_)
    have hP : va_P D vwCl (wS cI aS aT aB aH aM aC aZ (st zS 1 1 (1 : Int32)) ++ (wM cI aM zM ++ (wZ cI aZ u19))) H := hP
    have hD : va_D A (wS cI aS aT aB aH aM aC aZ (st zS 1 1 (1 : Int32)) ++ (wM cI aM zM ++ (wZ cI aZ u19))) := hD
    exact xvret (w := (w_X6_renewCensus cI cO aS aT aB aH aM aC aZ zM)) (st zS 1 1 (1 : Int32), u19) hx hb hr hlocks h hP hK hD hS dX6_renewCensus_27
set_option maxRecDepth 20000 in
theorem ggX6_treesOfSet_X6_setCount : GoodIn wsX6_treesOfSet wsX6_setCount := goodIn_r _ [6, 7, 69, 70, 71, 72, 73, 74, 75, 76, 77, 78] (by decide +kernel) (by decide +kernel)
set_option maxRecDepth 20000 in
theorem gX6_treesOfSet_X6_setCount : GoodIn wsX6_treesOfSet (wsV RX6 171 RX6 yX6_setCount wsX6_setCount) := goodIn_app (goodIn_of _ (by decide +kernel)) ggX6_treesOfSet_X6_setCount
set_option maxRecDepth 20000 in
theorem ggX6_treesOfSet_X6_renewCensus : GoodIn wsX6_treesOfSet wsX6_renewCensus := goodIn_r _ [11, 12, 1, 13, 2, 3, 4, 5, 6, 7, 14, 15, 16, 17, 18, 19, 20, 21, 22, 23, 24, 25, 26, 27, 28, 29, 30, 31, 32, 33, 34, 35, 36, 37, 38, 39, 40, 41, 42, 43, 44, 45, 46, 47, 48, 49, 50, 51, 52, 53, 54, 55, 56, 57, 58, 59, 60, 61, 62, 63, 64, 65, 66, 67, 68, 69, 70, 71, 72, 73, 74, 75, 76, 77, 78, 79, 80, 81, 82, 83, 84, 85, 86, 87] (by decide +kernel) (by decide +kernel)
set_option maxRecDepth 20000 in
theorem gX6_treesOfSet_X6_renewCensus : GoodIn wsX6_treesOfSet (wsV RX6 175 RX6 yX6_renewCensus wsX6_renewCensus) := goodIn_app (goodIn_of _ (by decide +kernel)) ggX6_treesOfSet_X6_renewCensus
theorem dX6_treesOfSet_0 : decode cX6_treesOfSet 0 = .ok (.iload_n 1, 1) := by decide +kernel
theorem dX6_treesOfSet_1 : decode cX6_treesOfSet 1 = .ok (.ifCond .lt 11, 3) := by decide +kernel
theorem dX6_treesOfSet_4 : decode cX6_treesOfSet 4 = .ok (.iload_n 1, 1) := by decide +kernel
theorem dX6_treesOfSet_5 : decode cX6_treesOfSet 5 = .ok (.aload_n 0, 1) := by decide +kernel
theorem dX6_treesOfSet_6 : decode cX6_treesOfSet 6 = .ok (.invokevirtual 171, 3) := by decide +kernel
theorem dX6_treesOfSet_9 : decode cX6_treesOfSet 9 = .ok (.if_icmp .lt 5, 3) := by decide +kernel
theorem dX6_treesOfSet_12 : decode cX6_treesOfSet 12 = .ok (.iconst (-1), 1) := by decide +kernel
theorem dX6_treesOfSet_13 : decode cX6_treesOfSet 13 = .ok (.ireturn, 1) := by decide +kernel
theorem dX6_treesOfSet_14 : decode cX6_treesOfSet 14 = .ok (.aload_n 0, 1) := by decide +kernel
theorem dX6_treesOfSet_15 : decode cX6_treesOfSet 15 = .ok (.invokevirtual 175, 3) := by decide +kernel
theorem dX6_treesOfSet_18 : decode cX6_treesOfSet 18 = .ok (.aload_n 0, 1) := by decide +kernel
theorem dX6_treesOfSet_19 : decode cX6_treesOfSet 19 = .ok (.getfield 47, 3) := by decide +kernel
theorem dX6_treesOfSet_22 : decode cX6_treesOfSet 22 = .ok (.getfield 178, 3) := by decide +kernel
theorem dX6_treesOfSet_25 : decode cX6_treesOfSet 25 = .ok (.iload_n 1, 1) := by decide +kernel
theorem dX6_treesOfSet_26 : decode cX6_treesOfSet 26 = .ok (.iaload, 1) := by decide +kernel
theorem dX6_treesOfSet_27 : decode cX6_treesOfSet 27 = .ok (.ireturn, 1) := by decide +kernel
theorem jX6_treesOfSet_X6 : ∀ w ∈ wsX60, w ∈ wsX6_treesOfSet := by decide +kernel
theorem jX6_treesOfSet_X0 : ∀ w ∈ wsX00, w ∈ wsX6_treesOfSet := by decide +kernel
abbrev w_X6_treesOfSet (cI cO : ClassId) (aS : Nat → Nat) (aT : Nat → Nat) (aB : Nat → Nat) (aH : Nat → Nat) (aM : Nat → Nat) (aC : Nat → Nat) (aZ : Nat → Nat) (zM : CS) : ((CS) × (CS)) → va_W := fun u => (wS cI aS aT aB aH aM aC aZ u.1 ++ (wM cI aM zM ++ (wZ cI aZ u.2)))
set_option maxRecDepth 100000 in
set_option maxHeartbeats 8000000 in
theorem mX6_treesOfSet (l : Launch) (D : va_G) (cI cO : ClassId) (tA tS : Nat) (aS : Nat → Nat) (aT : Nat → Nat) (aB : Nat → Nat) (aH : Nat → Nat) (aM : Nat → Nat) (aC : Nat → Nat) (aZ : Nat → Nat) (zS : CS) (zM : CS) (zZ : CS) (x1 : Int32) (sz : Nat) {post : Int32 → ((CS) × (CS)) → Prop} (h : qX6_treesOfSet post x1 zS zM zZ) : Met l yX6_treesOfSet wsX6_treesOfSet ({ frames := 6, cells := 0, slots := 0, locals := 136 } : Room) (xPre D cI cO tA tS [.ref (aS 0), .int x1] (wS cI aS aT aB aH aM aC aZ zS ++ (wM cI aM zM ++ (wZ cI aZ zZ))) sz) (va_Qi post (xB D cI cO (va_A (wS cI aS aT aB aH aM aC aZ zS ++ (wM cI aM zM ++ (wZ cI aZ zZ))) sz) (w_X6_treesOfSet cI cO aS aT aB aH aM aC aZ zM)) (va_A (wS cI aS aT aB aH aM aC aZ zS ++ (wM cI aM zM ++ (wZ cI aZ zZ))) sz)) 0 0 (va_A (wS cI aS aT aB aH aM aC aZ zS ++ (wM cI aM zM ++ (wZ cI aZ zZ))) sz) := by
  refine xMet D cI cO tA tS (fun A => va_Qi post (xB D cI cO A (w_X6_treesOfSet cI cO aS aT aB aH aM aC aZ zM)) A) (cc := cX6_treesOfSet) (maxL := 2) (ret := (some .int)) (by decide) rfl (Nat.le_of_ble_eq_true rfl) ?_
  intro p e s m below meth c A ls hx hb hr hts hown hlocks hin hml hA hS hP hK hD hE hl
  have hown : s.vm.findClass RX6 = some m.cls := hown
  have hl : lv_has ls 2 [(0, .ref (aS 0)), (1, .int x1)] := hl
  have g12 : ∀ (zS : CS) (zZ : CS) (H : Heap) (locs : List Loc) (ls : Array Slot), qX6_treesOfSet_12 post x1 zM zS zZ → va_P D vwCl (wS cI aS aT aB aH aM aC aZ zS ++ (wM cI aM zM ++ (wZ cI aZ zZ))) H → va_D A (wS cI aS aT aB aH aM aC aZ zS ++ (wM cI aM zM ++ (wZ cI aZ zZ))) → va_S A s.heap H locs → lv_has ls 2 [(0, .ref (aS 0)), (1, .int x1)] → W p l e ({ frames := 6, cells := 0, slots := 0, locals := 136 } : Room) s m ([.ref (aS 0), .int x1] : List Value).toArray below meth c H locs 0 0 (MQ below (va_Qi post (xB D cI cO A (w_X6_treesOfSet cI cO aS aT aB aH aM aC aZ zM)) A) ([.ref (aS 0), .int x1] : List Value).toArray s 0 0 A) (F0 m 12 ls []) := by
    intro zS zZ H locs ls h hP hD hS hl
    refine lv_iconst (v := -1) hx hb dX6_treesOfSet_12 (by decide) ?_
    exact xiret (w := (w_X6_treesOfSet cI cO aS aT aB aH aM aC aZ zM)) (zS, zZ) hx hb hr hlocks h hP hK hD hS dX6_treesOfSet_13
  refine lv_iload_n hx hb dX6_treesOfSet_0 rfl (lv_at hl 1 rfl) ?_
  obtain ⟨hh1, hh2⟩ := h
  refine lv_if_lt (tgt := 12) hx hb dX6_treesOfSet_1 (by decide) (fun hc => ?_) (fun hc => ?_)
  · have h := hh1 hc
    exact g12 zS zZ _ _ _ h hP hD hS hl
  · have h := hh2 hc
    refine lv_iload_n hx hb dX6_treesOfSet_4 rfl (lv_at hl 1 rfl) ?_
    refine lv_aload_n hx hb dX6_treesOfSet_5 rfl (lv_at hl 0 rfl) ?_
    refine xcalli (wr := (wM cI aM zM ++ (wZ cI aZ zZ))) (w2 := fun (u6 : Unit) => (wS cI aS aT aB aH aM aC aZ zS ++ (wM cI aM zM ++ (wZ cI aZ zZ)))) (va_runV (As := []) (rest := [.int x1]) ⟨hx, hb, hml, hown, hts⟩ (mX6_setCount l D cI cO tA tS aS aT aB aH aM aC aZ zS _ h) (cwV 0 hts gX6_treesOfSet_X6_setCount rfl rfl rfl (by decide +kernel) ⟨Nat.le_of_ble_eq_true rfl, Nat.le_of_ble_eq_true rfl⟩) (xpreV hP hD hS hA hK hE [0, 1] rfl rfl 6 0 rfl rfl) rfl rfl hl.1 rfl (lv_room (Nat.le_of_ble_eq_true rfl)) dX6_treesOfSet_6 ⟨Nat.le_refl 0, Nat.le_refl 0⟩) hP hD hS hA [0, 1] [2, 3, 4, 5, 6, 7, 8, 9, 10] [9, 10, 0, 1, 2, 3, 4, 5, 6, 7, 8] rfl rfl rfl (by decide) rfl (fun _ => rfl) (fun r6 u6 H locs h hP hD hS => ?_)
    obtain ⟨hh1, hh2⟩ := h
    refine lv_icmp_lt (tgt := 14) hx hb dX6_treesOfSet_9 (by decide) (fun hc => ?_) (fun hc => ?_)
    · have h := hh1 hc
      refine lv_aload_n hx hb dX6_treesOfSet_14 rfl (lv_at hl 0 rfl) ?_
      refine xcallv (wr := ([] : va_W)) (w2 := fun (u15 : (CS) × (CS)) => (wS cI aS aT aB aH aM aC aZ u15.1 ++ (wM cI aM zM ++ (wZ cI aZ u15.2)))) (va_runV (As := []) (rest := []) ⟨hx, hb, hml, hown, hts⟩ (mX6_renewCensus l D cI cO tA tS aS aT aB aH aM aC aZ zS zM zZ _ h) (cwV 0 hts gX6_treesOfSet_X6_renewCensus rfl rfl rfl (by decide +kernel) ⟨Nat.le_of_ble_eq_true rfl, Nat.le_of_ble_eq_true rfl⟩) (xpreV hP hD hS hA hK hE [0, 1, 2, 3, 4, 5, 6, 7, 8, 9, 10] rfl rfl 6 0 rfl rfl) rfl rfl hl.1 rfl (lv_room (Nat.le_of_ble_eq_true rfl)) dX6_treesOfSet_15 ⟨Nat.le_refl 0, Nat.le_refl 0⟩) hP hD hS hA [0, 1, 2, 3, 4, 5, 6, 7, 8, 9, 10] [] [0, 1, 2, 3, 4, 5, 6, 7, 8, 9, 10] rfl rfl rfl (by decide) rfl (fun _ => rfl) (fun u15 H locs h hP hD hS => ?_)
      refine lv_aload_n hx hb dX6_treesOfSet_18 rfl (lv_at hl 0 rfl) ?_
      refine va_get (D := D) (ci := 6) (v := .ref (aZ 0)) (C := RX6) (T := TX6) (N := 10) hx hb hts jX6_treesOfSet_X6 hown hK hP 0 rfl rfl 5 (by decide) (hts (.fieldLink RX6 47 "BrotherAutomata" "census" "LBrotherAutomata$Census;") (List.mem_of_getElem? (i := 1) rfl)) (fun _ h9 => h9) rfl dX6_treesOfSet_19 ?_
      refine va_getN (D := D) (ci := 0) (v := .ref (aZ 1)) (C := RX0) (T := TX0) (N := 3) hx hb hts jX6_treesOfSet_X0 hown hK hP 7 rfl rfl 0 (by decide) (va_Nw.use (w := .fieldLinkNest RX6 178 "BrotherAutomata$Census" "numbers" "[I" "BrotherAutomata") rfl (hE.1 _ (List.mem_of_getElem? (i := 21) rfl))) (fun _ h9 => h9) rfl dX6_treesOfSet_22 ?_
      refine lv_iload_n hx hb dX6_treesOfSet_25 rfl (lv_at hl 1 rfl) ?_
      obtain ⟨hi, h⟩ := h
      refine va_iald hx hb hK hP 8 0 rfl rfl hi dX6_treesOfSet_26 ?_
      exact xiret (w := (w_X6_treesOfSet cI cO aS aT aB aH aM aC aZ zM)) (u15.1, u15.2) hx hb hr hlocks h hP hK hD hS dX6_treesOfSet_27
    · have h := hh2 hc
      exact g12 zS zZ _ _ _ h hP hD hS hl
set_option maxRecDepth 20000 in
theorem ggX6_reachedSets_X6_renewCensus : GoodIn wsX6_reachedSets wsX6_renewCensus := goodIn_r _ [6, 7, 1, 8, 9, 10, 11, 5, 12, 13, 14, 15, 16, 17, 18, 19, 20, 21, 22, 23, 24, 25, 26, 27, 28, 29, 30, 31, 32, 33, 34, 35, 36, 37, 38, 39, 40, 41, 42, 43, 44, 45, 46, 47, 48, 49, 50, 51, 52, 53, 54, 55, 56, 57, 58, 59, 60, 61, 62, 63, 64, 65, 66, 67, 68, 73, 74, 75, 76, 77, 78, 79, 80, 81, 82, 83, 84, 85, 86, 87, 88, 89, 90, 91] (by decide +kernel) (by decide +kernel)
set_option maxRecDepth 20000 in
theorem gX6_reachedSets_X6_renewCensus : GoodIn wsX6_reachedSets (wsV RX6 175 RX6 yX6_renewCensus wsX6_renewCensus) := goodIn_app (goodIn_of _ (by decide +kernel)) ggX6_reachedSets_X6_renewCensus
set_option maxRecDepth 20000 in
theorem ggX6_reachedSets_X6_setCount : GoodIn wsX6_reachedSets wsX6_setCount := goodIn_r _ [12, 13, 73, 74, 75, 76, 77, 78, 79, 80, 81, 82] (by decide +kernel) (by decide +kernel)
set_option maxRecDepth 20000 in
theorem gX6_reachedSets_X6_setCount : GoodIn wsX6_reachedSets (wsV RX6 171 RX6 yX6_setCount wsX6_setCount) := goodIn_app (goodIn_of _ (by decide +kernel)) ggX6_reachedSets_X6_setCount
set_option maxRecDepth 20000 in
theorem ggX6_reachedSets_X0_isReached : GoodIn wsX6_reachedSets wsX0_isReached := goodIn_r _ [72, 19, 83, 84, 85] (by decide +kernel) (by decide +kernel)
set_option maxRecDepth 20000 in
theorem gX6_reachedSets_X0_isReached : GoodIn wsX6_reachedSets (wsV RX6 181 RX0 yX0_isReached wsX0_isReached) := goodIn_app (goodIn_of _ (by decide +kernel)) ggX6_reachedSets_X0_isReached
theorem dX6_reachedSets_0 : decode cX6_reachedSets 0 = .ok (.aload_n 0, 1) := by decide +kernel
theorem dX6_reachedSets_1 : decode cX6_reachedSets 1 = .ok (.invokevirtual 175, 3) := by decide +kernel
theorem dX6_reachedSets_4 : decode cX6_reachedSets 4 = .ok (.iconst 0, 1) := by decide +kernel
theorem dX6_reachedSets_5 : decode cX6_reachedSets 5 = .ok (.istore_n 1, 1) := by decide +kernel
theorem dX6_reachedSets_6 : decode cX6_reachedSets 6 = .ok (.iconst 0, 1) := by decide +kernel
theorem dX6_reachedSets_7 : decode cX6_reachedSets 7 = .ok (.istore_n 2, 1) := by decide +kernel
theorem dX6_reachedSets_8 : decode cX6_reachedSets 8 = .ok (.iload_n 2, 1) := by decide +kernel
theorem dX6_reachedSets_9 : decode cX6_reachedSets 9 = .ok (.aload_n 0, 1) := by decide +kernel
theorem dX6_reachedSets_10 : decode cX6_reachedSets 10 = .ok (.invokevirtual 171, 3) := by decide +kernel
theorem dX6_reachedSets_13 : decode cX6_reachedSets 13 = .ok (.if_icmp .ge 23, 3) := by decide +kernel
theorem dX6_reachedSets_16 : decode cX6_reachedSets 16 = .ok (.aload_n 0, 1) := by decide +kernel
theorem dX6_reachedSets_17 : decode cX6_reachedSets 17 = .ok (.getfield 47, 3) := by decide +kernel
theorem dX6_reachedSets_20 : decode cX6_reachedSets 20 = .ok (.iload_n 2, 1) := by decide +kernel
theorem dX6_reachedSets_21 : decode cX6_reachedSets 21 = .ok (.invokevirtual 181, 3) := by decide +kernel
theorem dX6_reachedSets_24 : decode cX6_reachedSets 24 = .ok (.ifCond .eq 6, 3) := by decide +kernel
theorem dX6_reachedSets_27 : decode cX6_reachedSets 27 = .ok (.iinc 1 1, 3) := by decide +kernel
theorem dX6_reachedSets_30 : decode cX6_reachedSets 30 = .ok (.iinc 2 1, 3) := by decide +kernel
theorem dX6_reachedSets_33 : decode cX6_reachedSets 33 = .ok (.goto (-25), 3) := by decide +kernel
theorem dX6_reachedSets_36 : decode cX6_reachedSets 36 = .ok (.iload_n 1, 1) := by decide +kernel
theorem dX6_reachedSets_37 : decode cX6_reachedSets 37 = .ok (.ireturn, 1) := by decide +kernel
theorem jX6_reachedSets_X6 : ∀ w ∈ wsX60, w ∈ wsX6_reachedSets := by decide +kernel
abbrev w_X6_reachedSets (cI cO : ClassId) (aS : Nat → Nat) (aT : Nat → Nat) (aB : Nat → Nat) (aH : Nat → Nat) (aM : Nat → Nat) (aC : Nat → Nat) (aZ : Nat → Nat) (zM : CS) : ((CS) × (CS)) → va_W := fun u => (wS cI aS aT aB aH aM aC aZ u.1 ++ (wM cI aM zM ++ (wZ cI aZ u.2)))
set_option maxRecDepth 100000 in
set_option maxHeartbeats 8000000 in
theorem mX6_reachedSets (l : Launch) (D : va_G) (cI cO : ClassId) (tA tS : Nat) (aS : Nat → Nat) (aT : Nat → Nat) (aB : Nat → Nat) (aH : Nat → Nat) (aM : Nat → Nat) (aC : Nat → Nat) (aZ : Nat → Nat) (zS : CS) (zM : CS) (zZ : CS)  (sz : Nat) {post : Int32 → ((CS) × (CS)) → Prop} (h : qX6_reachedSets post zS zM zZ) : Met l yX6_reachedSets wsX6_reachedSets ({ frames := 6, cells := 0, slots := 0, locals := 136 } : Room) (xPre D cI cO tA tS [.ref (aS 0)] (wS cI aS aT aB aH aM aC aZ zS ++ (wM cI aM zM ++ (wZ cI aZ zZ))) sz) (va_Qi post (xB D cI cO (va_A (wS cI aS aT aB aH aM aC aZ zS ++ (wM cI aM zM ++ (wZ cI aZ zZ))) sz) (w_X6_reachedSets cI cO aS aT aB aH aM aC aZ zM)) (va_A (wS cI aS aT aB aH aM aC aZ zS ++ (wM cI aM zM ++ (wZ cI aZ zZ))) sz)) 0 0 (va_A (wS cI aS aT aB aH aM aC aZ zS ++ (wM cI aM zM ++ (wZ cI aZ zZ))) sz) := by
  refine xMet D cI cO tA tS (fun A => va_Qi post (xB D cI cO A (w_X6_reachedSets cI cO aS aT aB aH aM aC aZ zM)) A) (cc := cX6_reachedSets) (maxL := 3) (ret := (some .int)) (by decide) rfl (Nat.le_of_ble_eq_true rfl) ?_
  intro p e s m below meth c A ls hx hb hr hts hown hlocks hin hml hA hS hP hK hD hE hl
  have hown : s.vm.findClass RX6 = some m.cls := hown
  have hl : lv_has ls 3 [(0, .ref (aS 0))] := hl
  have g30 : ∀ (k8 : (Int32) → (Int32) → (CS) → (CS) → Prop), (∀ (y1 : Int32) (y2 : Int32) (zS : CS) (zZ : CS) (H : Heap) (locs : List Loc) (ls : Array Slot), k8 y1 y2 zS zZ → va_P D vwCl (wS cI aS aT aB aH aM aC aZ zS ++ (wM cI aM zM ++ (wZ cI aZ zZ))) H → va_D A (wS cI aS aT aB aH aM aC aZ zS ++ (wM cI aM zM ++ (wZ cI aZ zZ))) → va_S A s.heap H locs → lv_has ls 3 [(2, .int y2), (1, .int y1), (0, .ref (aS 0))] → W p l e ({ frames := 6, cells := 0, slots := 0, locals := 136 } : Room) s m ([.ref (aS 0)] : List Value).toArray below meth c H locs 0 0 (MQ below (va_Qi post (xB D cI cO A (w_X6_reachedSets cI cO aS aT aB aH aM aC aZ zM)) A) ([.ref (aS 0)] : List Value).toArray s 0 0 A) (F0 m 8 ls [])) → ∀ (y1 : Int32) (y2 : Int32) (zS : CS) (zZ : CS) (H : Heap) (locs : List Loc) (ls : Array Slot), qX6_reachedSets_30 post zM k8 y1 y2 zS zZ → va_P D vwCl (wS cI aS aT aB aH aM aC aZ zS ++ (wM cI aM zM ++ (wZ cI aZ zZ))) H → va_D A (wS cI aS aT aB aH aM aC aZ zS ++ (wM cI aM zM ++ (wZ cI aZ zZ))) → va_S A s.heap H locs → lv_has ls 3 [(2, .int y2), (1, .int y1), (0, .ref (aS 0))] → W p l e ({ frames := 6, cells := 0, slots := 0, locals := 136 } : Room) s m ([.ref (aS 0)] : List Value).toArray below meth c H locs 0 0 (MQ below (va_Qi post (xB D cI cO A (w_X6_reachedSets cI cO aS aT aB aH aM aC aZ zM)) A) ([.ref (aS 0)] : List Value).toArray s 0 0 A) (F0 m 30 ls []) := by
    intro k8 hk8 y1 y2 zS zZ H locs ls h hP hD hS hl
    refine lv_iinc (v := (y2 + (1 : Int32))) (lv' := [(2, .int (y2 + (1 : Int32))), (1, .int y1), (0, .ref (aS 0))]) hx hb dX6_reachedSets_30 hl (k := 0) rfl rfl (by decide) rfl (fun ls hl => ?_)
    refine lv_goto (tgt := 8) hx hb dX6_reachedSets_33 (by decide) ?_
    exact hk8 y1 (y2 + (1 : Int32)) zS zZ _ _ _ h hP hD hS hl
  have g8 : ∀ (n : Nat) (y1 : Int32) (y2 : Int32) (zS : CS) (zZ : CS) (H : Heap) (locs : List Loc) (ls : Array Slot), qX6_reachedSets_8 post zM n y1 y2 zS zZ → va_P D vwCl (wS cI aS aT aB aH aM aC aZ zS ++ (wM cI aM zM ++ (wZ cI aZ zZ))) H → va_D A (wS cI aS aT aB aH aM aC aZ zS ++ (wM cI aM zM ++ (wZ cI aZ zZ))) → va_S A s.heap H locs → lv_has ls 3 [(2, .int y2), (1, .int y1), (0, .ref (aS 0))] → W p l e ({ frames := 6, cells := 0, slots := 0, locals := 136 } : Room) s m ([.ref (aS 0)] : List Value).toArray below meth c H locs 0 0 (MQ below (va_Qi post (xB D cI cO A (w_X6_reachedSets cI cO aS aT aB aH aM aC aZ zM)) A) ([.ref (aS 0)] : List Value).toArray s 0 0 A) (F0 m 8 ls []) := by
    intro n
    induction n with
    | zero => intro y1 y2 zS zZ H locs ls h; exact False.elim h
    | succ n hk8 =>
      intro y1 y2 zS zZ H locs ls h hP hD hS hl
      have h : qX6_reachedSets_8b post zM (qX6_reachedSets_8 post zM n) y1 y2 zS zZ := h
      refine lv_iload_n hx hb dX6_reachedSets_8 rfl (lv_at hl 0 rfl) ?_
      refine lv_aload_n hx hb dX6_reachedSets_9 rfl (lv_at hl 2 rfl) ?_
      refine xcalli (wr := (wM cI aM zM ++ (wZ cI aZ zZ))) (w2 := fun (u10 : Unit) => (wS cI aS aT aB aH aM aC aZ zS ++ (wM cI aM zM ++ (wZ cI aZ zZ)))) (va_runV (As := []) (rest := [.int y2]) ⟨hx, hb, hml, hown, hts⟩ (mX6_setCount l D cI cO tA tS aS aT aB aH aM aC aZ zS _ h) (cwV 0 hts gX6_reachedSets_X6_setCount rfl rfl rfl (by decide +kernel) ⟨Nat.le_of_ble_eq_true rfl, Nat.le_of_ble_eq_true rfl⟩) (xpreV hP hD hS hA hK hE [0, 1] rfl rfl 6 0 rfl rfl) rfl rfl hl.1 rfl (lv_room (Nat.le_of_ble_eq_true rfl)) dX6_reachedSets_10 ⟨Nat.le_refl 0, Nat.le_refl 0⟩) hP hD hS hA [0, 1] [2, 3, 4, 5, 6, 7, 8, 9, 10] [9, 10, 0, 1, 2, 3, 4, 5, 6, 7, 8] rfl rfl rfl (by decide) rfl (fun _ => rfl) (fun r10 u10 H locs h hP hD hS => ?_)
      obtain ⟨hh1, hh2⟩ := h
      refine lv_icmp_ge (tgt := 36) hx hb dX6_reachedSets_13 (by decide) (fun hc => ?_) (fun hc => ?_)
      · have h := hh1 hc
        refine lv_iload_n hx hb dX6_reachedSets_36 rfl (lv_at hl 1 rfl) ?_
        exact xiret (w := (w_X6_reachedSets cI cO aS aT aB aH aM aC aZ zM)) (zS, zZ) hx hb hr hlocks h hP hK hD hS dX6_reachedSets_37
      · have h := hh2 hc
        refine lv_aload_n hx hb dX6_reachedSets_16 rfl (lv_at hl 2 rfl) ?_
        refine va_get (D := D) (ci := 6) (v := .ref (aZ 0)) (C := RX6) (T := TX6) (N := 10) hx hb hts jX6_reachedSets_X6 hown hK hP 0 rfl rfl 5 (by decide) (hts (.fieldLink RX6 47 "BrotherAutomata" "census" "LBrotherAutomata$Census;") (List.mem_of_getElem? (i := 1) rfl)) (fun _ h9 => h9) rfl dX6_reachedSets_17 ?_
        refine lv_iload_n hx hb dX6_reachedSets_20 rfl (lv_at hl 0 rfl) ?_
        refine xcalli (wr := (wS cI aS aT aB aH aM aC aZ zS ++ (wM cI aM zM))) (w2 := fun (u21 : Unit) => (wS cI aS aT aB aH aM aC aZ zS ++ (wM cI aM zM ++ (wZ cI aZ zZ)))) (va_runV (As := [.int y2]) (rest := []) ⟨hx, hb, hml, hown, hts⟩ (mX0_isReached l D cI cO tA tS aZ zZ y2 _ h) (cwV 1 hts gX6_reachedSets_X0_isReached rfl rfl rfl (by decide +kernel) ⟨Nat.le_of_ble_eq_true rfl, Nat.le_of_ble_eq_true rfl⟩) (xpreV hP hD hS hA hK hE [7, 8, 9, 10] rfl rfl 0 7 rfl rfl) rfl rfl hl.1 rfl (lv_room (Nat.le_of_ble_eq_true rfl)) dX6_reachedSets_21 ⟨Nat.le_refl 0, Nat.le_refl 0⟩) hP hD hS hA [7, 8, 9, 10] [0, 1, 2, 3, 4, 5, 6] [0, 1, 2, 3, 4, 5, 6, 7, 8, 9, 10] rfl rfl rfl (by decide) rfl (fun _ => rfl) (fun r21 u21 H locs h hP hD hS => ?_)
        obtain ⟨hh1, hh2⟩ := h
        refine lv_if_eq (tgt := 30) hx hb dX6_reachedSets_24 (by decide) (fun hc => ?_) (fun hc => ?_)
        · have h := hh1 hc
          exact g30 (qX6_reachedSets_8 post zM n) hk8 y1 y2 zS zZ _ _ _ h hP hD hS hl
        · have h := hh2 hc
          refine lv_iinc (v := (y1 + (1 : Int32))) (lv' := [(1, .int (y1 + (1 : Int32))), (2, .int y2), (0, .ref (aS 0))]) hx hb dX6_reachedSets_27 hl (k := 1) rfl rfl (by decide) rfl (fun ls hl => ?_)
          exact g30 (qX6_reachedSets_8 post zM n) hk8 (y1 + (1 : Int32)) y2 zS zZ _ _ _ h hP hD hS (lv_sub hl [1, 0, 2] rfl)
  refine lv_aload_n hx hb dX6_reachedSets_0 rfl (lv_at hl 0 rfl) ?_
  refine xcallv (wr := ([] : va_W)) (w2 := fun (u1 : (CS) × (CS)) => (wS cI aS aT aB aH aM aC aZ u1.1 ++ (wM cI aM zM ++ (wZ cI aZ u1.2)))) (va_runV (As := []) (rest := []) ⟨hx, hb, hml, hown, hts⟩ (mX6_renewCensus l D cI cO tA tS aS aT aB aH aM aC aZ zS zM zZ _ h) (cwV 0 hts gX6_reachedSets_X6_renewCensus rfl rfl rfl (by decide +kernel) ⟨Nat.le_of_ble_eq_true rfl, Nat.le_of_ble_eq_true rfl⟩) (xpreV hP hD hS hA hK hE [0, 1, 2, 3, 4, 5, 6, 7, 8, 9, 10] rfl rfl 6 0 rfl rfl) rfl rfl hl.1 rfl (lv_room (Nat.le_of_ble_eq_true rfl)) dX6_reachedSets_1 ⟨Nat.le_refl 0, Nat.le_refl 0⟩) hP hD hS hA [0, 1, 2, 3, 4, 5, 6, 7, 8, 9, 10] [] [0, 1, 2, 3, 4, 5, 6, 7, 8, 9, 10] rfl rfl rfl (by decide) rfl (fun _ => rfl) (fun u1 H locs h hP hD hS => ?_)
  refine lv_iconst (v := 0) hx hb dX6_reachedSets_4 (by decide) ?_
  refine lv_istore_n (lv' := [(1, .int (0 : Int32)), (0, .ref (aS 0))]) hx hb dX6_reachedSets_5 rfl hl (by decide) rfl (fun ls hl => ?_)
  refine lv_iconst (v := 0) hx hb dX6_reachedSets_6 (by decide) ?_
  refine lv_istore_n (lv' := [(2, .int (0 : Int32)), (1, .int (0 : Int32)), (0, .ref (aS 0))]) hx hb dX6_reachedSets_7 rfl hl (by decide) rfl (fun ls hl => ?_)
  obtain ⟨n0, h⟩ := h
  exact g8 n0 (0 : Int32) (0 : Int32) u1.1 u1.2 _ _ _ h hP hD hS hl
set_option maxRecDepth 20000 in
theorem ggX6_meetsReachedSet_X6_setCount : GoodIn wsX6_meetsReachedSet wsX6_setCount := goodIn_r _ [6, 7, 14, 15, 16, 17, 18, 19, 20, 21, 22, 23] (by decide +kernel) (by decide +kernel)
set_option maxRecDepth 20000 in
theorem gX6_meetsReachedSet_X6_setCount : GoodIn wsX6_meetsReachedSet (wsV RX6 171 RX6 yX6_setCount wsX6_setCount) := goodIn_app (goodIn_of _ (by decide +kernel)) ggX6_meetsReachedSet_X6_setCount
set_option maxRecDepth 20000 in
theorem ggX6_meetsReachedSet_X0_isReached : GoodIn wsX6_meetsReachedSet wsX0_isReached := goodIn_r _ [12, 13, 24, 25, 26] (by decide +kernel) (by decide +kernel)
set_option maxRecDepth 20000 in
theorem gX6_meetsReachedSet_X0_isReached : GoodIn wsX6_meetsReachedSet (wsV RX6 181 RX0 yX0_isReached wsX0_isReached) := goodIn_app (goodIn_of _ (by decide +kernel)) ggX6_meetsReachedSet_X0_isReached
theorem dX6_meetsReachedSet_0 : decode cX6_meetsReachedSet 0 = .ok (.iconst 0, 1) := by decide +kernel
theorem dX6_meetsReachedSet_1 : decode cX6_meetsReachedSet 1 = .ok (.istore_n 2, 1) := by decide +kernel
theorem dX6_meetsReachedSet_2 : decode cX6_meetsReachedSet 2 = .ok (.iload_n 2, 1) := by decide +kernel
theorem dX6_meetsReachedSet_3 : decode cX6_meetsReachedSet 3 = .ok (.aload_n 0, 1) := by decide +kernel
theorem dX6_meetsReachedSet_4 : decode cX6_meetsReachedSet 4 = .ok (.invokevirtual 171, 3) := by decide +kernel
theorem dX6_meetsReachedSet_7 : decode cX6_meetsReachedSet 7 = .ok (.if_icmp .ge 28, 3) := by decide +kernel
theorem dX6_meetsReachedSet_10 : decode cX6_meetsReachedSet 10 = .ok (.aload_n 0, 1) := by decide +kernel
theorem dX6_meetsReachedSet_11 : decode cX6_meetsReachedSet 11 = .ok (.getfield 47, 3) := by decide +kernel
theorem dX6_meetsReachedSet_14 : decode cX6_meetsReachedSet 14 = .ok (.iload_n 2, 1) := by decide +kernel
theorem dX6_meetsReachedSet_15 : decode cX6_meetsReachedSet 15 = .ok (.invokevirtual 181, 3) := by decide +kernel
theorem dX6_meetsReachedSet_18 : decode cX6_meetsReachedSet 18 = .ok (.ifCond .eq 11, 3) := by decide +kernel
theorem dX6_meetsReachedSet_21 : decode cX6_meetsReachedSet 21 = .ok (.iload_n 2, 1) := by decide +kernel
theorem dX6_meetsReachedSet_22 : decode cX6_meetsReachedSet 22 = .ok (.iload_n 1, 1) := by decide +kernel
theorem dX6_meetsReachedSet_23 : decode cX6_meetsReachedSet 23 = .ok (.iand, 1) := by decide +kernel
theorem dX6_meetsReachedSet_24 : decode cX6_meetsReachedSet 24 = .ok (.ifCond .eq 5, 3) := by decide +kernel
theorem dX6_meetsReachedSet_27 : decode cX6_meetsReachedSet 27 = .ok (.iconst 1, 1) := by decide +kernel
theorem dX6_meetsReachedSet_28 : decode cX6_meetsReachedSet 28 = .ok (.ireturn, 1) := by decide +kernel
theorem dX6_meetsReachedSet_29 : decode cX6_meetsReachedSet 29 = .ok (.iinc 2 1, 3) := by decide +kernel
theorem dX6_meetsReachedSet_32 : decode cX6_meetsReachedSet 32 = .ok (.goto (-30), 3) := by decide +kernel
theorem dX6_meetsReachedSet_35 : decode cX6_meetsReachedSet 35 = .ok (.iconst 0, 1) := by decide +kernel
theorem dX6_meetsReachedSet_36 : decode cX6_meetsReachedSet 36 = .ok (.ireturn, 1) := by decide +kernel
theorem jX6_meetsReachedSet_X6 : ∀ w ∈ wsX60, w ∈ wsX6_meetsReachedSet := by decide +kernel
abbrev w_X6_meetsReachedSet (cI cO : ClassId) (aS : Nat → Nat) (aT : Nat → Nat) (aB : Nat → Nat) (aH : Nat → Nat) (aM : Nat → Nat) (aC : Nat → Nat) (aZ : Nat → Nat) (zS : CS) (zZ : CS) : (Unit) → va_W := fun u => (wS cI aS aT aB aH aM aC aZ zS ++ (wZ cI aZ zZ))
set_option maxRecDepth 100000 in
set_option maxHeartbeats 8000000 in
theorem mX6_meetsReachedSet (l : Launch) (D : va_G) (cI cO : ClassId) (tA tS : Nat) (aS : Nat → Nat) (aT : Nat → Nat) (aB : Nat → Nat) (aH : Nat → Nat) (aM : Nat → Nat) (aC : Nat → Nat) (aZ : Nat → Nat) (zS : CS) (zZ : CS) (x1 : Int32) (sz : Nat) {post : Int32 → (Unit) → Prop} (h : qX6_meetsReachedSet post x1 zS zZ) : Met l yX6_meetsReachedSet wsX6_meetsReachedSet ({ frames := 1, cells := 0, slots := 0, locals := 21 } : Room) (xPre D cI cO tA tS [.ref (aS 0), .int x1] (wS cI aS aT aB aH aM aC aZ zS ++ (wZ cI aZ zZ)) sz) (va_Qi post (xB D cI cO (va_A (wS cI aS aT aB aH aM aC aZ zS ++ (wZ cI aZ zZ)) sz) (w_X6_meetsReachedSet cI cO aS aT aB aH aM aC aZ zS zZ)) (va_A (wS cI aS aT aB aH aM aC aZ zS ++ (wZ cI aZ zZ)) sz)) 0 0 (va_A (wS cI aS aT aB aH aM aC aZ zS ++ (wZ cI aZ zZ)) sz) := by
  refine xMet D cI cO tA tS (fun A => va_Qi post (xB D cI cO A (w_X6_meetsReachedSet cI cO aS aT aB aH aM aC aZ zS zZ)) A) (cc := cX6_meetsReachedSet) (maxL := 3) (ret := (some .boolean)) (by decide) rfl (Nat.le_of_ble_eq_true rfl) ?_
  intro p e s m below meth c A ls hx hb hr hts hown hlocks hin hml hA hS hP hK hD hE hl
  have hown : s.vm.findClass RX6 = some m.cls := hown
  have hl : lv_has ls 3 [(0, .ref (aS 0)), (1, .int x1)] := hl
  have g29 : ∀ (k2 : (Int32) → Prop), (∀ (y2 : Int32) (H : Heap) (locs : List Loc) (ls : Array Slot), k2 y2 → va_P D vwCl (wS cI aS aT aB aH aM aC aZ zS ++ (wZ cI aZ zZ)) H → va_D A (wS cI aS aT aB aH aM aC aZ zS ++ (wZ cI aZ zZ)) → va_S A s.heap H locs → lv_has ls 3 [(2, .int y2), (0, .ref (aS 0)), (1, .int x1)] → W p l e ({ frames := 1, cells := 0, slots := 0, locals := 21 } : Room) s m ([.ref (aS 0), .int x1] : List Value).toArray below meth c H locs 0 0 (MQ below (va_Qi post (xB D cI cO A (w_X6_meetsReachedSet cI cO aS aT aB aH aM aC aZ zS zZ)) A) ([.ref (aS 0), .int x1] : List Value).toArray s 0 0 A) (F0 m 2 ls [])) → ∀ (y2 : Int32) (H : Heap) (locs : List Loc) (ls : Array Slot), qX6_meetsReachedSet_29 post x1 zS zZ k2 y2 → va_P D vwCl (wS cI aS aT aB aH aM aC aZ zS ++ (wZ cI aZ zZ)) H → va_D A (wS cI aS aT aB aH aM aC aZ zS ++ (wZ cI aZ zZ)) → va_S A s.heap H locs → lv_has ls 3 [(2, .int y2), (0, .ref (aS 0)), (1, .int x1)] → W p l e ({ frames := 1, cells := 0, slots := 0, locals := 21 } : Room) s m ([.ref (aS 0), .int x1] : List Value).toArray below meth c H locs 0 0 (MQ below (va_Qi post (xB D cI cO A (w_X6_meetsReachedSet cI cO aS aT aB aH aM aC aZ zS zZ)) A) ([.ref (aS 0), .int x1] : List Value).toArray s 0 0 A) (F0 m 29 ls []) := by
    intro k2 hk2 y2 H locs ls h hP hD hS hl
    refine lv_iinc (v := (y2 + (1 : Int32))) (lv' := [(2, .int (y2 + (1 : Int32))), (0, .ref (aS 0)), (1, .int x1)]) hx hb dX6_meetsReachedSet_29 hl (k := 0) rfl rfl (by decide) rfl (fun ls hl => ?_)
    refine lv_goto (tgt := 2) hx hb dX6_meetsReachedSet_32 (by decide) ?_
    exact hk2 (y2 + (1 : Int32)) _ _ _ h hP hD hS hl
  have g2 : ∀ (n : Nat) (y2 : Int32) (H : Heap) (locs : List Loc) (ls : Array Slot), qX6_meetsReachedSet_2 post x1 zS zZ n y2 → va_P D vwCl (wS cI aS aT aB aH aM aC aZ zS ++ (wZ cI aZ zZ)) H → va_D A (wS cI aS aT aB aH aM aC aZ zS ++ (wZ cI aZ zZ)) → va_S A s.heap H locs → lv_has ls 3 [(2, .int y2), (0, .ref (aS 0)), (1, .int x1)] → W p l e ({ frames := 1, cells := 0, slots := 0, locals := 21 } : Room) s m ([.ref (aS 0), .int x1] : List Value).toArray below meth c H locs 0 0 (MQ below (va_Qi post (xB D cI cO A (w_X6_meetsReachedSet cI cO aS aT aB aH aM aC aZ zS zZ)) A) ([.ref (aS 0), .int x1] : List Value).toArray s 0 0 A) (F0 m 2 ls []) := by
    intro n
    induction n with
    | zero => intro y2 H locs ls h; exact False.elim h
    | succ n hk2 =>
      intro y2 H locs ls h hP hD hS hl
      have h : qX6_meetsReachedSet_2b post x1 zS zZ (qX6_meetsReachedSet_2 post x1 zS zZ n) y2 := h
      refine lv_iload_n hx hb dX6_meetsReachedSet_2 rfl (lv_at hl 0 rfl) ?_
      refine lv_aload_n hx hb dX6_meetsReachedSet_3 rfl (lv_at hl 1 rfl) ?_
      refine xcalli (wr := (wZ cI aZ zZ)) (w2 := fun (u4 : Unit) => (wS cI aS aT aB aH aM aC aZ zS ++ (wZ cI aZ zZ))) (va_runV (As := []) (rest := [.int y2]) ⟨hx, hb, hml, hown, hts⟩ (mX6_setCount l D cI cO tA tS aS aT aB aH aM aC aZ zS _ h) (cwV 0 hts gX6_meetsReachedSet_X6_setCount rfl rfl rfl (by decide +kernel) ⟨Nat.le_of_ble_eq_true rfl, Nat.le_of_ble_eq_true rfl⟩) (xpreV hP hD hS hA hK hE [0, 1] rfl rfl 6 0 rfl rfl) rfl rfl hl.1 rfl (lv_room (Nat.le_of_ble_eq_true rfl)) dX6_meetsReachedSet_4 ⟨Nat.le_refl 0, Nat.le_refl 0⟩) hP hD hS hA [0, 1] [2, 3, 4, 5] [4, 5, 0, 1, 2, 3] rfl rfl rfl (by decide) rfl (fun _ => rfl) (fun r4 u4 H locs h hP hD hS => ?_)
      obtain ⟨hh1, hh2⟩ := h
      refine lv_icmp_ge (tgt := 35) hx hb dX6_meetsReachedSet_7 (by decide) (fun hc => ?_) (fun hc => ?_)
      · have h := hh1 hc
        refine lv_iconst (v := 0) hx hb dX6_meetsReachedSet_35 (by decide) ?_
        exact xzret (w := (w_X6_meetsReachedSet cI cO aS aT aB aH aM aC aZ zS zZ)) () hx hb hr hlocks rfl h hP hK hD hS dX6_meetsReachedSet_36
      · have h := hh2 hc
        refine lv_aload_n hx hb dX6_meetsReachedSet_10 rfl (lv_at hl 1 rfl) ?_
        refine va_get (D := D) (ci := 6) (v := .ref (aZ 0)) (C := RX6) (T := TX6) (N := 10) hx hb hts jX6_meetsReachedSet_X6 hown hK hP 0 rfl rfl 5 (by decide) (hts (.fieldLink RX6 47 "BrotherAutomata" "census" "LBrotherAutomata$Census;") (List.mem_of_getElem? (i := 1) rfl)) (fun _ h9 => h9) rfl dX6_meetsReachedSet_11 ?_
        refine lv_iload_n hx hb dX6_meetsReachedSet_14 rfl (lv_at hl 0 rfl) ?_
        refine xcalli (wr := (wS cI aS aT aB aH aM aC aZ zS)) (w2 := fun (u15 : Unit) => (wS cI aS aT aB aH aM aC aZ zS ++ (wZ cI aZ zZ))) (va_runV (As := [.int y2]) (rest := []) ⟨hx, hb, hml, hown, hts⟩ (mX0_isReached l D cI cO tA tS aZ zZ y2 _ h) (cwV 1 hts gX6_meetsReachedSet_X0_isReached rfl rfl rfl (by decide +kernel) ⟨Nat.le_of_ble_eq_true rfl, Nat.le_of_ble_eq_true rfl⟩) (xpreV hP hD hS hA hK hE [2, 3, 4, 5] rfl rfl 0 2 rfl rfl) rfl rfl hl.1 rfl (lv_room (Nat.le_of_ble_eq_true rfl)) dX6_meetsReachedSet_15 ⟨Nat.le_refl 0, Nat.le_refl 0⟩) hP hD hS hA [2, 3, 4, 5] [0, 1] [0, 1, 2, 3, 4, 5] rfl rfl rfl (by decide) rfl (fun _ => rfl) (fun r15 u15 H locs h hP hD hS => ?_)
        obtain ⟨hh1, hh2⟩ := h
        refine lv_if_eq (tgt := 29) hx hb dX6_meetsReachedSet_18 (by decide) (fun hc => ?_) (fun hc => ?_)
        · have h := hh1 hc
          exact g29 (qX6_meetsReachedSet_2 post x1 zS zZ n) hk2 y2 _ _ _ h hP hD hS hl
        · have h := hh2 hc
          refine lv_iload_n hx hb dX6_meetsReachedSet_21 rfl (lv_at hl 0 rfl) ?_
          refine lv_iload_n hx hb dX6_meetsReachedSet_22 rfl (lv_at hl 2 rfl) ?_
          refine lv_iand hx hb dX6_meetsReachedSet_23 ?_
          obtain ⟨hh1, hh2⟩ := h
          refine lv_if_eq (tgt := 29) hx hb dX6_meetsReachedSet_24 (by decide) (fun hc => ?_) (fun hc => ?_)
          · have h := hh1 hc
            exact g29 (qX6_meetsReachedSet_2 post x1 zS zZ n) hk2 y2 _ _ _ h hP hD hS hl
          · have h := hh2 hc
            refine lv_iconst (v := 1) hx hb dX6_meetsReachedSet_27 (by decide) ?_
            exact xzret (w := (w_X6_meetsReachedSet cI cO aS aT aB aH aM aC aZ zS zZ)) () hx hb hr hlocks rfl h hP hK hD hS dX6_meetsReachedSet_28
  refine lv_iconst (v := 0) hx hb dX6_meetsReachedSet_0 (by decide) ?_
  refine lv_istore_n (lv' := [(2, .int (0 : Int32)), (0, .ref (aS 0)), (1, .int x1)]) hx hb dX6_meetsReachedSet_1 rfl hl (by decide) rfl (fun ls hl => ?_)
  obtain ⟨n0, h⟩ := h
  exact g2 n0 (0 : Int32) _ _ _ h hP hD hS hl
set_option maxRecDepth 20000 in
theorem ggX6_isReachable_X6_isState : GoodIn wsX6_isReachable wsX6_isState := goodIn_r _ [5, 6, 81, 82, 83, 84, 85, 86, 87, 88, 89, 90] (by decide +kernel) (by decide +kernel)
set_option maxRecDepth 20000 in
theorem gX6_isReachable_X6_isState : GoodIn wsX6_isReachable (wsV RX6 75 RX6 yX6_isState wsX6_isState) := goodIn_app (goodIn_of _ (by decide +kernel)) ggX6_isReachable_X6_isState
set_option maxRecDepth 20000 in
theorem ggX6_isReachable_X6_renewCensus : GoodIn wsX6_isReachable wsX6_renewCensus := goodIn_r _ [10, 11, 12, 13, 14, 15, 16, 4, 17, 6, 18, 19, 20, 21, 22, 23, 24, 25, 26, 27, 28, 29, 30, 31, 32, 33, 34, 35, 36, 37, 38, 39, 40, 41, 42, 43, 44, 45, 46, 47, 48, 49, 50, 51, 52, 53, 54, 55, 56, 57, 58, 59, 60, 61, 62, 63, 64, 65, 66, 67, 68, 69, 70, 71, 72, 81, 82, 83, 84, 85, 86, 87, 88, 89, 90, 91, 92, 93, 94, 95, 96, 97, 98, 99] (by decide +kernel) (by decide +kernel)
set_option maxRecDepth 20000 in
theorem gX6_isReachable_X6_renewCensus : GoodIn wsX6_isReachable (wsV RX6 175 RX6 yX6_renewCensus wsX6_renewCensus) := goodIn_app (goodIn_of _ (by decide +kernel)) ggX6_isReachable_X6_renewCensus
set_option maxRecDepth 20000 in
theorem ggX6_isReachable_X6_meetsReachedSet : GoodIn wsX6_isReachable wsX6_meetsReachedSet := goodIn_r _ [76, 12, 14, 15, 16, 4, 17, 6, 77, 78, 79, 21, 80, 23, 81, 82, 83, 84, 85, 86, 87, 88, 89, 90, 91, 92, 93] (by decide +kernel) (by decide +kernel)
set_option maxRecDepth 20000 in
theorem gX6_isReachable_X6_meetsReachedSet : GoodIn wsX6_isReachable (wsV RX6 184 RX6 yX6_meetsReachedSet wsX6_meetsReachedSet) := goodIn_app (goodIn_of _ (by decide +kernel)) ggX6_isReachable_X6_meetsReachedSet
theorem dX6_isReachable_0 : decode cX6_isReachable 0 = .ok (.aload_n 0, 1) := by decide +kernel
theorem dX6_isReachable_1 : decode cX6_isReachable 1 = .ok (.iload_n 1, 1) := by decide +kernel
theorem dX6_isReachable_2 : decode cX6_isReachable 2 = .ok (.invokevirtual 75, 3) := by decide +kernel
theorem dX6_isReachable_5 : decode cX6_isReachable 5 = .ok (.ifCond .ne 5, 3) := by decide +kernel
theorem dX6_isReachable_8 : decode cX6_isReachable 8 = .ok (.iconst (-1), 1) := by decide +kernel
theorem dX6_isReachable_9 : decode cX6_isReachable 9 = .ok (.ireturn, 1) := by decide +kernel
theorem dX6_isReachable_10 : decode cX6_isReachable 10 = .ok (.aload_n 0, 1) := by decide +kernel
theorem dX6_isReachable_11 : decode cX6_isReachable 11 = .ok (.invokevirtual 175, 3) := by decide +kernel
theorem dX6_isReachable_14 : decode cX6_isReachable 14 = .ok (.aload_n 0, 1) := by decide +kernel
theorem dX6_isReachable_15 : decode cX6_isReachable 15 = .ok (.iconst 1, 1) := by decide +kernel
theorem dX6_isReachable_16 : decode cX6_isReachable 16 = .ok (.iload_n 1, 1) := by decide +kernel
theorem dX6_isReachable_17 : decode cX6_isReachable 17 = .ok (.ishl, 1) := by decide +kernel
theorem dX6_isReachable_18 : decode cX6_isReachable 18 = .ok (.invokevirtual 184, 3) := by decide +kernel
theorem dX6_isReachable_21 : decode cX6_isReachable 21 = .ok (.ifCond .eq 7, 3) := by decide +kernel
theorem dX6_isReachable_24 : decode cX6_isReachable 24 = .ok (.iconst 1, 1) := by decide +kernel
theorem dX6_isReachable_25 : decode cX6_isReachable 25 = .ok (.goto 4, 3) := by decide +kernel
theorem dX6_isReachable_28 : decode cX6_isReachable 28 = .ok (.iconst 0, 1) := by decide +kernel
theorem dX6_isReachable_29 : decode cX6_isReachable 29 = .ok (.ireturn, 1) := by decide +kernel
abbrev w_X6_isReachable (cI cO : ClassId) (aS : Nat → Nat) (aT : Nat → Nat) (aB : Nat → Nat) (aH : Nat → Nat) (aM : Nat → Nat) (aC : Nat → Nat) (aZ : Nat → Nat) (zM : CS) : ((CS) × (CS)) → va_W := fun u => (wS cI aS aT aB aH aM aC aZ u.1 ++ (wM cI aM zM ++ (wZ cI aZ u.2)))
set_option maxRecDepth 100000 in
set_option maxHeartbeats 8000000 in
theorem mX6_isReachable (l : Launch) (D : va_G) (cI cO : ClassId) (tA tS : Nat) (aS : Nat → Nat) (aT : Nat → Nat) (aB : Nat → Nat) (aH : Nat → Nat) (aM : Nat → Nat) (aC : Nat → Nat) (aZ : Nat → Nat) (zS : CS) (zM : CS) (zZ : CS) (x1 : Int32) (sz : Nat) {post : Int32 → ((CS) × (CS)) → Prop} (h : qX6_isReachable post x1 zS zM zZ) : Met l yX6_isReachable wsX6_isReachable ({ frames := 6, cells := 0, slots := 0, locals := 136 } : Room) (xPre D cI cO tA tS [.ref (aS 0), .int x1] (wS cI aS aT aB aH aM aC aZ zS ++ (wM cI aM zM ++ (wZ cI aZ zZ))) sz) (va_Qi post (xB D cI cO (va_A (wS cI aS aT aB aH aM aC aZ zS ++ (wM cI aM zM ++ (wZ cI aZ zZ))) sz) (w_X6_isReachable cI cO aS aT aB aH aM aC aZ zM)) (va_A (wS cI aS aT aB aH aM aC aZ zS ++ (wM cI aM zM ++ (wZ cI aZ zZ))) sz)) 0 0 (va_A (wS cI aS aT aB aH aM aC aZ zS ++ (wM cI aM zM ++ (wZ cI aZ zZ))) sz) := by
  refine xMet D cI cO tA tS (fun A => va_Qi post (xB D cI cO A (w_X6_isReachable cI cO aS aT aB aH aM aC aZ zM)) A) (cc := cX6_isReachable) (maxL := 2) (ret := (some .int)) (by decide) rfl (Nat.le_of_ble_eq_true rfl) ?_
  intro p e s m below meth c A ls hx hb hr hts hown hlocks hin hml hA hS hP hK hD hE hl
  have hown : s.vm.findClass RX6 = some m.cls := hown
  have hl : lv_has ls 2 [(0, .ref (aS 0)), (1, .int x1)] := hl
  refine lv_aload_n hx hb dX6_isReachable_0 rfl (lv_at hl 0 rfl) ?_
  refine lv_iload_n hx hb dX6_isReachable_1 rfl (lv_at hl 1 rfl) ?_
  refine xcalli (wr := (wM cI aM zM ++ (wZ cI aZ zZ))) (w2 := fun (u2 : Unit) => (wS cI aS aT aB aH aM aC aZ zS ++ (wM cI aM zM ++ (wZ cI aZ zZ)))) (va_runV (As := [.int x1]) (rest := []) ⟨hx, hb, hml, hown, hts⟩ (mX6_isState l D cI cO tA tS aS aT aB aH aM aC aZ zS x1 _ h) (cwV 1 hts gX6_isReachable_X6_isState rfl rfl rfl (by decide +kernel) ⟨Nat.le_of_ble_eq_true rfl, Nat.le_of_ble_eq_true rfl⟩) (xpreV hP hD hS hA hK hE [0, 1] rfl rfl 6 0 rfl rfl) rfl rfl hl.1 rfl (lv_room (Nat.le_of_ble_eq_true rfl)) dX6_isReachable_2 ⟨Nat.le_refl 0, Nat.le_refl 0⟩) hP hD hS hA [0, 1] [2, 3, 4, 5, 6, 7, 8, 9, 10] [9, 10, 0, 1, 2, 3, 4, 5, 6, 7, 8] rfl rfl rfl (by decide) rfl (fun _ => rfl) (fun r2 u2 H locs h hP hD hS => ?_)
  obtain ⟨hh1, hh2⟩ := h
  refine lv_if_ne (tgt := 10) hx hb dX6_isReachable_5 (by decide) (fun hc => ?_) (fun hc => ?_)
  · have h := hh2 hc
    refine lv_aload_n hx hb dX6_isReachable_10 rfl (lv_at hl 0 rfl) ?_
    refine xcallv (wr := ([] : va_W)) (w2 := fun (u11 : (CS) × (CS)) => (wS cI aS aT aB aH aM aC aZ u11.1 ++ (wM cI aM zM ++ (wZ cI aZ u11.2)))) (va_runV (As := []) (rest := []) ⟨hx, hb, hml, hown, hts⟩ (mX6_renewCensus l D cI cO tA tS aS aT aB aH aM aC aZ zS zM zZ _ h) (cwV 0 hts gX6_isReachable_X6_renewCensus rfl rfl rfl (by decide +kernel) ⟨Nat.le_of_ble_eq_true rfl, Nat.le_of_ble_eq_true rfl⟩) (xpreV hP hD hS hA hK hE [0, 1, 2, 3, 4, 5, 6, 7, 8, 9, 10] rfl rfl 6 0 rfl rfl) rfl rfl hl.1 rfl (lv_room (Nat.le_of_ble_eq_true rfl)) dX6_isReachable_11 ⟨Nat.le_refl 0, Nat.le_refl 0⟩) hP hD hS hA [0, 1, 2, 3, 4, 5, 6, 7, 8, 9, 10] [] [0, 1, 2, 3, 4, 5, 6, 7, 8, 9, 10] rfl rfl rfl (by decide) rfl (fun _ => rfl) (fun u11 H locs h hP hD hS => ?_)
    refine lv_aload_n hx hb dX6_isReachable_14 rfl (lv_at hl 0 rfl) ?_
    refine lv_iconst (v := 1) hx hb dX6_isReachable_15 (by decide) ?_
    refine lv_iload_n hx hb dX6_isReachable_16 rfl (lv_at hl 1 rfl) ?_
    refine lv_ishl hx hb dX6_isReachable_17 ?_
    refine xcalli (wr := (wM cI aM zM)) (w2 := fun (u18 : Unit) => (wS cI aS aT aB aH aM aC aZ u11.1 ++ (wM cI aM zM ++ (wZ cI aZ u11.2)))) (va_runV (As := [.int ((1 : Int32) <<< (x1 &&& 31))]) (rest := []) ⟨hx, hb, hml, hown, hts⟩ (mX6_meetsReachedSet l D cI cO tA tS aS aT aB aH aM aC aZ u11.1 u11.2 ((1 : Int32) <<< (x1 &&& 31)) _ h) (cwV 1 hts gX6_isReachable_X6_meetsReachedSet rfl rfl rfl (by decide +kernel) ⟨Nat.le_of_ble_eq_true rfl, Nat.le_of_ble_eq_true rfl⟩) (xpreV hP hD hS hA hK hE [0, 1, 7, 8, 9, 10] rfl rfl 6 0 rfl rfl) rfl rfl hl.1 rfl (lv_room (Nat.le_of_ble_eq_true rfl)) dX6_isReachable_18 ⟨Nat.le_refl 0, Nat.le_refl 0⟩) hP hD hS hA [0, 1, 7, 8, 9, 10] [2, 3, 4, 5, 6] [5, 6, 0, 1, 2, 3, 4, 7, 8, 9, 10] rfl rfl rfl (by decide) rfl (fun _ => rfl) (fun r18 u18 H locs h hP hD hS => ?_)
    obtain ⟨hh1, hh2⟩ := h
    refine lv_if_eq (tgt := 28) hx hb dX6_isReachable_21 (by decide) (fun hc => ?_) (fun hc => ?_)
    · have h := hh1 hc
      refine lv_iconst (v := 0) hx hb dX6_isReachable_28 (by decide) ?_
      exact xiret (w := (w_X6_isReachable cI cO aS aT aB aH aM aC aZ zM)) (u11.1, u11.2) hx hb hr hlocks h hP hK hD hS dX6_isReachable_29
    · have h := hh2 hc
      refine lv_iconst (v := 1) hx hb dX6_isReachable_24 (by decide) ?_
      refine lv_goto (tgt := 29) hx hb dX6_isReachable_25 (by decide) ?_
      exact xiret (w := (w_X6_isReachable cI cO aS aT aB aH aM aC aZ zM)) (u11.1, u11.2) hx hb hr hlocks h hP hK hD hS dX6_isReachable_29
  · have h := hh1 hc
    refine lv_iconst (v := -1) hx hb dX6_isReachable_8 (by decide) ?_
    exact xiret (w := (w_X6_isReachable cI cO aS aT aB aH aM aC aZ zM)) (zS, zZ) hx hb hr hlocks h hP hK hD hS dX6_isReachable_9
set_option maxRecDepth 20000 in
theorem ggX6_isEmpty_X6_renewCensus : GoodIn wsX6_isEmpty wsX6_renewCensus := goodIn_r _ [6, 7, 8, 9, 10, 11, 12, 5, 13, 14, 15, 16, 17, 18, 19, 20, 21, 22, 23, 24, 25, 26, 27, 28, 29, 30, 31, 32, 33, 34, 35, 36, 37, 38, 39, 40, 41, 42, 43, 44, 45, 46, 47, 48, 49, 50, 51, 52, 53, 54, 55, 56, 57, 58, 59, 60, 61, 62, 63, 64, 65, 66, 67, 68, 69, 78, 79, 80, 81, 82, 83, 84, 85, 86, 87, 95, 96, 97, 98, 99, 100, 101, 102, 103] (by decide +kernel) (by decide +kernel)
set_option maxRecDepth 20000 in
theorem gX6_isEmpty_X6_renewCensus : GoodIn wsX6_isEmpty (wsV RX6 175 RX6 yX6_renewCensus wsX6_renewCensus) := goodIn_app (goodIn_of _ (by decide +kernel)) ggX6_isEmpty_X6_renewCensus
set_option maxRecDepth 20000 in
theorem ggX6_isEmpty_X6_meetsReachedSet : GoodIn wsX6_isEmpty wsX6_meetsReachedSet := goodIn_r _ [73, 8, 10, 11, 12, 5, 13, 14, 74, 75, 76, 18, 77, 20, 78, 79, 80, 81, 82, 83, 84, 85, 86, 87, 95, 96, 97] (by decide +kernel) (by decide +kernel)
set_option maxRecDepth 20000 in
theorem gX6_isEmpty_X6_meetsReachedSet : GoodIn wsX6_isEmpty (wsV RX6 184 RX6 yX6_meetsReachedSet wsX6_meetsReachedSet) := goodIn_app (goodIn_of _ (by decide +kernel)) ggX6_isEmpty_X6_meetsReachedSet
theorem dX6_isEmpty_0 : decode cX6_isEmpty 0 = .ok (.aload_n 0, 1) := by decide +kernel
theorem dX6_isEmpty_1 : decode cX6_isEmpty 1 = .ok (.invokevirtual 175, 3) := by decide +kernel
theorem dX6_isEmpty_4 : decode cX6_isEmpty 4 = .ok (.aload_n 0, 1) := by decide +kernel
theorem dX6_isEmpty_5 : decode cX6_isEmpty 5 = .ok (.aload_n 0, 1) := by decide +kernel
theorem dX6_isEmpty_6 : decode cX6_isEmpty 6 = .ok (.getfield 19, 3) := by decide +kernel
theorem dX6_isEmpty_9 : decode cX6_isEmpty 9 = .ok (.getfield 87, 3) := by decide +kernel
theorem dX6_isEmpty_12 : decode cX6_isEmpty 12 = .ok (.invokevirtual 184, 3) := by decide +kernel
theorem dX6_isEmpty_15 : decode cX6_isEmpty 15 = .ok (.ifCond .eq 7, 3) := by decide +kernel
theorem dX6_isEmpty_18 : decode cX6_isEmpty 18 = .ok (.iconst 0, 1) := by decide +kernel
theorem dX6_isEmpty_19 : decode cX6_isEmpty 19 = .ok (.goto 4, 3) := by decide +kernel
theorem dX6_isEmpty_22 : decode cX6_isEmpty 22 = .ok (.iconst 1, 1) := by decide +kernel
theorem dX6_isEmpty_23 : decode cX6_isEmpty 23 = .ok (.ireturn, 1) := by decide +kernel
theorem jX6_isEmpty_X6 : ∀ w ∈ wsX60, w ∈ wsX6_isEmpty := by decide +kernel
theorem jX6_isEmpty_X2 : ∀ w ∈ wsX20, w ∈ wsX6_isEmpty := by decide +kernel
abbrev w_X6_isEmpty (cI cO : ClassId) (aS : Nat → Nat) (aT : Nat → Nat) (aB : Nat → Nat) (aH : Nat → Nat) (aM : Nat → Nat) (aC : Nat → Nat) (aZ : Nat → Nat) (zB : CS) (zM : CS) : ((CS) × (CS)) → va_W := fun u => (wS cI aS aT aB aH aM aC aZ u.1 ++ (wB cI aB zB ++ (wM cI aM zM ++ (wZ cI aZ u.2))))
set_option maxRecDepth 100000 in
set_option maxHeartbeats 8000000 in
theorem mX6_isEmpty (l : Launch) (D : va_G) (cI cO : ClassId) (tA tS : Nat) (aS : Nat → Nat) (aT : Nat → Nat) (aB : Nat → Nat) (aH : Nat → Nat) (aM : Nat → Nat) (aC : Nat → Nat) (aZ : Nat → Nat) (zS : CS) (zB : CS) (zM : CS) (zZ : CS)  (sz : Nat) {post : Int32 → ((CS) × (CS)) → Prop} (h : qX6_isEmpty post zS zB zM zZ) : Met l yX6_isEmpty wsX6_isEmpty ({ frames := 6, cells := 0, slots := 0, locals := 136 } : Room) (xPre D cI cO tA tS [.ref (aS 0)] (wS cI aS aT aB aH aM aC aZ zS ++ (wB cI aB zB ++ (wM cI aM zM ++ (wZ cI aZ zZ)))) sz) (va_Qi post (xB D cI cO (va_A (wS cI aS aT aB aH aM aC aZ zS ++ (wB cI aB zB ++ (wM cI aM zM ++ (wZ cI aZ zZ)))) sz) (w_X6_isEmpty cI cO aS aT aB aH aM aC aZ zB zM)) (va_A (wS cI aS aT aB aH aM aC aZ zS ++ (wB cI aB zB ++ (wM cI aM zM ++ (wZ cI aZ zZ)))) sz)) 0 0 (va_A (wS cI aS aT aB aH aM aC aZ zS ++ (wB cI aB zB ++ (wM cI aM zM ++ (wZ cI aZ zZ)))) sz) := by
  refine xMet D cI cO tA tS (fun A => va_Qi post (xB D cI cO A (w_X6_isEmpty cI cO aS aT aB aH aM aC aZ zB zM)) A) (cc := cX6_isEmpty) (maxL := 1) (ret := (some .int)) (by decide) rfl (Nat.le_of_ble_eq_true rfl) ?_
  intro p e s m below meth c A ls hx hb hr hts hown hlocks hin hml hA hS hP hK hD hE hl
  have hown : s.vm.findClass RX6 = some m.cls := hown
  have hl : lv_has ls 1 [(0, .ref (aS 0))] := hl
  refine lv_aload_n hx hb dX6_isEmpty_0 rfl (lv_at hl 0 rfl) ?_
  refine xcallv (wr := (wB cI aB zB)) (w2 := fun (u1 : (CS) × (CS)) => (wS cI aS aT aB aH aM aC aZ u1.1 ++ (wB cI aB zB ++ (wM cI aM zM ++ (wZ cI aZ u1.2))))) (va_runV (As := []) (rest := []) ⟨hx, hb, hml, hown, hts⟩ (mX6_renewCensus l D cI cO tA tS aS aT aB aH aM aC aZ zS zM zZ _ h) (cwV 0 hts gX6_isEmpty_X6_renewCensus rfl rfl rfl (by decide +kernel) ⟨Nat.le_of_ble_eq_true rfl, Nat.le_of_ble_eq_true rfl⟩) (xpreV hP hD hS hA hK hE [0, 1, 8, 9, 10, 11, 12, 13, 14, 15, 16] rfl rfl 6 0 rfl rfl) rfl rfl hl.1 rfl (lv_room (Nat.le_of_ble_eq_true rfl)) dX6_isEmpty_1 ⟨Nat.le_refl 0, Nat.le_refl 0⟩) hP hD hS hA [0, 1, 8, 9, 10, 11, 12, 13, 14, 15, 16] [2, 3, 4, 5, 6, 7] [6, 7, 0, 1, 2, 3, 4, 5, 8, 9, 10, 11, 12, 13, 14, 15, 16] rfl rfl rfl (by decide) rfl (fun _ => rfl) (fun u1 H locs h hP hD hS => ?_)
  refine lv_aload_n hx hb dX6_isEmpty_4 rfl (lv_at hl 0 rfl) ?_
  refine lv_aload_n hx hb dX6_isEmpty_5 rfl (lv_at hl 0 rfl) ?_
  refine va_get (D := D) (ci := 6) (v := .ref (aB 0)) (C := RX6) (T := TX6) (N := 10) hx hb hts jX6_isEmpty_X6 hown hK hP 0 rfl rfl 1 (by decide) (hts (.fieldLink RX6 19 "BrotherAutomata" "book" "LBrotherAutomata$RuleBook;") (List.mem_of_getElem? (i := 1) rfl)) (fun _ h9 => h9) rfl dX6_isEmpty_6 ?_
  refine va_getN (D := D) (ci := 2) (v := .int (zB 5 1)) (C := RX2) (T := TX2) (N := 7) hx hb hts jX6_isEmpty_X2 hown hK hP 2 rfl rfl 6 (by decide) (va_Nw.use (w := .fieldLinkNest RX6 87 "BrotherAutomata$RuleBook" "finals" "I" "BrotherAutomata") rfl (hE.1 _ (List.mem_of_getElem? (i := 18) rfl))) (fun _ h9 => h9) rfl dX6_isEmpty_9 ?_
  refine xcalli (wr := (wB cI aB zB ++ (wM cI aM zM))) (w2 := fun (u12 : Unit) => (wS cI aS aT aB aH aM aC aZ u1.1 ++ (wB cI aB zB ++ (wM cI aM zM ++ (wZ cI aZ u1.2))))) (va_runV (As := [.int (zB 5 1)]) (rest := []) ⟨hx, hb, hml, hown, hts⟩ (mX6_meetsReachedSet l D cI cO tA tS aS aT aB aH aM aC aZ u1.1 u1.2 (zB 5 1) _ h) (cwV 1 hts gX6_isEmpty_X6_meetsReachedSet rfl rfl rfl (by decide +kernel) ⟨Nat.le_of_ble_eq_true rfl, Nat.le_of_ble_eq_true rfl⟩) (xpreV hP hD hS hA hK hE [0, 1, 13, 14, 15, 16] rfl rfl 6 0 rfl rfl) rfl rfl hl.1 rfl (lv_room (Nat.le_of_ble_eq_true rfl)) dX6_isEmpty_12 ⟨Nat.le_refl 0, Nat.le_refl 0⟩) hP hD hS hA [0, 1, 13, 14, 15, 16] [2, 3, 4, 5, 6, 7, 8, 9, 10, 11, 12] [11, 12, 0, 1, 2, 3, 4, 5, 6, 7, 8, 9, 10, 13, 14, 15, 16] rfl rfl rfl (by decide) rfl (fun _ => rfl) (fun r12 u12 H locs h hP hD hS => ?_)
  obtain ⟨hh1, hh2⟩ := h
  refine lv_if_eq (tgt := 22) hx hb dX6_isEmpty_15 (by decide) (fun hc => ?_) (fun hc => ?_)
  · have h := hh1 hc
    refine lv_iconst (v := 1) hx hb dX6_isEmpty_22 (by decide) ?_
    exact xiret (w := (w_X6_isEmpty cI cO aS aT aB aH aM aC aZ zB zM)) (u1.1, u1.2) hx hb hr hlocks h hP hK hD hS dX6_isEmpty_23
  · have h := hh2 hc
    refine lv_iconst (v := 0) hx hb dX6_isEmpty_18 (by decide) ?_
    refine lv_goto (tgt := 23) hx hb dX6_isEmpty_19 (by decide) ?_
    exact xiret (w := (w_X6_isEmpty cI cO aS aT aB aH aM aC aZ zB zM)) (u1.1, u1.2) hx hb hr hlocks h hP hK hD hS dX6_isEmpty_23
set_option maxRecDepth 20000 in
theorem ggX6_isUniversal_X6_renewCensus : GoodIn wsX6_isUniversal wsX6_renewCensus := goodIn_r _ [7, 8, 1, 9, 10, 11, 12, 6, 13, 14, 15, 16, 17, 18, 19, 20, 21, 22, 23, 24, 25, 26, 27, 28, 29, 30, 31, 32, 33, 34, 35, 36, 37, 38, 39, 40, 41, 42, 43, 44, 45, 46, 47, 48, 49, 50, 51, 52, 53, 54, 55, 56, 57, 58, 59, 60, 61, 62, 63, 64, 65, 66, 67, 68, 69, 74, 75, 76, 77, 78, 79, 80, 81, 82, 83, 91, 92, 93, 94, 95, 96, 97, 98, 99] (by decide +kernel) (by decide +kernel)
set_option maxRecDepth 20000 in
theorem gX6_isUniversal_X6_renewCensus : GoodIn wsX6_isUniversal (wsV RX6 175 RX6 yX6_renewCensus wsX6_renewCensus) := goodIn_app (goodIn_of _ (by decide +kernel)) ggX6_isUniversal_X6_renewCensus
set_option maxRecDepth 20000 in
theorem ggX6_isUniversal_X6_setCount : GoodIn wsX6_isUniversal wsX6_setCount := goodIn_r _ [13, 14, 74, 75, 76, 77, 78, 79, 80, 81, 82, 83] (by decide +kernel) (by decide +kernel)
set_option maxRecDepth 20000 in
theorem gX6_isUniversal_X6_setCount : GoodIn wsX6_isUniversal (wsV RX6 171 RX6 yX6_setCount wsX6_setCount) := goodIn_app (goodIn_of _ (by decide +kernel)) ggX6_isUniversal_X6_setCount
set_option maxRecDepth 20000 in
theorem ggX6_isUniversal_X0_isReached : GoodIn wsX6_isUniversal wsX0_isReached := goodIn_r _ [73, 20, 91, 92, 93] (by decide +kernel) (by decide +kernel)
set_option maxRecDepth 20000 in
theorem gX6_isUniversal_X0_isReached : GoodIn wsX6_isUniversal (wsV RX6 181 RX0 yX0_isReached wsX0_isReached) := goodIn_app (goodIn_of _ (by decide +kernel)) ggX6_isUniversal_X0_isReached
theorem dX6_isUniversal_0 : decode cX6_isUniversal 0 = .ok (.aload_n 0, 1) := by decide +kernel
theorem dX6_isUniversal_1 : decode cX6_isUniversal 1 = .ok (.invokevirtual 175, 3) := by decide +kernel
theorem dX6_isUniversal_4 : decode cX6_isUniversal 4 = .ok (.iconst 0, 1) := by decide +kernel
theorem dX6_isUniversal_5 : decode cX6_isUniversal 5 = .ok (.istore_n 1, 1) := by decide +kernel
theorem dX6_isUniversal_6 : decode cX6_isUniversal 6 = .ok (.iload_n 1, 1) := by decide +kernel
theorem dX6_isUniversal_7 : decode cX6_isUniversal 7 = .ok (.aload_n 0, 1) := by decide +kernel
theorem dX6_isUniversal_8 : decode cX6_isUniversal 8 = .ok (.invokevirtual 171, 3) := by decide +kernel
theorem dX6_isUniversal_11 : decode cX6_isUniversal 11 = .ok (.if_icmp .ge 34, 3) := by decide +kernel
theorem dX6_isUniversal_14 : decode cX6_isUniversal 14 = .ok (.aload_n 0, 1) := by decide +kernel
theorem dX6_isUniversal_15 : decode cX6_isUniversal 15 = .ok (.getfield 47, 3) := by decide +kernel
theorem dX6_isUniversal_18 : decode cX6_isUniversal 18 = .ok (.iload_n 1, 1) := by decide +kernel
theorem dX6_isUniversal_19 : decode cX6_isUniversal 19 = .ok (.invokevirtual 181, 3) := by decide +kernel
theorem dX6_isUniversal_22 : decode cX6_isUniversal 22 = .ok (.ifCond .eq 17, 3) := by decide +kernel
theorem dX6_isUniversal_25 : decode cX6_isUniversal 25 = .ok (.iload_n 1, 1) := by decide +kernel
theorem dX6_isUniversal_26 : decode cX6_isUniversal 26 = .ok (.aload_n 0, 1) := by decide +kernel
theorem dX6_isUniversal_27 : decode cX6_isUniversal 27 = .ok (.getfield 19, 3) := by decide +kernel
theorem dX6_isUniversal_30 : decode cX6_isUniversal 30 = .ok (.getfield 87, 3) := by decide +kernel
theorem dX6_isUniversal_33 : decode cX6_isUniversal 33 = .ok (.iand, 1) := by decide +kernel
theorem dX6_isUniversal_34 : decode cX6_isUniversal 34 = .ok (.ifCond .ne 5, 3) := by decide +kernel
theorem dX6_isUniversal_37 : decode cX6_isUniversal 37 = .ok (.iconst 0, 1) := by decide +kernel
theorem dX6_isUniversal_38 : decode cX6_isUniversal 38 = .ok (.ireturn, 1) := by decide +kernel
theorem dX6_isUniversal_39 : decode cX6_isUniversal 39 = .ok (.iinc 1 1, 3) := by decide +kernel
theorem dX6_isUniversal_42 : decode cX6_isUniversal 42 = .ok (.goto (-36), 3) := by decide +kernel
theorem dX6_isUniversal_45 : decode cX6_isUniversal 45 = .ok (.iconst 1, 1) := by decide +kernel
theorem dX6_isUniversal_46 : decode cX6_isUniversal 46 = .ok (.ireturn, 1) := by decide +kernel
theorem jX6_isUniversal_X6 : ∀ w ∈ wsX60, w ∈ wsX6_isUniversal := by decide +kernel
theorem jX6_isUniversal_X2 : ∀ w ∈ wsX20, w ∈ wsX6_isUniversal := by decide +kernel
abbrev w_X6_isUniversal (cI cO : ClassId) (aS : Nat → Nat) (aT : Nat → Nat) (aB : Nat → Nat) (aH : Nat → Nat) (aM : Nat → Nat) (aC : Nat → Nat) (aZ : Nat → Nat) (zB : CS) (zM : CS) : ((CS) × (CS)) → va_W := fun u => (wS cI aS aT aB aH aM aC aZ u.1 ++ (wB cI aB zB ++ (wM cI aM zM ++ (wZ cI aZ u.2))))
set_option maxRecDepth 100000 in
set_option maxHeartbeats 8000000 in
theorem mX6_isUniversal (l : Launch) (D : va_G) (cI cO : ClassId) (tA tS : Nat) (aS : Nat → Nat) (aT : Nat → Nat) (aB : Nat → Nat) (aH : Nat → Nat) (aM : Nat → Nat) (aC : Nat → Nat) (aZ : Nat → Nat) (zS : CS) (zB : CS) (zM : CS) (zZ : CS)  (sz : Nat) {post : Int32 → ((CS) × (CS)) → Prop} (h : qX6_isUniversal post zS zB zM zZ) : Met l yX6_isUniversal wsX6_isUniversal ({ frames := 6, cells := 0, slots := 0, locals := 136 } : Room) (xPre D cI cO tA tS [.ref (aS 0)] (wS cI aS aT aB aH aM aC aZ zS ++ (wB cI aB zB ++ (wM cI aM zM ++ (wZ cI aZ zZ)))) sz) (va_Qi post (xB D cI cO (va_A (wS cI aS aT aB aH aM aC aZ zS ++ (wB cI aB zB ++ (wM cI aM zM ++ (wZ cI aZ zZ)))) sz) (w_X6_isUniversal cI cO aS aT aB aH aM aC aZ zB zM)) (va_A (wS cI aS aT aB aH aM aC aZ zS ++ (wB cI aB zB ++ (wM cI aM zM ++ (wZ cI aZ zZ)))) sz)) 0 0 (va_A (wS cI aS aT aB aH aM aC aZ zS ++ (wB cI aB zB ++ (wM cI aM zM ++ (wZ cI aZ zZ)))) sz) := by
  refine xMet D cI cO tA tS (fun A => va_Qi post (xB D cI cO A (w_X6_isUniversal cI cO aS aT aB aH aM aC aZ zB zM)) A) (cc := cX6_isUniversal) (maxL := 2) (ret := (some .int)) (by decide) rfl (Nat.le_of_ble_eq_true rfl) ?_
  intro p e s m below meth c A ls hx hb hr hts hown hlocks hin hml hA hS hP hK hD hE hl
  have hown : s.vm.findClass RX6 = some m.cls := hown
  have hl : lv_has ls 2 [(0, .ref (aS 0))] := hl
  have g39 : ∀ (k6 : (Int32) → (CS) → (CS) → Prop), (∀ (y1 : Int32) (zS : CS) (zZ : CS) (H : Heap) (locs : List Loc) (ls : Array Slot), k6 y1 zS zZ → va_P D vwCl (wS cI aS aT aB aH aM aC aZ zS ++ (wB cI aB zB ++ (wM cI aM zM ++ (wZ cI aZ zZ)))) H → va_D A (wS cI aS aT aB aH aM aC aZ zS ++ (wB cI aB zB ++ (wM cI aM zM ++ (wZ cI aZ zZ)))) → va_S A s.heap H locs → lv_has ls 2 [(1, .int y1), (0, .ref (aS 0))] → W p l e ({ frames := 6, cells := 0, slots := 0, locals := 136 } : Room) s m ([.ref (aS 0)] : List Value).toArray below meth c H locs 0 0 (MQ below (va_Qi post (xB D cI cO A (w_X6_isUniversal cI cO aS aT aB aH aM aC aZ zB zM)) A) ([.ref (aS 0)] : List Value).toArray s 0 0 A) (F0 m 6 ls [])) → ∀ (y1 : Int32) (zS : CS) (zZ : CS) (H : Heap) (locs : List Loc) (ls : Array Slot), qX6_isUniversal_39 post zB zM k6 y1 zS zZ → va_P D vwCl (wS cI aS aT aB aH aM aC aZ zS ++ (wB cI aB zB ++ (wM cI aM zM ++ (wZ cI aZ zZ)))) H → va_D A (wS cI aS aT aB aH aM aC aZ zS ++ (wB cI aB zB ++ (wM cI aM zM ++ (wZ cI aZ zZ)))) → va_S A s.heap H locs → lv_has ls 2 [(1, .int y1), (0, .ref (aS 0))] → W p l e ({ frames := 6, cells := 0, slots := 0, locals := 136 } : Room) s m ([.ref (aS 0)] : List Value).toArray below meth c H locs 0 0 (MQ below (va_Qi post (xB D cI cO A (w_X6_isUniversal cI cO aS aT aB aH aM aC aZ zB zM)) A) ([.ref (aS 0)] : List Value).toArray s 0 0 A) (F0 m 39 ls []) := by
    intro k6 hk6 y1 zS zZ H locs ls h hP hD hS hl
    refine lv_iinc (v := (y1 + (1 : Int32))) (lv' := [(1, .int (y1 + (1 : Int32))), (0, .ref (aS 0))]) hx hb dX6_isUniversal_39 hl (k := 0) rfl rfl (by decide) rfl (fun ls hl => ?_)
    refine lv_goto (tgt := 6) hx hb dX6_isUniversal_42 (by decide) ?_
    exact hk6 (y1 + (1 : Int32)) zS zZ _ _ _ h hP hD hS hl
  have g6 : ∀ (n : Nat) (y1 : Int32) (zS : CS) (zZ : CS) (H : Heap) (locs : List Loc) (ls : Array Slot), qX6_isUniversal_6 post zB zM n y1 zS zZ → va_P D vwCl (wS cI aS aT aB aH aM aC aZ zS ++ (wB cI aB zB ++ (wM cI aM zM ++ (wZ cI aZ zZ)))) H → va_D A (wS cI aS aT aB aH aM aC aZ zS ++ (wB cI aB zB ++ (wM cI aM zM ++ (wZ cI aZ zZ)))) → va_S A s.heap H locs → lv_has ls 2 [(1, .int y1), (0, .ref (aS 0))] → W p l e ({ frames := 6, cells := 0, slots := 0, locals := 136 } : Room) s m ([.ref (aS 0)] : List Value).toArray below meth c H locs 0 0 (MQ below (va_Qi post (xB D cI cO A (w_X6_isUniversal cI cO aS aT aB aH aM aC aZ zB zM)) A) ([.ref (aS 0)] : List Value).toArray s 0 0 A) (F0 m 6 ls []) := by
    intro n
    induction n with
    | zero => intro y1 zS zZ H locs ls h; exact False.elim h
    | succ n hk6 =>
      intro y1 zS zZ H locs ls h hP hD hS hl
      have h : qX6_isUniversal_6b post zB zM (qX6_isUniversal_6 post zB zM n) y1 zS zZ := h
      refine lv_iload_n hx hb dX6_isUniversal_6 rfl (lv_at hl 0 rfl) ?_
      refine lv_aload_n hx hb dX6_isUniversal_7 rfl (lv_at hl 1 rfl) ?_
      refine xcalli (wr := (wB cI aB zB ++ (wM cI aM zM ++ (wZ cI aZ zZ)))) (w2 := fun (u8 : Unit) => (wS cI aS aT aB aH aM aC aZ zS ++ (wB cI aB zB ++ (wM cI aM zM ++ (wZ cI aZ zZ))))) (va_runV (As := []) (rest := [.int y1]) ⟨hx, hb, hml, hown, hts⟩ (mX6_setCount l D cI cO tA tS aS aT aB aH aM aC aZ zS _ h) (cwV 0 hts gX6_isUniversal_X6_setCount rfl rfl rfl (by decide +kernel) ⟨Nat.le_of_ble_eq_true rfl, Nat.le_of_ble_eq_true rfl⟩) (xpreV hP hD hS hA hK hE [0, 1] rfl rfl 6 0 rfl rfl) rfl rfl hl.1 rfl (lv_room (Nat.le_of_ble_eq_true rfl)) dX6_isUniversal_8 ⟨Nat.le_refl 0, Nat.le_refl 0⟩) hP hD hS hA [0, 1] [2, 3, 4, 5, 6, 7, 8, 9, 10, 11, 12, 13, 14, 15, 16] [15, 16, 0, 1, 2, 3, 4, 5, 6, 7, 8, 9, 10, 11, 12, 13, 14] rfl rfl rfl (by decide) rfl (fun _ => rfl) (fun r8 u8 H locs h hP hD hS => ?_)
      obtain ⟨hh1, hh2⟩ := h
      refine lv_icmp_ge (tgt := 45) hx hb dX6_isUniversal_11 (by decide) (fun hc => ?_) (fun hc => ?_)
      · have h := hh1 hc
        refine lv_iconst (v := 1) hx hb dX6_isUniversal_45 (by decide) ?_
        exact xiret (w := (w_X6_isUniversal cI cO aS aT aB aH aM aC aZ zB zM)) (zS, zZ) hx hb hr hlocks h hP hK hD hS dX6_isUniversal_46
      · have h := hh2 hc
        refine lv_aload_n hx hb dX6_isUniversal_14 rfl (lv_at hl 1 rfl) ?_
        refine va_get (D := D) (ci := 6) (v := .ref (aZ 0)) (C := RX6) (T := TX6) (N := 10) hx hb hts jX6_isUniversal_X6 hown hK hP 0 rfl rfl 5 (by decide) (hts (.fieldLink RX6 47 "BrotherAutomata" "census" "LBrotherAutomata$Census;") (List.mem_of_getElem? (i := 1) rfl)) (fun _ h9 => h9) rfl dX6_isUniversal_15 ?_
        refine lv_iload_n hx hb dX6_isUniversal_18 rfl (lv_at hl 0 rfl) ?_
        refine xcalli (wr := (wS cI aS aT aB aH aM aC aZ zS ++ (wB cI aB zB ++ (wM cI aM zM)))) (w2 := fun (u19 : Unit) => (wS cI aS aT aB aH aM aC aZ zS ++ (wB cI aB zB ++ (wM cI aM zM ++ (wZ cI aZ zZ))))) (va_runV (As := [.int y1]) (rest := []) ⟨hx, hb, hml, hown, hts⟩ (mX0_isReached l D cI cO tA tS aZ zZ y1 _ h) (cwV 1 hts gX6_isUniversal_X0_isReached rfl rfl rfl (by decide +kernel) ⟨Nat.le_of_ble_eq_true rfl, Nat.le_of_ble_eq_true rfl⟩) (xpreV hP hD hS hA hK hE [13, 14, 15, 16] rfl rfl 0 13 rfl rfl) rfl rfl hl.1 rfl (lv_room (Nat.le_of_ble_eq_true rfl)) dX6_isUniversal_19 ⟨Nat.le_refl 0, Nat.le_refl 0⟩) hP hD hS hA [13, 14, 15, 16] [0, 1, 2, 3, 4, 5, 6, 7, 8, 9, 10, 11, 12] [0, 1, 2, 3, 4, 5, 6, 7, 8, 9, 10, 11, 12, 13, 14, 15, 16] rfl rfl rfl (by decide) rfl (fun _ => rfl) (fun r19 u19 H locs h hP hD hS => ?_)
        obtain ⟨hh1, hh2⟩ := h
        refine lv_if_eq (tgt := 39) hx hb dX6_isUniversal_22 (by decide) (fun hc => ?_) (fun hc => ?_)
        · have h := hh1 hc
          exact g39 (qX6_isUniversal_6 post zB zM n) hk6 y1 zS zZ _ _ _ h hP hD hS hl
        · have h := hh2 hc
          refine lv_iload_n hx hb dX6_isUniversal_25 rfl (lv_at hl 0 rfl) ?_
          refine lv_aload_n hx hb dX6_isUniversal_26 rfl (lv_at hl 1 rfl) ?_
          refine va_get (D := D) (ci := 6) (v := .ref (aB 0)) (C := RX6) (T := TX6) (N := 10) hx hb hts jX6_isUniversal_X6 hown hK hP 0 rfl rfl 1 (by decide) (hts (.fieldLink RX6 19 "BrotherAutomata" "book" "LBrotherAutomata$RuleBook;") (List.mem_of_getElem? (i := 2) rfl)) (fun _ h9 => h9) rfl dX6_isUniversal_27 ?_
          refine va_getN (D := D) (ci := 2) (v := .int (zB 5 1)) (C := RX2) (T := TX2) (N := 7) hx hb hts jX6_isUniversal_X2 hown hK hP 2 rfl rfl 6 (by decide) (va_Nw.use (w := .fieldLinkNest RX6 87 "BrotherAutomata$RuleBook" "finals" "I" "BrotherAutomata") rfl (hE.1 _ (List.mem_of_getElem? (i := 18) rfl))) (fun _ h9 => h9) rfl dX6_isUniversal_30 ?_
          refine lv_iand hx hb dX6_isUniversal_33 ?_
          obtain ⟨hh1, hh2⟩ := h
          refine lv_if_ne (tgt := 39) hx hb dX6_isUniversal_34 (by decide) (fun hc => ?_) (fun hc => ?_)
          · have h := hh2 hc
            exact g39 (qX6_isUniversal_6 post zB zM n) hk6 y1 zS zZ _ _ _ h hP hD hS hl
          · have h := hh1 hc
            refine lv_iconst (v := 0) hx hb dX6_isUniversal_37 (by decide) ?_
            exact xiret (w := (w_X6_isUniversal cI cO aS aT aB aH aM aC aZ zB zM)) (zS, zZ) hx hb hr hlocks h hP hK hD hS dX6_isUniversal_38
  refine lv_aload_n hx hb dX6_isUniversal_0 rfl (lv_at hl 0 rfl) ?_
  refine xcallv (wr := (wB cI aB zB)) (w2 := fun (u1 : (CS) × (CS)) => (wS cI aS aT aB aH aM aC aZ u1.1 ++ (wB cI aB zB ++ (wM cI aM zM ++ (wZ cI aZ u1.2))))) (va_runV (As := []) (rest := []) ⟨hx, hb, hml, hown, hts⟩ (mX6_renewCensus l D cI cO tA tS aS aT aB aH aM aC aZ zS zM zZ _ h) (cwV 0 hts gX6_isUniversal_X6_renewCensus rfl rfl rfl (by decide +kernel) ⟨Nat.le_of_ble_eq_true rfl, Nat.le_of_ble_eq_true rfl⟩) (xpreV hP hD hS hA hK hE [0, 1, 8, 9, 10, 11, 12, 13, 14, 15, 16] rfl rfl 6 0 rfl rfl) rfl rfl hl.1 rfl (lv_room (Nat.le_of_ble_eq_true rfl)) dX6_isUniversal_1 ⟨Nat.le_refl 0, Nat.le_refl 0⟩) hP hD hS hA [0, 1, 8, 9, 10, 11, 12, 13, 14, 15, 16] [2, 3, 4, 5, 6, 7] [6, 7, 0, 1, 2, 3, 4, 5, 8, 9, 10, 11, 12, 13, 14, 15, 16] rfl rfl rfl (by decide) rfl (fun _ => rfl) (fun u1 H locs h hP hD hS => ?_)
  refine lv_iconst (v := 0) hx hb dX6_isUniversal_4 (by decide) ?_
  refine lv_istore_n (lv' := [(1, .int (0 : Int32)), (0, .ref (aS 0))]) hx hb dX6_isUniversal_5 rfl hl (by decide) rfl (fun ls hl => ?_)
  obtain ⟨n0, h⟩ := h
  exact g6 n0 (0 : Int32) u1.1 u1.2 _ _ _ h hP hD hS hl
set_option maxRecDepth 20000 in
theorem ggX6_isComplete_X6_renewCensus : GoodIn wsX6_isComplete wsX6_renewCensus := goodIn_r _ [6, 7, 1, 8, 9, 10, 11, 5, 12, 13, 14, 15, 16, 17, 18, 19, 20, 21, 22, 23, 24, 25, 26, 27, 28, 29, 30, 31, 32, 33, 34, 35, 36, 37, 38, 39, 40, 41, 42, 43, 44, 45, 46, 47, 48, 49, 50, 51, 52, 53, 54, 55, 56, 57, 58, 59, 60, 61, 62, 63, 64, 65, 66, 67, 68, 73, 74, 75, 76, 77, 78, 79, 80, 81, 82, 83, 84, 85, 86, 87, 88, 89, 90, 91] (by decide +kernel) (by decide +kernel)
set_option maxRecDepth 20000 in
theorem gX6_isComplete_X6_renewCensus : GoodIn wsX6_isComplete (wsV RX6 175 RX6 yX6_renewCensus wsX6_renewCensus) := goodIn_app (goodIn_of _ (by decide +kernel)) ggX6_isComplete_X6_renewCensus
set_option maxRecDepth 20000 in
theorem ggX6_isComplete_X0_isReached : GoodIn wsX6_isComplete wsX0_isReached := goodIn_r _ [72, 19, 83, 84, 85] (by decide +kernel) (by decide +kernel)
set_option maxRecDepth 20000 in
theorem gX6_isComplete_X0_isReached : GoodIn wsX6_isComplete (wsV RX6 181 RX0 yX0_isReached wsX0_isReached) := goodIn_app (goodIn_of _ (by decide +kernel)) ggX6_isComplete_X0_isReached
theorem dX6_isComplete_0 : decode cX6_isComplete 0 = .ok (.aload_n 0, 1) := by decide +kernel
theorem dX6_isComplete_1 : decode cX6_isComplete 1 = .ok (.invokevirtual 175, 3) := by decide +kernel
theorem dX6_isComplete_4 : decode cX6_isComplete 4 = .ok (.aload_n 0, 1) := by decide +kernel
theorem dX6_isComplete_5 : decode cX6_isComplete 5 = .ok (.getfield 47, 3) := by decide +kernel
theorem dX6_isComplete_8 : decode cX6_isComplete 8 = .ok (.iconst 0, 1) := by decide +kernel
theorem dX6_isComplete_9 : decode cX6_isComplete 9 = .ok (.invokevirtual 181, 3) := by decide +kernel
theorem dX6_isComplete_12 : decode cX6_isComplete 12 = .ok (.ifCond .eq 7, 3) := by decide +kernel
theorem dX6_isComplete_15 : decode cX6_isComplete 15 = .ok (.iconst 0, 1) := by decide +kernel
theorem dX6_isComplete_16 : decode cX6_isComplete 16 = .ok (.goto 4, 3) := by decide +kernel
theorem dX6_isComplete_19 : decode cX6_isComplete 19 = .ok (.iconst 1, 1) := by decide +kernel
theorem dX6_isComplete_20 : decode cX6_isComplete 20 = .ok (.ireturn, 1) := by decide +kernel
theorem jX6_isComplete_X6 : ∀ w ∈ wsX60, w ∈ wsX6_isComplete := by decide +kernel
abbrev w_X6_isComplete (cI cO : ClassId) (aS : Nat → Nat) (aT : Nat → Nat) (aB : Nat → Nat) (aH : Nat → Nat) (aM : Nat → Nat) (aC : Nat → Nat) (aZ : Nat → Nat) (zM : CS) : ((CS) × (CS)) → va_W := fun u => (wS cI aS aT aB aH aM aC aZ u.1 ++ (wM cI aM zM ++ (wZ cI aZ u.2)))
set_option maxRecDepth 100000 in
set_option maxHeartbeats 8000000 in
theorem mX6_isComplete (l : Launch) (D : va_G) (cI cO : ClassId) (tA tS : Nat) (aS : Nat → Nat) (aT : Nat → Nat) (aB : Nat → Nat) (aH : Nat → Nat) (aM : Nat → Nat) (aC : Nat → Nat) (aZ : Nat → Nat) (zS : CS) (zM : CS) (zZ : CS)  (sz : Nat) {post : Int32 → ((CS) × (CS)) → Prop} (h : qX6_isComplete post zS zM zZ) : Met l yX6_isComplete wsX6_isComplete ({ frames := 6, cells := 0, slots := 0, locals := 136 } : Room) (xPre D cI cO tA tS [.ref (aS 0)] (wS cI aS aT aB aH aM aC aZ zS ++ (wM cI aM zM ++ (wZ cI aZ zZ))) sz) (va_Qi post (xB D cI cO (va_A (wS cI aS aT aB aH aM aC aZ zS ++ (wM cI aM zM ++ (wZ cI aZ zZ))) sz) (w_X6_isComplete cI cO aS aT aB aH aM aC aZ zM)) (va_A (wS cI aS aT aB aH aM aC aZ zS ++ (wM cI aM zM ++ (wZ cI aZ zZ))) sz)) 0 0 (va_A (wS cI aS aT aB aH aM aC aZ zS ++ (wM cI aM zM ++ (wZ cI aZ zZ))) sz) := by
  refine xMet D cI cO tA tS (fun A => va_Qi post (xB D cI cO A (w_X6_isComplete cI cO aS aT aB aH aM aC aZ zM)) A) (cc := cX6_isComplete) (maxL := 1) (ret := (some .int)) (by decide) rfl (Nat.le_of_ble_eq_true rfl) ?_
  intro p e s m below meth c A ls hx hb hr hts hown hlocks hin hml hA hS hP hK hD hE hl
  have hown : s.vm.findClass RX6 = some m.cls := hown
  have hl : lv_has ls 1 [(0, .ref (aS 0))] := hl
  refine lv_aload_n hx hb dX6_isComplete_0 rfl (lv_at hl 0 rfl) ?_
  refine xcallv (wr := ([] : va_W)) (w2 := fun (u1 : (CS) × (CS)) => (wS cI aS aT aB aH aM aC aZ u1.1 ++ (wM cI aM zM ++ (wZ cI aZ u1.2)))) (va_runV (As := []) (rest := []) ⟨hx, hb, hml, hown, hts⟩ (mX6_renewCensus l D cI cO tA tS aS aT aB aH aM aC aZ zS zM zZ _ h) (cwV 0 hts gX6_isComplete_X6_renewCensus rfl rfl rfl (by decide +kernel) ⟨Nat.le_of_ble_eq_true rfl, Nat.le_of_ble_eq_true rfl⟩) (xpreV hP hD hS hA hK hE [0, 1, 2, 3, 4, 5, 6, 7, 8, 9, 10] rfl rfl 6 0 rfl rfl) rfl rfl hl.1 rfl (lv_room (Nat.le_of_ble_eq_true rfl)) dX6_isComplete_1 ⟨Nat.le_refl 0, Nat.le_refl 0⟩) hP hD hS hA [0, 1, 2, 3, 4, 5, 6, 7, 8, 9, 10] [] [0, 1, 2, 3, 4, 5, 6, 7, 8, 9, 10] rfl rfl rfl (by decide) rfl (fun _ => rfl) (fun u1 H locs h hP hD hS => ?_)
  refine lv_aload_n hx hb dX6_isComplete_4 rfl (lv_at hl 0 rfl) ?_
  refine va_get (D := D) (ci := 6) (v := .ref (aZ 0)) (C := RX6) (T := TX6) (N := 10) hx hb hts jX6_isComplete_X6 hown hK hP 0 rfl rfl 5 (by decide) (hts (.fieldLink RX6 47 "BrotherAutomata" "census" "LBrotherAutomata$Census;") (List.mem_of_getElem? (i := 1) rfl)) (fun _ h9 => h9) rfl dX6_isComplete_5 ?_
  refine lv_iconst (v := 0) hx hb dX6_isComplete_8 (by decide) ?_
  refine xcalli (wr := (wS cI aS aT aB aH aM aC aZ u1.1 ++ (wM cI aM zM))) (w2 := fun (u9 : Unit) => (wS cI aS aT aB aH aM aC aZ u1.1 ++ (wM cI aM zM ++ (wZ cI aZ u1.2)))) (va_runV (As := [.int (0 : Int32)]) (rest := []) ⟨hx, hb, hml, hown, hts⟩ (mX0_isReached l D cI cO tA tS aZ u1.2 (0 : Int32) _ h) (cwV 1 hts gX6_isComplete_X0_isReached rfl rfl rfl (by decide +kernel) ⟨Nat.le_of_ble_eq_true rfl, Nat.le_of_ble_eq_true rfl⟩) (xpreV hP hD hS hA hK hE [7, 8, 9, 10] rfl rfl 0 7 rfl rfl) rfl rfl hl.1 rfl (lv_room (Nat.le_of_ble_eq_true rfl)) dX6_isComplete_9 ⟨Nat.le_refl 0, Nat.le_refl 0⟩) hP hD hS hA [7, 8, 9, 10] [0, 1, 2, 3, 4, 5, 6] [0, 1, 2, 3, 4, 5, 6, 7, 8, 9, 10] rfl rfl rfl (by decide) rfl (fun _ => rfl) (fun r9 u9 H locs h hP hD hS => ?_)
  obtain ⟨hh1, hh2⟩ := h
  refine lv_if_eq (tgt := 19) hx hb dX6_isComplete_12 (by decide) (fun hc => ?_) (fun hc => ?_)
  · have h := hh1 hc
    refine lv_iconst (v := 1) hx hb dX6_isComplete_19 (by decide) ?_
    exact xiret (w := (w_X6_isComplete cI cO aS aT aB aH aM aC aZ zM)) (u1.1, u1.2) hx hb hr hlocks h hP hK hD hS dX6_isComplete_20
  · have h := hh2 hc
    refine lv_iconst (v := 0) hx hb dX6_isComplete_15 (by decide) ?_
    refine lv_goto (tgt := 20) hx hb dX6_isComplete_16 (by decide) ?_
    exact xiret (w := (w_X6_isComplete cI cO aS aT aB aH aM aC aZ zM)) (u1.1, u1.2) hx hb hr hlocks h hP hK hD hS dX6_isComplete_20
set_option maxRecDepth 20000 in
theorem ggX6_isDeterministic_X6_renewCensus : GoodIn wsX6_isDeterministic wsX6_renewCensus := goodIn_r _ [6, 7, 1, 8, 9, 10, 11, 5, 12, 13, 14, 15, 16, 17, 18, 19, 20, 21, 22, 23, 24, 25, 26, 27, 28, 29, 30, 31, 32, 33, 34, 35, 36, 37, 38, 39, 40, 41, 42, 43, 44, 45, 46, 47, 48, 49, 50, 51, 52, 53, 54, 55, 56, 57, 58, 59, 60, 61, 62, 63, 64, 65, 66, 67, 68, 80, 81, 82, 83, 84, 85, 86, 87, 88, 89, 90, 91, 92, 93, 94, 95, 96, 97, 98] (by decide +kernel) (by decide +kernel)
set_option maxRecDepth 20000 in
theorem gX6_isDeterministic_X6_renewCensus : GoodIn wsX6_isDeterministic (wsV RX6 175 RX6 yX6_renewCensus wsX6_renewCensus) := goodIn_app (goodIn_of _ (by decide +kernel)) ggX6_isDeterministic_X6_renewCensus
set_option maxRecDepth 20000 in
theorem ggX6_isDeterministic_X6_setCount : GoodIn wsX6_isDeterministic wsX6_setCount := goodIn_r _ [12, 13, 80, 81, 82, 83, 84, 85, 86, 87, 88, 89] (by decide +kernel) (by decide +kernel)
set_option maxRecDepth 20000 in
theorem gX6_isDeterministic_X6_setCount : GoodIn wsX6_isDeterministic (wsV RX6 171 RX6 yX6_setCount wsX6_setCount) := goodIn_app (goodIn_of _ (by decide +kernel)) ggX6_isDeterministic_X6_setCount
set_option maxRecDepth 20000 in
theorem ggX6_isDeterministic_X0_isReached : GoodIn wsX6_isDeterministic wsX0_isReached := goodIn_r _ [72, 19, 90, 91, 92] (by decide +kernel) (by decide +kernel)
set_option maxRecDepth 20000 in
theorem gX6_isDeterministic_X0_isReached : GoodIn wsX6_isDeterministic (wsV RX6 181 RX0 yX0_isReached wsX0_isReached) := goodIn_app (goodIn_of _ (by decide +kernel)) ggX6_isDeterministic_X0_isReached
set_option maxRecDepth 20000 in
theorem ggX6_isDeterministic_J6_bitCount_0f7a4 : GoodIn wsX6_isDeterministic wsJ6_bitCount_0f7a4 := goodIn_r _ [76, 77, 78, 79] (by decide +kernel) (by decide +kernel)
set_option maxRecDepth 20000 in
theorem gX6_isDeterministic_J6_bitCount_0f7a4 : GoodIn wsX6_isDeterministic (va_wsS RX6 90 yJ6_bitCount_0f7a4 wsJ6_bitCount_0f7a4) := goodIn_app (goodIn_of _ (by decide +kernel)) ggX6_isDeterministic_J6_bitCount_0f7a4
theorem dX6_isDeterministic_0 : decode cX6_isDeterministic 0 = .ok (.aload_n 0, 1) := by decide +kernel
theorem dX6_isDeterministic_1 : decode cX6_isDeterministic 1 = .ok (.invokevirtual 175, 3) := by decide +kernel
theorem dX6_isDeterministic_4 : decode cX6_isDeterministic 4 = .ok (.iconst 0, 1) := by decide +kernel
theorem dX6_isDeterministic_5 : decode cX6_isDeterministic 5 = .ok (.istore_n 1, 1) := by decide +kernel
theorem dX6_isDeterministic_6 : decode cX6_isDeterministic 6 = .ok (.iload_n 1, 1) := by decide +kernel
theorem dX6_isDeterministic_7 : decode cX6_isDeterministic 7 = .ok (.aload_n 0, 1) := by decide +kernel
theorem dX6_isDeterministic_8 : decode cX6_isDeterministic 8 = .ok (.invokevirtual 171, 3) := by decide +kernel
theorem dX6_isDeterministic_11 : decode cX6_isDeterministic 11 = .ok (.if_icmp .ge 30, 3) := by decide +kernel
theorem dX6_isDeterministic_14 : decode cX6_isDeterministic 14 = .ok (.aload_n 0, 1) := by decide +kernel
theorem dX6_isDeterministic_15 : decode cX6_isDeterministic 15 = .ok (.getfield 47, 3) := by decide +kernel
theorem dX6_isDeterministic_18 : decode cX6_isDeterministic 18 = .ok (.iload_n 1, 1) := by decide +kernel
theorem dX6_isDeterministic_19 : decode cX6_isDeterministic 19 = .ok (.invokevirtual 181, 3) := by decide +kernel
theorem dX6_isDeterministic_22 : decode cX6_isDeterministic 22 = .ok (.ifCond .eq 13, 3) := by decide +kernel
theorem dX6_isDeterministic_25 : decode cX6_isDeterministic 25 = .ok (.iload_n 1, 1) := by decide +kernel
theorem dX6_isDeterministic_26 : decode cX6_isDeterministic 26 = .ok (.invokestatic 90, 3) := by decide +kernel
theorem dX6_isDeterministic_29 : decode cX6_isDeterministic 29 = .ok (.iconst 1, 1) := by decide +kernel
theorem dX6_isDeterministic_30 : decode cX6_isDeterministic 30 = .ok (.if_icmp .le 5, 3) := by decide +kernel
theorem dX6_isDeterministic_33 : decode cX6_isDeterministic 33 = .ok (.iconst 0, 1) := by decide +kernel
theorem dX6_isDeterministic_34 : decode cX6_isDeterministic 34 = .ok (.ireturn, 1) := by decide +kernel
theorem dX6_isDeterministic_35 : decode cX6_isDeterministic 35 = .ok (.iinc 1 1, 3) := by decide +kernel
theorem dX6_isDeterministic_38 : decode cX6_isDeterministic 38 = .ok (.goto (-32), 3) := by decide +kernel
theorem dX6_isDeterministic_41 : decode cX6_isDeterministic 41 = .ok (.iconst 1, 1) := by decide +kernel
theorem dX6_isDeterministic_42 : decode cX6_isDeterministic 42 = .ok (.ireturn, 1) := by decide +kernel
theorem jX6_isDeterministic_X6 : ∀ w ∈ wsX60, w ∈ wsX6_isDeterministic := by decide +kernel
abbrev w_X6_isDeterministic (cI cO : ClassId) (aS : Nat → Nat) (aT : Nat → Nat) (aB : Nat → Nat) (aH : Nat → Nat) (aM : Nat → Nat) (aC : Nat → Nat) (aZ : Nat → Nat) (zM : CS) : ((CS) × (CS)) → va_W := fun u => (wS cI aS aT aB aH aM aC aZ u.1 ++ (wM cI aM zM ++ (wZ cI aZ u.2)))
set_option maxRecDepth 100000 in
set_option maxHeartbeats 8000000 in
theorem mX6_isDeterministic (l : Launch) (D : va_G) (cI cO : ClassId) (tA tS : Nat) (aS : Nat → Nat) (aT : Nat → Nat) (aB : Nat → Nat) (aH : Nat → Nat) (aM : Nat → Nat) (aC : Nat → Nat) (aZ : Nat → Nat) (zS : CS) (zM : CS) (zZ : CS)  (sz : Nat) {post : Int32 → ((CS) × (CS)) → Prop} (h : qX6_isDeterministic post zS zM zZ) : Met l yX6_isDeterministic wsX6_isDeterministic ({ frames := 6, cells := 0, slots := 0, locals := 136 } : Room) (xPre D cI cO tA tS [.ref (aS 0)] (wS cI aS aT aB aH aM aC aZ zS ++ (wM cI aM zM ++ (wZ cI aZ zZ))) sz) (va_Qi post (xB D cI cO (va_A (wS cI aS aT aB aH aM aC aZ zS ++ (wM cI aM zM ++ (wZ cI aZ zZ))) sz) (w_X6_isDeterministic cI cO aS aT aB aH aM aC aZ zM)) (va_A (wS cI aS aT aB aH aM aC aZ zS ++ (wM cI aM zM ++ (wZ cI aZ zZ))) sz)) 0 0 (va_A (wS cI aS aT aB aH aM aC aZ zS ++ (wM cI aM zM ++ (wZ cI aZ zZ))) sz) := by
  refine xMet D cI cO tA tS (fun A => va_Qi post (xB D cI cO A (w_X6_isDeterministic cI cO aS aT aB aH aM aC aZ zM)) A) (cc := cX6_isDeterministic) (maxL := 2) (ret := (some .int)) (by decide) rfl (Nat.le_of_ble_eq_true rfl) ?_
  intro p e s m below meth c A ls hx hb hr hts hown hlocks hin hml hA hS hP hK hD hE hl
  have hown : s.vm.findClass RX6 = some m.cls := hown
  have hl : lv_has ls 2 [(0, .ref (aS 0))] := hl
  have g35 : ∀ (k6 : (Int32) → (CS) → (CS) → Prop), (∀ (y1 : Int32) (zS : CS) (zZ : CS) (H : Heap) (locs : List Loc) (ls : Array Slot), k6 y1 zS zZ → va_P D vwCl (wS cI aS aT aB aH aM aC aZ zS ++ (wM cI aM zM ++ (wZ cI aZ zZ))) H → va_D A (wS cI aS aT aB aH aM aC aZ zS ++ (wM cI aM zM ++ (wZ cI aZ zZ))) → va_S A s.heap H locs → lv_has ls 2 [(1, .int y1), (0, .ref (aS 0))] → W p l e ({ frames := 6, cells := 0, slots := 0, locals := 136 } : Room) s m ([.ref (aS 0)] : List Value).toArray below meth c H locs 0 0 (MQ below (va_Qi post (xB D cI cO A (w_X6_isDeterministic cI cO aS aT aB aH aM aC aZ zM)) A) ([.ref (aS 0)] : List Value).toArray s 0 0 A) (F0 m 6 ls [])) → ∀ (y1 : Int32) (zS : CS) (zZ : CS) (H : Heap) (locs : List Loc) (ls : Array Slot), qX6_isDeterministic_35 post zM k6 y1 zS zZ → va_P D vwCl (wS cI aS aT aB aH aM aC aZ zS ++ (wM cI aM zM ++ (wZ cI aZ zZ))) H → va_D A (wS cI aS aT aB aH aM aC aZ zS ++ (wM cI aM zM ++ (wZ cI aZ zZ))) → va_S A s.heap H locs → lv_has ls 2 [(1, .int y1), (0, .ref (aS 0))] → W p l e ({ frames := 6, cells := 0, slots := 0, locals := 136 } : Room) s m ([.ref (aS 0)] : List Value).toArray below meth c H locs 0 0 (MQ below (va_Qi post (xB D cI cO A (w_X6_isDeterministic cI cO aS aT aB aH aM aC aZ zM)) A) ([.ref (aS 0)] : List Value).toArray s 0 0 A) (F0 m 35 ls []) := by
    intro k6 hk6 y1 zS zZ H locs ls h hP hD hS hl
    refine lv_iinc (v := (y1 + (1 : Int32))) (lv' := [(1, .int (y1 + (1 : Int32))), (0, .ref (aS 0))]) hx hb dX6_isDeterministic_35 hl (k := 0) rfl rfl (by decide) rfl (fun ls hl => ?_)
    refine lv_goto (tgt := 6) hx hb dX6_isDeterministic_38 (by decide) ?_
    exact hk6 (y1 + (1 : Int32)) zS zZ _ _ _ h hP hD hS hl
  have g6 : ∀ (n : Nat) (y1 : Int32) (zS : CS) (zZ : CS) (H : Heap) (locs : List Loc) (ls : Array Slot), qX6_isDeterministic_6 post zM n y1 zS zZ → va_P D vwCl (wS cI aS aT aB aH aM aC aZ zS ++ (wM cI aM zM ++ (wZ cI aZ zZ))) H → va_D A (wS cI aS aT aB aH aM aC aZ zS ++ (wM cI aM zM ++ (wZ cI aZ zZ))) → va_S A s.heap H locs → lv_has ls 2 [(1, .int y1), (0, .ref (aS 0))] → W p l e ({ frames := 6, cells := 0, slots := 0, locals := 136 } : Room) s m ([.ref (aS 0)] : List Value).toArray below meth c H locs 0 0 (MQ below (va_Qi post (xB D cI cO A (w_X6_isDeterministic cI cO aS aT aB aH aM aC aZ zM)) A) ([.ref (aS 0)] : List Value).toArray s 0 0 A) (F0 m 6 ls []) := by
    intro n
    induction n with
    | zero => intro y1 zS zZ H locs ls h; exact False.elim h
    | succ n hk6 =>
      intro y1 zS zZ H locs ls h hP hD hS hl
      have h : qX6_isDeterministic_6b post zM (qX6_isDeterministic_6 post zM n) y1 zS zZ := h
      refine lv_iload_n hx hb dX6_isDeterministic_6 rfl (lv_at hl 0 rfl) ?_
      refine lv_aload_n hx hb dX6_isDeterministic_7 rfl (lv_at hl 1 rfl) ?_
      refine xcalli (wr := (wM cI aM zM ++ (wZ cI aZ zZ))) (w2 := fun (u8 : Unit) => (wS cI aS aT aB aH aM aC aZ zS ++ (wM cI aM zM ++ (wZ cI aZ zZ)))) (va_runV (As := []) (rest := [.int y1]) ⟨hx, hb, hml, hown, hts⟩ (mX6_setCount l D cI cO tA tS aS aT aB aH aM aC aZ zS _ h) (cwV 0 hts gX6_isDeterministic_X6_setCount rfl rfl rfl (by decide +kernel) ⟨Nat.le_of_ble_eq_true rfl, Nat.le_of_ble_eq_true rfl⟩) (xpreV hP hD hS hA hK hE [0, 1] rfl rfl 6 0 rfl rfl) rfl rfl hl.1 rfl (lv_room (Nat.le_of_ble_eq_true rfl)) dX6_isDeterministic_8 ⟨Nat.le_refl 0, Nat.le_refl 0⟩) hP hD hS hA [0, 1] [2, 3, 4, 5, 6, 7, 8, 9, 10] [9, 10, 0, 1, 2, 3, 4, 5, 6, 7, 8] rfl rfl rfl (by decide) rfl (fun _ => rfl) (fun r8 u8 H locs h hP hD hS => ?_)
      obtain ⟨hh1, hh2⟩ := h
      refine lv_icmp_ge (tgt := 41) hx hb dX6_isDeterministic_11 (by decide) (fun hc => ?_) (fun hc => ?_)
      · have h := hh1 hc
        refine lv_iconst (v := 1) hx hb dX6_isDeterministic_41 (by decide) ?_
        exact xiret (w := (w_X6_isDeterministic cI cO aS aT aB aH aM aC aZ zM)) (zS, zZ) hx hb hr hlocks h hP hK hD hS dX6_isDeterministic_42
      · have h := hh2 hc
        refine lv_aload_n hx hb dX6_isDeterministic_14 rfl (lv_at hl 1 rfl) ?_
        refine va_get (D := D) (ci := 6) (v := .ref (aZ 0)) (C := RX6) (T := TX6) (N := 10) hx hb hts jX6_isDeterministic_X6 hown hK hP 0 rfl rfl 5 (by decide) (hts (.fieldLink RX6 47 "BrotherAutomata" "census" "LBrotherAutomata$Census;") (List.mem_of_getElem? (i := 1) rfl)) (fun _ h9 => h9) rfl dX6_isDeterministic_15 ?_
        refine lv_iload_n hx hb dX6_isDeterministic_18 rfl (lv_at hl 0 rfl) ?_
        refine xcalli (wr := (wS cI aS aT aB aH aM aC aZ zS ++ (wM cI aM zM))) (w2 := fun (u19 : Unit) => (wS cI aS aT aB aH aM aC aZ zS ++ (wM cI aM zM ++ (wZ cI aZ zZ)))) (va_runV (As := [.int y1]) (rest := []) ⟨hx, hb, hml, hown, hts⟩ (mX0_isReached l D cI cO tA tS aZ zZ y1 _ h) (cwV 1 hts gX6_isDeterministic_X0_isReached rfl rfl rfl (by decide +kernel) ⟨Nat.le_of_ble_eq_true rfl, Nat.le_of_ble_eq_true rfl⟩) (xpreV hP hD hS hA hK hE [7, 8, 9, 10] rfl rfl 0 7 rfl rfl) rfl rfl hl.1 rfl (lv_room (Nat.le_of_ble_eq_true rfl)) dX6_isDeterministic_19 ⟨Nat.le_refl 0, Nat.le_refl 0⟩) hP hD hS hA [7, 8, 9, 10] [0, 1, 2, 3, 4, 5, 6] [0, 1, 2, 3, 4, 5, 6, 7, 8, 9, 10] rfl rfl rfl (by decide) rfl (fun _ => rfl) (fun r19 u19 H locs h hP hD hS => ?_)
        obtain ⟨hh1, hh2⟩ := h
        refine lv_if_eq (tgt := 35) hx hb dX6_isDeterministic_22 (by decide) (fun hc => ?_) (fun hc => ?_)
        · have h := hh1 hc
          exact g35 (qX6_isDeterministic_6 post zM n) hk6 y1 zS zZ _ _ _ h hP hD hS hl
        · have h := hh2 hc
          refine lv_iload_n hx hb dX6_isDeterministic_25 rfl (lv_at hl 0 rfl) ?_
          refine xcalli (wr := (wS cI aS aT aB aH aM aC aZ zS ++ (wM cI aM zM ++ (wZ cI aZ zZ)))) (w2 := fun (u26 : Unit) => (wS cI aS aT aB aH aM aC aZ zS ++ (wM cI aM zM ++ (wZ cI aZ zZ)))) (va_runS (As := [.int y1]) (rest := []) ⟨hx, hb, hml, hown, hts⟩ (mJ6_bitCount_0f7a4 l D cI cO tA tS y1 _ h) (va_cwS 1 hts gX6_isDeterministic_J6_bitCount_0f7a4 rfl rfl rfl (by decide +kernel) ⟨Nat.le_of_ble_eq_true rfl, Nat.le_of_ble_eq_true rfl⟩) (xpreP hP hD hS hA hK hE [] rfl rfl) rfl rfl hl.1 rfl (lv_room (Nat.le_of_ble_eq_true rfl)) dX6_isDeterministic_26 ⟨Nat.le_refl 0, Nat.le_refl 0⟩) hP hD hS hA [] [0, 1, 2, 3, 4, 5, 6, 7, 8, 9, 10] [0, 1, 2, 3, 4, 5, 6, 7, 8, 9, 10] rfl rfl rfl (by decide) rfl (fun _ => rfl) (fun r26 u26 H locs h hP hD hS => ?_)
          refine lv_iconst (v := 1) hx hb dX6_isDeterministic_29 (by decide) ?_
          obtain ⟨hh1, hh2⟩ := h
          refine lv_icmp_le (tgt := 35) hx hb dX6_isDeterministic_30 (by decide) (fun hc => ?_) (fun hc => ?_)
          · have h := hh1 hc
            exact g35 (qX6_isDeterministic_6 post zM n) hk6 y1 zS zZ _ _ _ h hP hD hS hl
          · have h := hh2 hc
            refine lv_iconst (v := 0) hx hb dX6_isDeterministic_33 (by decide) ?_
            exact xiret (w := (w_X6_isDeterministic cI cO aS aT aB aH aM aC aZ zM)) (zS, zZ) hx hb hr hlocks h hP hK hD hS dX6_isDeterministic_34
  refine lv_aload_n hx hb dX6_isDeterministic_0 rfl (lv_at hl 0 rfl) ?_
  refine xcallv (wr := ([] : va_W)) (w2 := fun (u1 : (CS) × (CS)) => (wS cI aS aT aB aH aM aC aZ u1.1 ++ (wM cI aM zM ++ (wZ cI aZ u1.2)))) (va_runV (As := []) (rest := []) ⟨hx, hb, hml, hown, hts⟩ (mX6_renewCensus l D cI cO tA tS aS aT aB aH aM aC aZ zS zM zZ _ h) (cwV 0 hts gX6_isDeterministic_X6_renewCensus rfl rfl rfl (by decide +kernel) ⟨Nat.le_of_ble_eq_true rfl, Nat.le_of_ble_eq_true rfl⟩) (xpreV hP hD hS hA hK hE [0, 1, 2, 3, 4, 5, 6, 7, 8, 9, 10] rfl rfl 6 0 rfl rfl) rfl rfl hl.1 rfl (lv_room (Nat.le_of_ble_eq_true rfl)) dX6_isDeterministic_1 ⟨Nat.le_refl 0, Nat.le_refl 0⟩) hP hD hS hA [0, 1, 2, 3, 4, 5, 6, 7, 8, 9, 10] [] [0, 1, 2, 3, 4, 5, 6, 7, 8, 9, 10] rfl rfl rfl (by decide) rfl (fun _ => rfl) (fun u1 H locs h hP hD hS => ?_)
  refine lv_iconst (v := 0) hx hb dX6_isDeterministic_4 (by decide) ?_
  refine lv_istore_n (lv' := [(1, .int (0 : Int32)), (0, .ref (aS 0))]) hx hb dX6_isDeterministic_5 rfl hl (by decide) rfl (fun ls hl => ?_)
  obtain ⟨n0, h⟩ := h
  exact g6 n0 (0 : Int32) u1.1 u1.2 _ _ _ h hP hD hS hl
set_option maxRecDepth 20000 in
theorem ggX6_leastHeight_X6_renewCensus : GoodIn wsX6_leastHeight wsX6_renewCensus := goodIn_r _ [7, 8, 1, 9, 10, 11, 12, 6, 13, 14, 15, 16, 17, 18, 19, 20, 21, 22, 23, 24, 25, 26, 27, 28, 29, 30, 31, 32, 33, 34, 35, 36, 37, 38, 39, 40, 41, 42, 43, 44, 45, 46, 47, 48, 49, 50, 51, 52, 53, 54, 55, 56, 57, 58, 59, 60, 61, 62, 63, 64, 65, 66, 67, 68, 69, 74, 75, 76, 77, 78, 79, 80, 81, 82, 83, 91, 92, 93, 94, 95, 96, 97, 98, 99] (by decide +kernel) (by decide +kernel)
set_option maxRecDepth 20000 in
theorem gX6_leastHeight_X6_renewCensus : GoodIn wsX6_leastHeight (wsV RX6 175 RX6 yX6_renewCensus wsX6_renewCensus) := goodIn_app (goodIn_of _ (by decide +kernel)) ggX6_leastHeight_X6_renewCensus
set_option maxRecDepth 20000 in
theorem ggX6_leastHeight_X6_setCount : GoodIn wsX6_leastHeight wsX6_setCount := goodIn_r _ [13, 14, 74, 75, 76, 77, 78, 79, 80, 81, 82, 83] (by decide +kernel) (by decide +kernel)
set_option maxRecDepth 20000 in
theorem gX6_leastHeight_X6_setCount : GoodIn wsX6_leastHeight (wsV RX6 171 RX6 yX6_setCount wsX6_setCount) := goodIn_app (goodIn_of _ (by decide +kernel)) ggX6_leastHeight_X6_setCount
set_option maxRecDepth 20000 in
theorem ggX6_leastHeight_X0_isReached : GoodIn wsX6_leastHeight wsX0_isReached := goodIn_r _ [73, 20, 91, 92, 93] (by decide +kernel) (by decide +kernel)
set_option maxRecDepth 20000 in
theorem gX6_leastHeight_X0_isReached : GoodIn wsX6_leastHeight (wsV RX6 181 RX0 yX0_isReached wsX0_isReached) := goodIn_app (goodIn_of _ (by decide +kernel)) ggX6_leastHeight_X0_isReached
theorem dX6_leastHeight_0 : decode cX6_leastHeight 0 = .ok (.aload_n 0, 1) := by decide +kernel
theorem dX6_leastHeight_1 : decode cX6_leastHeight 1 = .ok (.invokevirtual 175, 3) := by decide +kernel
theorem dX6_leastHeight_4 : decode cX6_leastHeight 4 = .ok (.bipush (-3), 2) := by decide +kernel
theorem dX6_leastHeight_6 : decode cX6_leastHeight 6 = .ok (.istore_n 1, 1) := by decide +kernel
theorem dX6_leastHeight_7 : decode cX6_leastHeight 7 = .ok (.iconst 0, 1) := by decide +kernel
theorem dX6_leastHeight_8 : decode cX6_leastHeight 8 = .ok (.istore_n 2, 1) := by decide +kernel
theorem dX6_leastHeight_9 : decode cX6_leastHeight 9 = .ok (.iload_n 2, 1) := by decide +kernel
theorem dX6_leastHeight_10 : decode cX6_leastHeight 10 = .ok (.aload_n 0, 1) := by decide +kernel
theorem dX6_leastHeight_11 : decode cX6_leastHeight 11 = .ok (.invokevirtual 171, 3) := by decide +kernel
theorem dX6_leastHeight_14 : decode cX6_leastHeight 14 = .ok (.if_icmp .ge 61, 3) := by decide +kernel
theorem dX6_leastHeight_17 : decode cX6_leastHeight 17 = .ok (.aload_n 0, 1) := by decide +kernel
theorem dX6_leastHeight_18 : decode cX6_leastHeight 18 = .ok (.getfield 47, 3) := by decide +kernel
theorem dX6_leastHeight_21 : decode cX6_leastHeight 21 = .ok (.iload_n 2, 1) := by decide +kernel
theorem dX6_leastHeight_22 : decode cX6_leastHeight 22 = .ok (.invokevirtual 181, 3) := by decide +kernel
theorem dX6_leastHeight_25 : decode cX6_leastHeight 25 = .ok (.ifCond .eq 44, 3) := by decide +kernel
theorem dX6_leastHeight_28 : decode cX6_leastHeight 28 = .ok (.iload_n 2, 1) := by decide +kernel
theorem dX6_leastHeight_29 : decode cX6_leastHeight 29 = .ok (.aload_n 0, 1) := by decide +kernel
theorem dX6_leastHeight_30 : decode cX6_leastHeight 30 = .ok (.getfield 19, 3) := by decide +kernel
theorem dX6_leastHeight_33 : decode cX6_leastHeight 33 = .ok (.getfield 87, 3) := by decide +kernel
theorem dX6_leastHeight_36 : decode cX6_leastHeight 36 = .ok (.iand, 1) := by decide +kernel
theorem dX6_leastHeight_37 : decode cX6_leastHeight 37 = .ok (.ifCond .eq 32, 3) := by decide +kernel
theorem dX6_leastHeight_40 : decode cX6_leastHeight 40 = .ok (.iload_n 1, 1) := by decide +kernel
theorem dX6_leastHeight_41 : decode cX6_leastHeight 41 = .ok (.bipush (-3), 2) := by decide +kernel
theorem dX6_leastHeight_43 : decode cX6_leastHeight 43 = .ok (.if_icmp .eq 16, 3) := by decide +kernel
theorem dX6_leastHeight_46 : decode cX6_leastHeight 46 = .ok (.aload_n 0, 1) := by decide +kernel
theorem dX6_leastHeight_47 : decode cX6_leastHeight 47 = .ok (.getfield 47, 3) := by decide +kernel
theorem dX6_leastHeight_50 : decode cX6_leastHeight 50 = .ok (.getfield 187, 3) := by decide +kernel
theorem dX6_leastHeight_53 : decode cX6_leastHeight 53 = .ok (.iload_n 2, 1) := by decide +kernel
theorem dX6_leastHeight_54 : decode cX6_leastHeight 54 = .ok (.iaload, 1) := by decide +kernel
theorem dX6_leastHeight_55 : decode cX6_leastHeight 55 = .ok (.iload_n 1, 1) := by decide +kernel
theorem dX6_leastHeight_56 : decode cX6_leastHeight 56 = .ok (.if_icmp .ge 13, 3) := by decide +kernel
theorem dX6_leastHeight_59 : decode cX6_leastHeight 59 = .ok (.aload_n 0, 1) := by decide +kernel
theorem dX6_leastHeight_60 : decode cX6_leastHeight 60 = .ok (.getfield 47, 3) := by decide +kernel
theorem dX6_leastHeight_63 : decode cX6_leastHeight 63 = .ok (.getfield 187, 3) := by decide +kernel
theorem dX6_leastHeight_66 : decode cX6_leastHeight 66 = .ok (.iload_n 2, 1) := by decide +kernel
theorem dX6_leastHeight_67 : decode cX6_leastHeight 67 = .ok (.iaload, 1) := by decide +kernel
theorem dX6_leastHeight_68 : decode cX6_leastHeight 68 = .ok (.istore_n 1, 1) := by decide +kernel
theorem dX6_leastHeight_69 : decode cX6_leastHeight 69 = .ok (.iinc 2 1, 3) := by decide +kernel
theorem dX6_leastHeight_72 : decode cX6_leastHeight 72 = .ok (.goto (-63), 3) := by decide +kernel
theorem dX6_leastHeight_75 : decode cX6_leastHeight 75 = .ok (.iload_n 1, 1) := by decide +kernel
theorem dX6_leastHeight_76 : decode cX6_leastHeight 76 = .ok (.ireturn, 1) := by decide +kernel
theorem jX6_leastHeight_X6 : ∀ w ∈ wsX60, w ∈ wsX6_leastHeight := by decide +kernel
theorem jX6_leastHeight_X0 : ∀ w ∈ wsX00, w ∈ wsX6_leastHeight := by decide +kernel
theorem jX6_leastHeight_X2 : ∀ w ∈ wsX20, w ∈ wsX6_leastHeight := by decide +kernel
abbrev w_X6_leastHeight (cI cO : ClassId) (aS : Nat → Nat) (aT : Nat → Nat) (aB : Nat → Nat) (aH : Nat → Nat) (aM : Nat → Nat) (aC : Nat → Nat) (aZ : Nat → Nat) (zB : CS) (zM : CS) : ((CS) × (CS)) → va_W := fun u => (wS cI aS aT aB aH aM aC aZ u.1 ++ (wB cI aB zB ++ (wM cI aM zM ++ (wZ cI aZ u.2))))
set_option maxRecDepth 100000 in
set_option maxHeartbeats 8000000 in
theorem mX6_leastHeight (l : Launch) (D : va_G) (cI cO : ClassId) (tA tS : Nat) (aS : Nat → Nat) (aT : Nat → Nat) (aB : Nat → Nat) (aH : Nat → Nat) (aM : Nat → Nat) (aC : Nat → Nat) (aZ : Nat → Nat) (zS : CS) (zB : CS) (zM : CS) (zZ : CS)  (sz : Nat) {post : Int32 → ((CS) × (CS)) → Prop} (h : qX6_leastHeight post zS zB zM zZ) : Met l yX6_leastHeight wsX6_leastHeight ({ frames := 6, cells := 0, slots := 0, locals := 136 } : Room) (xPre D cI cO tA tS [.ref (aS 0)] (wS cI aS aT aB aH aM aC aZ zS ++ (wB cI aB zB ++ (wM cI aM zM ++ (wZ cI aZ zZ)))) sz) (va_Qi post (xB D cI cO (va_A (wS cI aS aT aB aH aM aC aZ zS ++ (wB cI aB zB ++ (wM cI aM zM ++ (wZ cI aZ zZ)))) sz) (w_X6_leastHeight cI cO aS aT aB aH aM aC aZ zB zM)) (va_A (wS cI aS aT aB aH aM aC aZ zS ++ (wB cI aB zB ++ (wM cI aM zM ++ (wZ cI aZ zZ)))) sz)) 0 0 (va_A (wS cI aS aT aB aH aM aC aZ zS ++ (wB cI aB zB ++ (wM cI aM zM ++ (wZ cI aZ zZ)))) sz) := by
  refine xMet D cI cO tA tS (fun A => va_Qi post (xB D cI cO A (w_X6_leastHeight cI cO aS aT aB aH aM aC aZ zB zM)) A) (cc := cX6_leastHeight) (maxL := 3) (ret := (some .int)) (by decide) rfl (Nat.le_of_ble_eq_true rfl) ?_
  intro p e s m below meth c A ls hx hb hr hts hown hlocks hin hml hA hS hP hK hD hE hl
  have hown : s.vm.findClass RX6 = some m.cls := hown
  have hl : lv_has ls 3 [(0, .ref (aS 0))] := hl
  have g69 : ∀ (k9 : (Int32) → (Int32) → (CS) → (CS) → Prop), (∀ (y1 : Int32) (y2 : Int32) (zS : CS) (zZ : CS) (H : Heap) (locs : List Loc) (ls : Array Slot), k9 y1 y2 zS zZ → va_P D vwCl (wS cI aS aT aB aH aM aC aZ zS ++ (wB cI aB zB ++ (wM cI aM zM ++ (wZ cI aZ zZ)))) H → va_D A (wS cI aS aT aB aH aM aC aZ zS ++ (wB cI aB zB ++ (wM cI aM zM ++ (wZ cI aZ zZ)))) → va_S A s.heap H locs → lv_has ls 3 [(2, .int y2), (1, .int y1), (0, .ref (aS 0))] → W p l e ({ frames := 6, cells := 0, slots := 0, locals := 136 } : Room) s m ([.ref (aS 0)] : List Value).toArray below meth c H locs 0 0 (MQ below (va_Qi post (xB D cI cO A (w_X6_leastHeight cI cO aS aT aB aH aM aC aZ zB zM)) A) ([.ref (aS 0)] : List Value).toArray s 0 0 A) (F0 m 9 ls [])) → ∀ (y1 : Int32) (y2 : Int32) (zS : CS) (zZ : CS) (H : Heap) (locs : List Loc) (ls : Array Slot), qX6_leastHeight_69 post zB zM k9 y1 y2 zS zZ → va_P D vwCl (wS cI aS aT aB aH aM aC aZ zS ++ (wB cI aB zB ++ (wM cI aM zM ++ (wZ cI aZ zZ)))) H → va_D A (wS cI aS aT aB aH aM aC aZ zS ++ (wB cI aB zB ++ (wM cI aM zM ++ (wZ cI aZ zZ)))) → va_S A s.heap H locs → lv_has ls 3 [(1, .int y1), (2, .int y2), (0, .ref (aS 0))] → W p l e ({ frames := 6, cells := 0, slots := 0, locals := 136 } : Room) s m ([.ref (aS 0)] : List Value).toArray below meth c H locs 0 0 (MQ below (va_Qi post (xB D cI cO A (w_X6_leastHeight cI cO aS aT aB aH aM aC aZ zB zM)) A) ([.ref (aS 0)] : List Value).toArray s 0 0 A) (F0 m 69 ls []) := by
    intro k9 hk9 y1 y2 zS zZ H locs ls h hP hD hS hl
    refine lv_iinc (v := (y2 + (1 : Int32))) (lv' := [(2, .int (y2 + (1 : Int32))), (1, .int y1), (0, .ref (aS 0))]) hx hb dX6_leastHeight_69 hl (k := 1) rfl rfl (by decide) rfl (fun ls hl => ?_)
    refine lv_goto (tgt := 9) hx hb dX6_leastHeight_72 (by decide) ?_
    exact hk9 y1 (y2 + (1 : Int32)) zS zZ _ _ _ h hP hD hS hl
  have g59 : ∀ (k9 : (Int32) → (Int32) → (CS) → (CS) → Prop), (∀ (y1 : Int32) (y2 : Int32) (zS : CS) (zZ : CS) (H : Heap) (locs : List Loc) (ls : Array Slot), k9 y1 y2 zS zZ → va_P D vwCl (wS cI aS aT aB aH aM aC aZ zS ++ (wB cI aB zB ++ (wM cI aM zM ++ (wZ cI aZ zZ)))) H → va_D A (wS cI aS aT aB aH aM aC aZ zS ++ (wB cI aB zB ++ (wM cI aM zM ++ (wZ cI aZ zZ)))) → va_S A s.heap H locs → lv_has ls 3 [(2, .int y2), (1, .int y1), (0, .ref (aS 0))] → W p l e ({ frames := 6, cells := 0, slots := 0, locals := 136 } : Room) s m ([.ref (aS 0)] : List Value).toArray below meth c H locs 0 0 (MQ below (va_Qi post (xB D cI cO A (w_X6_leastHeight cI cO aS aT aB aH aM aC aZ zB zM)) A) ([.ref (aS 0)] : List Value).toArray s 0 0 A) (F0 m 9 ls [])) → ∀ (y1 : Int32) (y2 : Int32) (zS : CS) (zZ : CS) (H : Heap) (locs : List Loc) (ls : Array Slot), qX6_leastHeight_59 post zB zM k9 y1 y2 zS zZ → va_P D vwCl (wS cI aS aT aB aH aM aC aZ zS ++ (wB cI aB zB ++ (wM cI aM zM ++ (wZ cI aZ zZ)))) H → va_D A (wS cI aS aT aB aH aM aC aZ zS ++ (wB cI aB zB ++ (wM cI aM zM ++ (wZ cI aZ zZ)))) → va_S A s.heap H locs → lv_has ls 3 [(2, .int y2), (1, .int y1), (0, .ref (aS 0))] → W p l e ({ frames := 6, cells := 0, slots := 0, locals := 136 } : Room) s m ([.ref (aS 0)] : List Value).toArray below meth c H locs 0 0 (MQ below (va_Qi post (xB D cI cO A (w_X6_leastHeight cI cO aS aT aB aH aM aC aZ zB zM)) A) ([.ref (aS 0)] : List Value).toArray s 0 0 A) (F0 m 59 ls []) := by
    intro k9 hk9 y1 y2 zS zZ H locs ls h hP hD hS hl
    refine lv_aload_n hx hb dX6_leastHeight_59 rfl (lv_at hl 2 rfl) ?_
    refine va_get (D := D) (ci := 6) (v := .ref (aZ 0)) (C := RX6) (T := TX6) (N := 10) hx hb hts jX6_leastHeight_X6 hown hK hP 0 rfl rfl 5 (by decide) (hts (.fieldLink RX6 47 "BrotherAutomata" "census" "LBrotherAutomata$Census;") (List.mem_of_getElem? (i := 1) rfl)) (fun _ h9 => h9) rfl dX6_leastHeight_60 ?_
    refine va_getN (D := D) (ci := 0) (v := .ref (aZ 3)) (C := RX0) (T := TX0) (N := 3) hx hb hts jX6_leastHeight_X0 hown hK hP 13 rfl rfl 2 (by decide) (va_Nw.use (w := .fieldLinkNest RX6 187 "BrotherAutomata$Census" "heights" "[I" "BrotherAutomata") rfl (hE.1 _ (List.mem_of_getElem? (i := 20) rfl))) (fun _ h9 => h9) rfl dX6_leastHeight_63 ?_
    refine lv_iload_n hx hb dX6_leastHeight_66 rfl (lv_at hl 0 rfl) ?_
    obtain ⟨hi, h⟩ := h
    refine va_iald hx hb hK hP 16 0 rfl rfl hi dX6_leastHeight_67 ?_
    refine lv_istore_n (lv' := [(1, .int ((zZ 2) y2.toNatClampNeg)), (2, .int y2), (0, .ref (aS 0))]) hx hb dX6_leastHeight_68 rfl hl (by decide) rfl (fun ls hl => ?_)
    exact g69 k9 hk9 ((zZ 2) y2.toNatClampNeg) y2 zS zZ _ _ _ h hP hD hS hl
  have g9 : ∀ (n : Nat) (y1 : Int32) (y2 : Int32) (zS : CS) (zZ : CS) (H : Heap) (locs : List Loc) (ls : Array Slot), qX6_leastHeight_9 post zB zM n y1 y2 zS zZ → va_P D vwCl (wS cI aS aT aB aH aM aC aZ zS ++ (wB cI aB zB ++ (wM cI aM zM ++ (wZ cI aZ zZ)))) H → va_D A (wS cI aS aT aB aH aM aC aZ zS ++ (wB cI aB zB ++ (wM cI aM zM ++ (wZ cI aZ zZ)))) → va_S A s.heap H locs → lv_has ls 3 [(2, .int y2), (1, .int y1), (0, .ref (aS 0))] → W p l e ({ frames := 6, cells := 0, slots := 0, locals := 136 } : Room) s m ([.ref (aS 0)] : List Value).toArray below meth c H locs 0 0 (MQ below (va_Qi post (xB D cI cO A (w_X6_leastHeight cI cO aS aT aB aH aM aC aZ zB zM)) A) ([.ref (aS 0)] : List Value).toArray s 0 0 A) (F0 m 9 ls []) := by
    intro n
    induction n with
    | zero => intro y1 y2 zS zZ H locs ls h; exact False.elim h
    | succ n hk9 =>
      intro y1 y2 zS zZ H locs ls h hP hD hS hl
      have h : qX6_leastHeight_9b post zB zM (qX6_leastHeight_9 post zB zM n) y1 y2 zS zZ := h
      refine lv_iload_n hx hb dX6_leastHeight_9 rfl (lv_at hl 0 rfl) ?_
      refine lv_aload_n hx hb dX6_leastHeight_10 rfl (lv_at hl 2 rfl) ?_
      refine xcalli (wr := (wB cI aB zB ++ (wM cI aM zM ++ (wZ cI aZ zZ)))) (w2 := fun (u11 : Unit) => (wS cI aS aT aB aH aM aC aZ zS ++ (wB cI aB zB ++ (wM cI aM zM ++ (wZ cI aZ zZ))))) (va_runV (As := []) (rest := [.int y2]) ⟨hx, hb, hml, hown, hts⟩ (mX6_setCount l D cI cO tA tS aS aT aB aH aM aC aZ zS _ h) (cwV 0 hts gX6_leastHeight_X6_setCount rfl rfl rfl (by decide +kernel) ⟨Nat.le_of_ble_eq_true rfl, Nat.le_of_ble_eq_true rfl⟩) (xpreV hP hD hS hA hK hE [0, 1] rfl rfl 6 0 rfl rfl) rfl rfl hl.1 rfl (lv_room (Nat.le_of_ble_eq_true rfl)) dX6_leastHeight_11 ⟨Nat.le_refl 0, Nat.le_refl 0⟩) hP hD hS hA [0, 1] [2, 3, 4, 5, 6, 7, 8, 9, 10, 11, 12, 13, 14, 15, 16] [15, 16, 0, 1, 2, 3, 4, 5, 6, 7, 8, 9, 10, 11, 12, 13, 14] rfl rfl rfl (by decide) rfl (fun _ => rfl) (fun r11 u11 H locs h hP hD hS => ?_)
      obtain ⟨hh1, hh2⟩ := h
      refine lv_icmp_ge (tgt := 75) hx hb dX6_leastHeight_14 (by decide) (fun hc => ?_) (fun hc => ?_)
      · have h := hh1 hc
        refine lv_iload_n hx hb dX6_leastHeight_75 rfl (lv_at hl 1 rfl) ?_
        exact xiret (w := (w_X6_leastHeight cI cO aS aT aB aH aM aC aZ zB zM)) (zS, zZ) hx hb hr hlocks h hP hK hD hS dX6_leastHeight_76
      · have h := hh2 hc
        refine lv_aload_n hx hb dX6_leastHeight_17 rfl (lv_at hl 2 rfl) ?_
        refine va_get (D := D) (ci := 6) (v := .ref (aZ 0)) (C := RX6) (T := TX6) (N := 10) hx hb hts jX6_leastHeight_X6 hown hK hP 0 rfl rfl 5 (by decide) (hts (.fieldLink RX6 47 "BrotherAutomata" "census" "LBrotherAutomata$Census;") (List.mem_of_getElem? (i := 1) rfl)) (fun _ h9 => h9) rfl dX6_leastHeight_18 ?_
        refine lv_iload_n hx hb dX6_leastHeight_21 rfl (lv_at hl 0 rfl) ?_
        refine xcalli (wr := (wS cI aS aT aB aH aM aC aZ zS ++ (wB cI aB zB ++ (wM cI aM zM)))) (w2 := fun (u22 : Unit) => (wS cI aS aT aB aH aM aC aZ zS ++ (wB cI aB zB ++ (wM cI aM zM ++ (wZ cI aZ zZ))))) (va_runV (As := [.int y2]) (rest := []) ⟨hx, hb, hml, hown, hts⟩ (mX0_isReached l D cI cO tA tS aZ zZ y2 _ h) (cwV 1 hts gX6_leastHeight_X0_isReached rfl rfl rfl (by decide +kernel) ⟨Nat.le_of_ble_eq_true rfl, Nat.le_of_ble_eq_true rfl⟩) (xpreV hP hD hS hA hK hE [13, 14, 15, 16] rfl rfl 0 13 rfl rfl) rfl rfl hl.1 rfl (lv_room (Nat.le_of_ble_eq_true rfl)) dX6_leastHeight_22 ⟨Nat.le_refl 0, Nat.le_refl 0⟩) hP hD hS hA [13, 14, 15, 16] [0, 1, 2, 3, 4, 5, 6, 7, 8, 9, 10, 11, 12] [0, 1, 2, 3, 4, 5, 6, 7, 8, 9, 10, 11, 12, 13, 14, 15, 16] rfl rfl rfl (by decide) rfl (fun _ => rfl) (fun r22 u22 H locs h hP hD hS => ?_)
        obtain ⟨hh1, hh2⟩ := h
        refine lv_if_eq (tgt := 69) hx hb dX6_leastHeight_25 (by decide) (fun hc => ?_) (fun hc => ?_)
        · have h := hh1 hc
          exact g69 (qX6_leastHeight_9 post zB zM n) hk9 y1 y2 zS zZ _ _ _ h hP hD hS (lv_sub hl [1, 0, 2] rfl)
        · have h := hh2 hc
          refine lv_iload_n hx hb dX6_leastHeight_28 rfl (lv_at hl 0 rfl) ?_
          refine lv_aload_n hx hb dX6_leastHeight_29 rfl (lv_at hl 2 rfl) ?_
          refine va_get (D := D) (ci := 6) (v := .ref (aB 0)) (C := RX6) (T := TX6) (N := 10) hx hb hts jX6_leastHeight_X6 hown hK hP 0 rfl rfl 1 (by decide) (hts (.fieldLink RX6 19 "BrotherAutomata" "book" "LBrotherAutomata$RuleBook;") (List.mem_of_getElem? (i := 2) rfl)) (fun _ h9 => h9) rfl dX6_leastHeight_30 ?_
          refine va_getN (D := D) (ci := 2) (v := .int (zB 5 1)) (C := RX2) (T := TX2) (N := 7) hx hb hts jX6_leastHeight_X2 hown hK hP 2 rfl rfl 6 (by decide) (va_Nw.use (w := .fieldLinkNest RX6 87 "BrotherAutomata$RuleBook" "finals" "I" "BrotherAutomata") rfl (hE.1 _ (List.mem_of_getElem? (i := 18) rfl))) (fun _ h9 => h9) rfl dX6_leastHeight_33 ?_
          refine lv_iand hx hb dX6_leastHeight_36 ?_
          obtain ⟨hh1, hh2⟩ := h
          refine lv_if_eq (tgt := 69) hx hb dX6_leastHeight_37 (by decide) (fun hc => ?_) (fun hc => ?_)
          · have h := hh1 hc
            exact g69 (qX6_leastHeight_9 post zB zM n) hk9 y1 y2 zS zZ _ _ _ h hP hD hS (lv_sub hl [1, 0, 2] rfl)
          · have h := hh2 hc
            refine lv_iload_n hx hb dX6_leastHeight_40 rfl (lv_at hl 1 rfl) ?_
            refine lv_bipush (v := -3) hx hb dX6_leastHeight_41 (by decide) ?_
            obtain ⟨hh1, hh2⟩ := h
            refine lv_icmp_eq (tgt := 59) hx hb dX6_leastHeight_43 (by decide) (fun hc => ?_) (fun hc => ?_)
            · have h := hh1 hc
              exact g59 (qX6_leastHeight_9 post zB zM n) hk9 y1 y2 zS zZ _ _ _ h hP hD hS hl
            · have h := hh2 hc
              refine lv_aload_n hx hb dX6_leastHeight_46 rfl (lv_at hl 2 rfl) ?_
              refine va_get (D := D) (ci := 6) (v := .ref (aZ 0)) (C := RX6) (T := TX6) (N := 10) hx hb hts jX6_leastHeight_X6 hown hK hP 0 rfl rfl 5 (by decide) (hts (.fieldLink RX6 47 "BrotherAutomata" "census" "LBrotherAutomata$Census;") (List.mem_of_getElem? (i := 1) rfl)) (fun _ h9 => h9) rfl dX6_leastHeight_47 ?_
              refine va_getN (D := D) (ci := 0) (v := .ref (aZ 3)) (C := RX0) (T := TX0) (N := 3) hx hb hts jX6_leastHeight_X0 hown hK hP 13 rfl rfl 2 (by decide) (va_Nw.use (w := .fieldLinkNest RX6 187 "BrotherAutomata$Census" "heights" "[I" "BrotherAutomata") rfl (hE.1 _ (List.mem_of_getElem? (i := 20) rfl))) (fun _ h9 => h9) rfl dX6_leastHeight_50 ?_
              refine lv_iload_n hx hb dX6_leastHeight_53 rfl (lv_at hl 0 rfl) ?_
              obtain ⟨hi, h⟩ := h
              refine va_iald hx hb hK hP 16 0 rfl rfl hi dX6_leastHeight_54 ?_
              refine lv_iload_n hx hb dX6_leastHeight_55 rfl (lv_at hl 1 rfl) ?_
              obtain ⟨hh1, hh2⟩ := h
              refine lv_icmp_ge (tgt := 69) hx hb dX6_leastHeight_56 (by decide) (fun hc => ?_) (fun hc => ?_)
              · have h := hh1 hc
                exact g69 (qX6_leastHeight_9 post zB zM n) hk9 y1 y2 zS zZ _ _ _ h hP hD hS (lv_sub hl [1, 0, 2] rfl)
              · have h := hh2 hc
                exact g59 (qX6_leastHeight_9 post zB zM n) hk9 y1 y2 zS zZ _ _ _ h hP hD hS hl
  refine lv_aload_n hx hb dX6_leastHeight_0 rfl (lv_at hl 0 rfl) ?_
  refine xcallv (wr := (wB cI aB zB)) (w2 := fun (u1 : (CS) × (CS)) => (wS cI aS aT aB aH aM aC aZ u1.1 ++ (wB cI aB zB ++ (wM cI aM zM ++ (wZ cI aZ u1.2))))) (va_runV (As := []) (rest := []) ⟨hx, hb, hml, hown, hts⟩ (mX6_renewCensus l D cI cO tA tS aS aT aB aH aM aC aZ zS zM zZ _ h) (cwV 0 hts gX6_leastHeight_X6_renewCensus rfl rfl rfl (by decide +kernel) ⟨Nat.le_of_ble_eq_true rfl, Nat.le_of_ble_eq_true rfl⟩) (xpreV hP hD hS hA hK hE [0, 1, 8, 9, 10, 11, 12, 13, 14, 15, 16] rfl rfl 6 0 rfl rfl) rfl rfl hl.1 rfl (lv_room (Nat.le_of_ble_eq_true rfl)) dX6_leastHeight_1 ⟨Nat.le_refl 0, Nat.le_refl 0⟩) hP hD hS hA [0, 1, 8, 9, 10, 11, 12, 13, 14, 15, 16] [2, 3, 4, 5, 6, 7] [6, 7, 0, 1, 2, 3, 4, 5, 8, 9, 10, 11, 12, 13, 14, 15, 16] rfl rfl rfl (by decide) rfl (fun _ => rfl) (fun u1 H locs h hP hD hS => ?_)
  refine lv_bipush (v := -3) hx hb dX6_leastHeight_4 (by decide) ?_
  refine lv_istore_n (lv' := [(1, .int (-3 : Int32)), (0, .ref (aS 0))]) hx hb dX6_leastHeight_6 rfl hl (by decide) rfl (fun ls hl => ?_)
  refine lv_iconst (v := 0) hx hb dX6_leastHeight_7 (by decide) ?_
  refine lv_istore_n (lv' := [(2, .int (0 : Int32)), (1, .int (-3 : Int32)), (0, .ref (aS 0))]) hx hb dX6_leastHeight_8 rfl hl (by decide) rfl (fun ls hl => ?_)
  obtain ⟨n0, h⟩ := h
  exact g9 n0 (-3 : Int32) (0 : Int32) u1.1 u1.2 _ _ _ h hP hD hS hl
set_option maxRecDepth 20000 in
theorem ggX6_undo_X1_giveBack : GoodIn wsX6_undo wsX1_giveBack := goodIn_r _ [7, 8, 9, 10, 11, 12, 13, 14, 15, 16, 17, 18, 19, 20, 21, 22, 23, 24, 25, 26, 67, 68, 69, 70, 71, 72, 73, 74, 75, 76] (by decide +kernel) (by decide +kernel)
set_option maxRecDepth 20000 in
theorem gX6_undo_X1_giveBack : GoodIn wsX6_undo (wsV RX6 191 RX1 yX1_giveBack wsX1_giveBack) := goodIn_app (goodIn_of _ (by decide +kernel)) ggX6_undo_X1_giveBack
set_option maxRecDepth 20000 in
theorem ggX6_undo_X6_renewRuns : GoodIn wsX6_undo wsX6_renewRuns := goodIn_r _ [31, 32, 2, 33, 34, 35, 36, 37, 38, 39, 40, 41, 42, 43, 44, 45, 46, 47, 48, 49, 50, 51, 52, 53, 54, 55, 56, 57, 58, 59, 60, 61, 62, 63, 64, 65, 66, 77, 78, 79, 80, 81, 82, 70, 71, 72, 73, 74, 75, 76] (by decide +kernel) (by decide +kernel)
set_option maxRecDepth 20000 in
theorem gX6_undo_X6_renewRuns : GoodIn wsX6_undo (wsV RX6 72 RX6 yX6_renewRuns wsX6_renewRuns) := goodIn_app (goodIn_of _ (by decide +kernel)) ggX6_undo_X6_renewRuns
theorem dX6_undo_0 : decode cX6_undo 0 = .ok (.aload_n 0, 1) := by decide +kernel
theorem dX6_undo_1 : decode cX6_undo 1 = .ok (.getfield 26, 3) := by decide +kernel
theorem dX6_undo_4 : decode cX6_undo 4 = .ok (.getfield 188, 3) := by decide +kernel
theorem dX6_undo_7 : decode cX6_undo 7 = .ok (.ifCond .ne 6, 3) := by decide +kernel
theorem dX6_undo_10 : decode cX6_undo 10 = .ok (.bipush (-3), 2) := by decide +kernel
theorem dX6_undo_12 : decode cX6_undo 12 = .ok (.ireturn, 1) := by decide +kernel
theorem dX6_undo_13 : decode cX6_undo 13 = .ok (.aload_n 0, 1) := by decide +kernel
theorem dX6_undo_14 : decode cX6_undo 14 = .ok (.getfield 26, 3) := by decide +kernel
theorem dX6_undo_17 : decode cX6_undo 17 = .ok (.aload_n 0, 1) := by decide +kernel
theorem dX6_undo_18 : decode cX6_undo 18 = .ok (.getfield 19, 3) := by decide +kernel
theorem dX6_undo_21 : decode cX6_undo 21 = .ok (.invokevirtual 191, 3) := by decide +kernel
theorem dX6_undo_24 : decode cX6_undo 24 = .ok (.aload_n 0, 1) := by decide +kernel
theorem dX6_undo_25 : decode cX6_undo 25 = .ok (.invokevirtual 72, 3) := by decide +kernel
theorem dX6_undo_28 : decode cX6_undo 28 = .ok (.aload_n 0, 1) := by decide +kernel
theorem dX6_undo_29 : decode cX6_undo 29 = .ok (.getfield 26, 3) := by decide +kernel
theorem dX6_undo_32 : decode cX6_undo 32 = .ok (.getfield 188, 3) := by decide +kernel
theorem dX6_undo_35 : decode cX6_undo 35 = .ok (.ireturn, 1) := by decide +kernel
theorem jX6_undo_X6 : ∀ w ∈ wsX60, w ∈ wsX6_undo := by decide +kernel
theorem jX6_undo_X1 : ∀ w ∈ wsX10, w ∈ wsX6_undo := by decide +kernel
abbrev w_X6_undo (cI cO : ClassId) (aS : Nat → Nat) (aT : Nat → Nat) (aB : Nat → Nat) (aH : Nat → Nat) (aM : Nat → Nat) (aC : Nat → Nat) (aZ : Nat → Nat) (aR : Nat → Nat → Nat) (zR : Nat → CS) : ((CS) × (CS) × (CS) × (CS)) → va_W := fun u => (wS cI aS aT aB aH aM aC aZ u.1 ++ (wB cI aB u.2.1 ++ (wH cO aH aR u.2.2.1 ++ (wR cI aR zR ++ (wM cI aM u.2.2.2)))))
set_option maxRecDepth 100000 in
set_option maxHeartbeats 8000000 in
theorem mX6_undo (l : Launch) (D : va_G) (cI cO : ClassId) (tA tS : Nat) (aS : Nat → Nat) (aT : Nat → Nat) (aB : Nat → Nat) (aH : Nat → Nat) (aM : Nat → Nat) (aC : Nat → Nat) (aZ : Nat → Nat) (aR : Nat → Nat → Nat) (zS : CS) (zB : CS) (zH : CS) (zR : Nat → CS) (zM : CS)  (sz : Nat) {post : Int32 → ((CS) × (CS) × (CS) × (CS)) → Prop} (h : qX6_undo post zS zB zH zR zM) : Met l yX6_undo wsX6_undo ({ frames := 3, cells := 0, slots := 0, locals := 68 } : Room) (xPre D cI cO tA tS [.ref (aS 0)] (wS cI aS aT aB aH aM aC aZ zS ++ (wB cI aB zB ++ (wH cO aH aR zH ++ (wR cI aR zR ++ (wM cI aM zM))))) sz) (va_Qi post (xB D cI cO (va_A (wS cI aS aT aB aH aM aC aZ zS ++ (wB cI aB zB ++ (wH cO aH aR zH ++ (wR cI aR zR ++ (wM cI aM zM))))) sz) (w_X6_undo cI cO aS aT aB aH aM aC aZ aR zR)) (va_A (wS cI aS aT aB aH aM aC aZ zS ++ (wB cI aB zB ++ (wH cO aH aR zH ++ (wR cI aR zR ++ (wM cI aM zM))))) sz)) 0 0 (va_A (wS cI aS aT aB aH aM aC aZ zS ++ (wB cI aB zB ++ (wH cO aH aR zH ++ (wR cI aR zR ++ (wM cI aM zM))))) sz) := by
  refine xMet D cI cO tA tS (fun A => va_Qi post (xB D cI cO A (w_X6_undo cI cO aS aT aB aH aM aC aZ aR zR)) A) (cc := cX6_undo) (maxL := 1) (ret := (some .int)) (by decide) rfl (Nat.le_of_ble_eq_true rfl) ?_
  intro p e s m below meth c A ls hx hb hr hts hown hlocks hin hml hA hS hP hK hD hE hl
  have hown : s.vm.findClass RX6 = some m.cls := hown
  have hl : lv_has ls 1 [(0, .ref (aS 0))] := hl
  refine lv_aload_n hx hb dX6_undo_0 rfl (lv_at hl 0 rfl) ?_
  refine va_get (D := D) (ci := 6) (v := .ref (aH 0)) (C := RX6) (T := TX6) (N := 10) hx hb hts jX6_undo_X6 hown hK hP 0 rfl rfl 2 (by decide) (hts (.fieldLink RX6 26 "BrotherAutomata" "history" "LBrotherAutomata$History;") (List.mem_of_getElem? (i := 1) rfl)) (fun _ h9 => h9) rfl dX6_undo_1 ?_
  refine va_getN (D := D) (ci := 1) (v := .int (zH 0 1)) (C := RX1) (T := TX1) (N := 3) hx hb hts jX6_undo_X1 hown hK hP 8 rfl rfl 2 (by decide) (va_Nw.use (w := .fieldLinkNest RX6 188 "BrotherAutomata$History" "kept" "I" "BrotherAutomata") rfl (hE.1 _ (List.mem_of_getElem? (i := 19) rfl))) (fun _ h9 => h9) rfl dX6_undo_4 ?_
  obtain ⟨hh1, hh2⟩ := h
  refine lv_if_ne (tgt := 13) hx hb dX6_undo_7 (by decide) (fun hc => ?_) (fun hc => ?_)
  · have h := hh2 hc
    refine lv_aload_n hx hb dX6_undo_13 rfl (lv_at hl 0 rfl) ?_
    refine va_get (D := D) (ci := 6) (v := .ref (aH 0)) (C := RX6) (T := TX6) (N := 10) hx hb hts jX6_undo_X6 hown hK hP 0 rfl rfl 2 (by decide) (hts (.fieldLink RX6 26 "BrotherAutomata" "history" "LBrotherAutomata$History;") (List.mem_of_getElem? (i := 1) rfl)) (fun _ h9 => h9) rfl dX6_undo_14 ?_
    refine lv_aload_n hx hb dX6_undo_17 rfl (lv_at hl 0 rfl) ?_
    refine va_get (D := D) (ci := 6) (v := .ref (aB 0)) (C := RX6) (T := TX6) (N := 10) hx hb hts jX6_undo_X6 hown hK hP 0 rfl rfl 1 (by decide) (hts (.fieldLink RX6 19 "BrotherAutomata" "book" "LBrotherAutomata$RuleBook;") (List.mem_of_getElem? (i := 2) rfl)) (fun _ h9 => h9) rfl dX6_undo_18 ?_
    refine xcallv (wr := (wS cI aS aT aB aH aM aC aZ zS ++ (wM cI aM zM))) (w2 := fun (u21 : (CS) × (CS)) => (wS cI aS aT aB aH aM aC aZ zS ++ (wB cI aB u21.1 ++ (wH cO aH aR u21.2 ++ (wR cI aR zR ++ (wM cI aM zM)))))) (va_runV (As := [.ref (aB 0)]) (rest := []) ⟨hx, hb, hml, hown, hts⟩ (mX1_giveBack l D cI cO tA tS aB aH aR zB zH zR _ h) (cwV 1 hts gX6_undo_X1_giveBack rfl rfl rfl (by decide +kernel) ⟨Nat.le_of_ble_eq_true rfl, Nat.le_of_ble_eq_true rfl⟩) (xpreV hP hD hS hA hK hE [2, 3, 4, 5, 6, 7, 8, 9, 10, 11, 12, 13, 14, 15, 16, 17, 18, 19, 20, 21, 22, 23, 24, 25, 26, 27, 28, 29, 30, 31, 32, 33, 34, 35, 36, 37, 38, 39] rfl rfl 1 8 rfl rfl) rfl rfl hl.1 rfl (lv_room (Nat.le_of_ble_eq_true rfl)) dX6_undo_21 ⟨Nat.le_refl 0, Nat.le_refl 0⟩) hP hD hS hA [2, 3, 4, 5, 6, 7, 8, 9, 10, 11, 12, 13, 14, 15, 16, 17, 18, 19, 20, 21, 22, 23, 24, 25, 26, 27, 28, 29, 30, 31, 32, 33, 34, 35, 36, 37, 38, 39] [0, 1, 40, 41, 42, 43, 44] [0, 1, 7, 8, 9, 10, 11, 12, 13, 14, 15, 16, 17, 18, 19, 20, 21, 22, 23, 24, 25, 26, 27, 28, 29, 30, 31, 32, 33, 34, 35, 36, 37, 38, 39, 40, 41, 42, 43, 44, 2, 3, 4, 5, 6] rfl rfl rfl (by decide) rfl (fun _ => rfl) (fun u21 H locs h hP hD hS => ?_)
    refine lv_aload_n hx hb dX6_undo_24 rfl (lv_at hl 0 rfl) ?_
    refine xcallv (wr := (wH cO aH aR u21.2 ++ (wR cI aR zR))) (w2 := fun (u25 : (CS) × (CS)) => (wS cI aS aT aB aH aM aC aZ u25.1 ++ (wB cI aB u21.1 ++ (wH cO aH aR u21.2 ++ (wR cI aR zR ++ (wM cI aM u25.2)))))) (va_runV (As := []) (rest := []) ⟨hx, hb, hml, hown, hts⟩ (mX6_renewRuns l D cI cO tA tS aS aT aB aH aM aC aZ zS u21.1 zM _ h) (cwV 0 hts gX6_undo_X6_renewRuns rfl rfl rfl (by decide +kernel) ⟨Nat.le_of_ble_eq_true rfl, Nat.le_of_ble_eq_true rfl⟩) (xpreV hP hD hS hA hK hE [0, 1, 2, 3, 4, 5, 6, 7, 40, 41, 42, 43, 44] rfl rfl 6 0 rfl rfl) rfl rfl hl.1 rfl (lv_room (Nat.le_of_ble_eq_true rfl)) dX6_undo_25 ⟨Nat.le_refl 0, Nat.le_refl 0⟩) hP hD hS hA [0, 1, 2, 3, 4, 5, 6, 7, 40, 41, 42, 43, 44] [8, 9, 10, 11, 12, 13, 14, 15, 16, 17, 18, 19, 20, 21, 22, 23, 24, 25, 26, 27, 28, 29, 30, 31, 32, 33, 34, 35, 36, 37, 38, 39] [32, 33, 34, 35, 36, 37, 38, 39, 0, 1, 2, 3, 4, 5, 6, 7, 8, 9, 10, 11, 12, 13, 14, 15, 16, 17, 18, 19, 20, 21, 22, 23, 24, 25, 26, 27, 28, 29, 30, 31, 40, 41, 42, 43, 44] rfl rfl rfl (by decide) rfl (fun _ => rfl) (fun u25 H locs h hP hD hS => ?_)
    refine lv_aload_n hx hb dX6_undo_28 rfl (lv_at hl 0 rfl) ?_
    refine va_get (D := D) (ci := 6) (v := .ref (aH 0)) (C := RX6) (T := TX6) (N := 10) hx hb hts jX6_undo_X6 hown hK hP 0 rfl rfl 2 (by decide) (hts (.fieldLink RX6 26 "BrotherAutomata" "history" "LBrotherAutomata$History;") (List.mem_of_getElem? (i := 1) rfl)) (fun _ h9 => h9) rfl dX6_undo_29 ?_
    refine va_getN (D := D) (ci := 1) (v := .int (u21.2 0 1)) (C := RX1) (T := TX1) (N := 3) hx hb hts jX6_undo_X1 hown hK hP 8 rfl rfl 2 (by decide) (va_Nw.use (w := .fieldLinkNest RX6 188 "BrotherAutomata$History" "kept" "I" "BrotherAutomata") rfl (hE.1 _ (List.mem_of_getElem? (i := 19) rfl))) (fun _ h9 => h9) rfl dX6_undo_32 ?_
    exact xiret (w := (w_X6_undo cI cO aS aT aB aH aM aC aZ aR zR)) (u25.1, u21.1, u21.2, u25.2) hx hb hr hlocks h hP hK hD hS dX6_undo_35
  · have h := hh1 hc
    refine lv_bipush (v := -3) hx hb dX6_undo_10 (by decide) ?_
    exact xiret (w := (w_X6_undo cI cO aS aT aB aH aM aC aZ aR zR)) (zS, zB, zH, zM) hx hb hr hlocks h hP hK hD hS dX6_undo_12
